theorem dL_day_407 : decode cL_day 407 = .ok (.if_icmp .ne 57, 3) := by decide +kernel
theorem dL_day_410 : decode cL_day 410 = .ok (.aload_n 0, 1) := by decide +kernel
theorem dL_day_411 : decode cL_day 411 = .ok (.bipush 20, 2) := by decide +kernel
theorem dL_day_413 : decode cL_day 413 = .ok (.iload 19, 2) := by decide +kernel
theorem dL_day_415 : decode cL_day 415 = .ok (.invokestatic 163, 3) := by decide +kernel
theorem dL_day_418 : decode cL_day 418 = .ok (.iconst 1, 1) := by decide +kernel
theorem dL_day_419 : decode cL_day 419 = .ok (.if_icmp .ne 39, 3) := by decide +kernel
theorem dL_day_422 : decode cL_day 422 = .ok (.aload_n 0, 1) := by decide +kernel
theorem dL_day_423 : decode cL_day 423 = .ok (.bipush 23, 2) := by decide +kernel
theorem dL_day_425 : decode cL_day 425 = .ok (.iload 19, 2) := by decide +kernel
theorem dL_day_427 : decode cL_day 427 = .ok (.invokestatic 163, 3) := by decide +kernel
theorem dL_day_430 : decode cL_day 430 = .ok (.aload 9, 2) := by decide +kernel
theorem dL_day_432 : decode cL_day 432 = .ok (.iload 19, 2) := by decide +kernel
theorem dL_day_434 : decode cL_day 434 = .ok (.iaload, 1) := by decide +kernel
theorem dL_day_435 : decode cL_day 435 = .ok (.if_icmp .ne 23, 3) := by decide +kernel
theorem dL_day_438 : decode cL_day 438 = .ok (.aload_n 0, 1) := by decide +kernel
theorem dL_day_439 : decode cL_day 439 = .ok (.bipush 24, 2) := by decide +kernel
theorem dL_day_441 : decode cL_day 441 = .ok (.iload 19, 2) := by decide +kernel
theorem dL_day_443 : decode cL_day 443 = .ok (.invokestatic 163, 3) := by decide +kernel
theorem dL_day_446 : decode cL_day 446 = .ok (.aload 11, 2) := by decide +kernel
theorem dL_day_448 : decode cL_day 448 = .ok (.iload 19, 2) := by decide +kernel
theorem dL_day_450 : decode cL_day 450 = .ok (.iaload, 1) := by decide +kernel
theorem dL_day_451 : decode cL_day 451 = .ok (.if_icmp .ne 7, 3) := by decide +kernel
theorem dL_day_454 : decode cL_day 454 = .ok (.iconst 1, 1) := by decide +kernel
theorem dL_day_455 : decode cL_day 455 = .ok (.goto 4, 3) := by decide +kernel
theorem dL_day_458 : decode cL_day 458 = .ok (.iconst 0, 1) := by decide +kernel
theorem dL_day_459 : decode cL_day 459 = .ok (.istore 17, 2) := by decide +kernel
theorem dL_day_461 : decode cL_day 461 = .ok (.goto 178, 3) := by decide +kernel
theorem dL_day_464 : decode cL_day 464 = .ok (.iload_n 1, 1) := by decide +kernel
theorem dL_day_465 : decode cL_day 465 = .ok (.ifCond .ne 30, 3) := by decide +kernel
theorem dL_day_468 : decode cL_day 468 = .ok (.iload 8, 2) := by decide +kernel
theorem dL_day_470 : decode cL_day 470 = .ok (.aload 13, 2) := by decide +kernel
theorem dL_day_472 : decode cL_day 472 = .ok (.iload 19, 2) := by decide +kernel
theorem dL_day_474 : decode cL_day 474 = .ok (.iaload, 1) := by decide +kernel
theorem dL_day_475 : decode cL_day 475 = .ok (.if_icmp .le 20, 3) := by decide +kernel
theorem dL_day_478 : decode cL_day 478 = .ok (.aload 11, 2) := by decide +kernel
theorem dL_day_480 : decode cL_day 480 = .ok (.iload 19, 2) := by decide +kernel
theorem dL_day_482 : decode cL_day 482 = .ok (.iaload, 1) := by decide +kernel
theorem dL_day_483 : decode cL_day 483 = .ok (.iload 8, 2) := by decide +kernel
theorem dL_day_485 : decode cL_day 485 = .ok (.iadd, 1) := by decide +kernel
theorem dL_day_486 : decode cL_day 486 = .ok (.aload 13, 2) := by decide +kernel
theorem dL_day_488 : decode cL_day 488 = .ok (.iload 19, 2) := by decide +kernel
theorem dL_day_490 : decode cL_day 490 = .ok (.iaload, 1) := by decide +kernel
theorem dL_day_491 : decode cL_day 491 = .ok (.isub, 1) := by decide +kernel
theorem dL_day_492 : decode cL_day 492 = .ok (.goto 15, 3) := by decide +kernel
theorem dL_day_495 : decode cL_day 495 = .ok (.iconst 0, 1) := by decide +kernel
theorem dL_day_496 : decode cL_day 496 = .ok (.aload 11, 2) := by decide +kernel
theorem dL_day_498 : decode cL_day 498 = .ok (.iload 19, 2) := by decide +kernel
theorem dL_day_500 : decode cL_day 500 = .ok (.iaload, 1) := by decide +kernel
theorem dL_day_501 : decode cL_day 501 = .ok (.bipush 10, 2) := by decide +kernel
theorem dL_day_503 : decode cL_day 503 = .ok (.isub, 1) := by decide +kernel
theorem dL_day_504 : decode cL_day 504 = .ok (.invokestatic 235, 3) := by decide +kernel
theorem dL_day_507 : decode cL_day 507 = .ok (.istore 20, 2) := by decide +kernel
theorem dL_day_509 : decode cL_day 509 = .ok (.iload 20, 2) := by decide +kernel
theorem dL_day_511 : decode cL_day 511 = .ok (.bipush 60, 2) := by decide +kernel
theorem dL_day_513 : decode cL_day 513 = .ok (.if_icmp .le 7, 3) := by decide +kernel
theorem dL_day_516 : decode cL_day 516 = .ok (.iconst 1, 1) := by decide +kernel
theorem dL_day_517 : decode cL_day 517 = .ok (.goto 4, 3) := by decide +kernel
theorem dL_day_520 : decode cL_day 520 = .ok (.iconst 0, 1) := by decide +kernel
theorem dL_day_521 : decode cL_day 521 = .ok (.istore 21, 2) := by decide +kernel
theorem dL_day_523 : decode cL_day 523 = .ok (.aload_n 0, 1) := by decide +kernel
theorem dL_day_524 : decode cL_day 524 = .ok (.bipush 24, 2) := by decide +kernel
theorem dL_day_526 : decode cL_day 526 = .ok (.iload 19, 2) := by decide +kernel
theorem dL_day_528 : decode cL_day 528 = .ok (.invokestatic 163, 3) := by decide +kernel
theorem dL_day_531 : decode cL_day 531 = .ok (.iload 21, 2) := by decide +kernel
theorem dL_day_533 : decode cL_day 533 = .ok (.ifCond .eq 7, 3) := by decide +kernel
theorem dL_day_536 : decode cL_day 536 = .ok (.iconst 0, 1) := by decide +kernel
theorem dL_day_537 : decode cL_day 537 = .ok (.goto 5, 3) := by decide +kernel
theorem dL_day_540 : decode cL_day 540 = .ok (.iload 20, 2) := by decide +kernel
theorem dL_day_542 : decode cL_day 542 = .ok (.if_icmp .ne 94, 3) := by decide +kernel
theorem dL_day_545 : decode cL_day 545 = .ok (.aload_n 0, 1) := by decide +kernel
theorem dL_day_546 : decode cL_day 546 = .ok (.bipush 25, 2) := by decide +kernel
theorem dL_day_548 : decode cL_day 548 = .ok (.iload 19, 2) := by decide +kernel
theorem dL_day_550 : decode cL_day 550 = .ok (.invokestatic 163, 3) := by decide +kernel
theorem dL_day_553 : decode cL_day 553 = .ok (.iload 21, 2) := by decide +kernel
theorem dL_day_555 : decode cL_day 555 = .ok (.ifCond .eq 13, 3) := by decide +kernel
theorem dL_day_558 : decode cL_day 558 = .ok (.aload 14, 2) := by decide +kernel
theorem dL_day_560 : decode cL_day 560 = .ok (.iload 19, 2) := by decide +kernel
theorem dL_day_562 : decode cL_day 562 = .ok (.iaload, 1) := by decide +kernel
theorem dL_day_563 : decode cL_day 563 = .ok (.iconst 3, 1) := by decide +kernel
theorem dL_day_564 : decode cL_day 564 = .ok (.iadd, 1) := by decide +kernel
theorem dL_day_565 : decode cL_day 565 = .ok (.goto 14, 3) := by decide +kernel
theorem dL_day_568 : decode cL_day 568 = .ok (.iconst 0, 1) := by decide +kernel
theorem dL_day_569 : decode cL_day 569 = .ok (.aload 14, 2) := by decide +kernel
theorem dL_day_571 : decode cL_day 571 = .ok (.iload 19, 2) := by decide +kernel
theorem dL_day_573 : decode cL_day 573 = .ok (.iaload, 1) := by decide +kernel
theorem dL_day_574 : decode cL_day 574 = .ok (.iconst 1, 1) := by decide +kernel
theorem dL_day_575 : decode cL_day 575 = .ok (.isub, 1) := by decide +kernel
theorem dL_day_576 : decode cL_day 576 = .ok (.invokestatic 235, 3) := by decide +kernel
theorem dL_day_579 : decode cL_day 579 = .ok (.if_icmp .ne 57, 3) := by decide +kernel
theorem dL_day_582 : decode cL_day 582 = .ok (.aload_n 0, 1) := by decide +kernel
theorem dL_day_583 : decode cL_day 583 = .ok (.bipush 23, 2) := by decide +kernel
theorem dL_day_585 : decode cL_day 585 = .ok (.iload 19, 2) := by decide +kernel
theorem dL_day_587 : decode cL_day 587 = .ok (.invokestatic 163, 3) := by decide +kernel
theorem dL_day_590 : decode cL_day 590 = .ok (.iconst 0, 1) := by decide +kernel
theorem dL_day_591 : decode cL_day 591 = .ok (.aload 9, 2) := by decide +kernel
theorem dL_day_593 : decode cL_day 593 = .ok (.iload 19, 2) := by decide +kernel
theorem dL_day_595 : decode cL_day 595 = .ok (.iaload, 1) := by decide +kernel
theorem dL_day_596 : decode cL_day 596 = .ok (.aload 10, 2) := by decide +kernel
theorem dL_day_598 : decode cL_day 598 = .ok (.iload 19, 2) := by decide +kernel
theorem dL_day_600 : decode cL_day 600 = .ok (.iaload, 1) := by decide +kernel
theorem dL_day_601 : decode cL_day 601 = .ok (.isub, 1) := by decide +kernel
theorem dL_day_602 : decode cL_day 602 = .ok (.invokestatic 235, 3) := by decide +kernel
theorem dL_day_605 : decode cL_day 605 = .ok (.if_icmp .ne 31, 3) := by decide +kernel
theorem dL_day_608 : decode cL_day 608 = .ok (.aload 9, 2) := by decide +kernel
theorem dL_day_610 : decode cL_day 610 = .ok (.iload 19, 2) := by decide +kernel
theorem dL_day_612 : decode cL_day 612 = .ok (.iaload, 1) := by decide +kernel
theorem dL_day_613 : decode cL_day 613 = .ok (.aload 10, 2) := by decide +kernel
theorem dL_day_615 : decode cL_day 615 = .ok (.iload 19, 2) := by decide +kernel
theorem dL_day_617 : decode cL_day 617 = .ok (.iaload, 1) := by decide +kernel
theorem dL_day_618 : decode cL_day 618 = .ok (.if_icmp .lt 14, 3) := by decide +kernel
theorem dL_day_621 : decode cL_day 621 = .ok (.aload_n 0, 1) := by decide +kernel
theorem dL_day_622 : decode cL_day 622 = .ok (.bipush 26, 2) := by decide +kernel
theorem dL_day_624 : decode cL_day 624 = .ok (.iload 19, 2) := by decide +kernel
theorem dL_day_626 : decode cL_day 626 = .ok (.invokestatic 163, 3) := by decide +kernel
theorem dL_day_629 : decode cL_day 629 = .ok (.ifCond .ne 7, 3) := by decide +kernel
theorem dL_day_632 : decode cL_day 632 = .ok (.iconst 1, 1) := by decide +kernel
theorem dL_day_633 : decode cL_day 633 = .ok (.goto 4, 3) := by decide +kernel
theorem dL_day_636 : decode cL_day 636 = .ok (.iconst 0, 1) := by decide +kernel
theorem dL_day_637 : decode cL_day 637 = .ok (.istore 17, 2) := by decide +kernel
theorem dL_day_639 : decode cL_day 639 = .ok (.iinc 19 1, 3) := by decide +kernel
theorem dL_day_642 : decode cL_day 642 = .ok (.goto (-253), 3) := by decide +kernel
theorem dL_day_645 : decode cL_day 645 = .ok (.iconst 0, 1) := by decide +kernel
theorem dL_day_646 : decode cL_day 646 = .ok (.istore 19, 2) := by decide +kernel
theorem dL_day_648 : decode cL_day 648 = .ok (.iload 19, 2) := by decide +kernel
theorem dL_day_650 : decode cL_day 650 = .ok (.aload_n 0, 1) := by decide +kernel
theorem dL_day_651 : decode cL_day 651 = .ok (.invokevirtual 225, 3) := by decide +kernel
theorem dL_day_654 : decode cL_day 654 = .ok (.if_icmp .ge 56, 3) := by decide +kernel
theorem dL_day_657 : decode cL_day 657 = .ok (.iload 17, 2) := by decide +kernel
theorem dL_day_659 : decode cL_day 659 = .ok (.ifCond .eq 51, 3) := by decide +kernel
theorem dL_day_662 : decode cL_day 662 = .ok (.aload_n 0, 1) := by decide +kernel
theorem dL_day_663 : decode cL_day 663 = .ok (.bipush 17, 2) := by decide +kernel
theorem dL_day_665 : decode cL_day 665 = .ok (.iload 19, 2) := by decide +kernel
theorem dL_day_667 : decode cL_day 667 = .ok (.invokestatic 163, 3) := by decide +kernel
theorem dL_day_670 : decode cL_day 670 = .ok (.aload 15, 2) := by decide +kernel
theorem dL_day_672 : decode cL_day 672 = .ok (.iload 19, 2) := by decide +kernel
theorem dL_day_674 : decode cL_day 674 = .ok (.iaload, 1) := by decide +kernel
theorem dL_day_675 : decode cL_day 675 = .ok (.if_icmp .lt 26, 3) := by decide +kernel
theorem dL_day_678 : decode cL_day 678 = .ok (.aload_n 0, 1) := by decide +kernel
theorem dL_day_679 : decode cL_day 679 = .ok (.bipush 17, 2) := by decide +kernel
theorem dL_day_681 : decode cL_day 681 = .ok (.iload 19, 2) := by decide +kernel
theorem dL_day_683 : decode cL_day 683 = .ok (.invokestatic 163, 3) := by decide +kernel
theorem dL_day_686 : decode cL_day 686 = .ok (.aload_n 0, 1) := by decide +kernel
theorem dL_day_687 : decode cL_day 687 = .ok (.bipush 16, 2) := by decide +kernel
theorem dL_day_689 : decode cL_day 689 = .ok (.iload 19, 2) := by decide +kernel
theorem dL_day_691 : decode cL_day 691 = .ok (.invokestatic 163, 3) := by decide +kernel
theorem dL_day_694 : decode cL_day 694 = .ok (.if_icmp .gt 7, 3) := by decide +kernel
theorem dL_day_697 : decode cL_day 697 = .ok (.iconst 1, 1) := by decide +kernel
theorem dL_day_698 : decode cL_day 698 = .ok (.goto 4, 3) := by decide +kernel
theorem dL_day_701 : decode cL_day 701 = .ok (.iconst 0, 1) := by decide +kernel
theorem dL_day_702 : decode cL_day 702 = .ok (.istore 17, 2) := by decide +kernel
theorem dL_day_704 : decode cL_day 704 = .ok (.iinc 19 1, 3) := by decide +kernel
theorem dL_day_707 : decode cL_day 707 = .ok (.goto (-59), 3) := by decide +kernel
theorem dL_day_710 : decode cL_day 710 = .ok (.iload 17, 2) := by decide +kernel
theorem dL_day_712 : decode cL_day 712 = .ok (.ifCond .eq 33, 3) := by decide +kernel
theorem dL_day_715 : decode cL_day 715 = .ok (.aload_n 0, 1) := by decide +kernel
theorem dL_day_716 : decode cL_day 716 = .ok (.invokestatic 268, 3) := by decide +kernel
theorem dL_day_719 : decode cL_day 719 = .ok (.ifCond .eq 26, 3) := by decide +kernel
theorem dL_day_722 : decode cL_day 722 = .ok (.aload_n 0, 1) := by decide +kernel
theorem dL_day_723 : decode cL_day 723 = .ok (.bipush 7, 2) := by decide +kernel
theorem dL_day_725 : decode cL_day 725 = .ok (.iconst 0, 1) := by decide +kernel
theorem dL_day_726 : decode cL_day 726 = .ok (.invokestatic 163, 3) := by decide +kernel
theorem dL_day_729 : decode cL_day 729 = .ok (.ifCond .lt 16, 3) := by decide +kernel
theorem dL_day_732 : decode cL_day 732 = .ok (.aload_n 0, 1) := by decide +kernel
theorem dL_day_733 : decode cL_day 733 = .ok (.invokestatic 257, 3) := by decide +kernel
theorem dL_day_736 : decode cL_day 736 = .ok (.lload_n 2, 1) := by decide +kernel
theorem dL_day_737 : decode cL_day 737 = .ok (.lcmp, 1) := by decide +kernel
theorem dL_day_738 : decode cL_day 738 = .ok (.ifCond .ne 7, 3) := by decide +kernel
theorem dL_day_741 : decode cL_day 741 = .ok (.iconst 1, 1) := by decide +kernel
theorem dL_day_742 : decode cL_day 742 = .ok (.goto 4, 3) := by decide +kernel
theorem dL_day_745 : decode cL_day 745 = .ok (.iconst 0, 1) := by decide +kernel
theorem dL_day_746 : decode cL_day 746 = .ok (.ireturn, 1) := by decide +kernel
theorem dL_works_0 : decode cL_works 0 = .ok (.aload_n 0, 1) := by decide +kernel
theorem dL_works_1 : decode cL_works 1 = .ok (.invokestatic 257, 3) := by decide +kernel
theorem dL_works_4 : decode cL_works 4 = .ok (.lstore_n 2, 1) := by decide +kernel
theorem dL_works_5 : decode cL_works 5 = .ok (.iconst 1, 1) := by decide +kernel
theorem dL_works_6 : decode cL_works 6 = .ok (.istore 4, 2) := by decide +kernel
theorem dL_works_8 : decode cL_works 8 = .ok (.aload_n 0, 1) := by decide +kernel
theorem dL_works_9 : decode cL_works 9 = .ok (.bipush 18, 2) := by decide +kernel
theorem dL_works_11 : decode cL_works 11 = .ok (.iconst 0, 1) := by decide +kernel
theorem dL_works_12 : decode cL_works 12 = .ok (.invokestatic 163, 3) := by decide +kernel
theorem dL_works_15 : decode cL_works 15 = .ok (.istore 5, 2) := by decide +kernel
theorem dL_works_17 : decode cL_works 17 = .ok (.aload_n 0, 1) := by decide +kernel
theorem dL_works_18 : decode cL_works 18 = .ok (.invokevirtual 222, 3) := by decide +kernel
theorem dL_works_21 : decode cL_works 21 = .ok (.istore 6, 2) := by decide +kernel
theorem dL_works_23 : decode cL_works 23 = .ok (.iconst 0, 1) := by decide +kernel
theorem dL_works_24 : decode cL_works 24 = .ok (.istore 7, 2) := by decide +kernel
theorem dL_works_26 : decode cL_works 26 = .ok (.bipush 10, 2) := by decide +kernel
theorem dL_works_28 : decode cL_works 28 = .ok (.newarray .int, 2) := by decide +kernel
theorem dL_works_30 : decode cL_works 30 = .ok (.astore 8, 2) := by decide +kernel
theorem dL_works_32 : decode cL_works 32 = .ok (.iconst 0, 1) := by decide +kernel
theorem dL_works_33 : decode cL_works 33 = .ok (.istore 9, 2) := by decide +kernel
theorem dL_works_35 : decode cL_works 35 = .ok (.iload 9, 2) := by decide +kernel
theorem dL_works_37 : decode cL_works 37 = .ok (.iload 6, 2) := by decide +kernel
theorem dL_works_39 : decode cL_works 39 = .ok (.if_icmp .ge 79, 3) := by decide +kernel
theorem dL_works_42 : decode cL_works 42 = .ok (.iload 4, 2) := by decide +kernel
theorem dL_works_44 : decode cL_works 44 = .ok (.ifCond .eq 74, 3) := by decide +kernel
theorem dL_works_47 : decode cL_works 47 = .ok (.aload_n 0, 1) := by decide +kernel
theorem dL_works_48 : decode cL_works 48 = .ok (.bipush 40, 2) := by decide +kernel
theorem dL_works_50 : decode cL_works 50 = .ok (.iload 9, 2) := by decide +kernel
theorem dL_works_52 : decode cL_works 52 = .ok (.invokestatic 163, 3) := by decide +kernel
theorem dL_works_55 : decode cL_works 55 = .ok (.istore 10, 2) := by decide +kernel
theorem dL_works_57 : decode cL_works 57 = .ok (.iload 5, 2) := by decide +kernel
theorem dL_works_59 : decode cL_works 59 = .ok (.ifCond .ge 18, 3) := by decide +kernel
theorem dL_works_62 : decode cL_works 62 = .ok (.iload 10, 2) := by decide +kernel
theorem dL_works_64 : decode cL_works 64 = .ok (.bipush (-102), 2) := by decide +kernel
theorem dL_works_66 : decode cL_works 66 = .ok (.if_icmp .ne 7, 3) := by decide +kernel
theorem dL_works_69 : decode cL_works 69 = .ok (.iconst 1, 1) := by decide +kernel
theorem dL_works_70 : decode cL_works 70 = .ok (.goto 17, 3) := by decide +kernel
theorem dL_works_73 : decode cL_works 73 = .ok (.iconst 0, 1) := by decide +kernel
theorem dL_works_74 : decode cL_works 74 = .ok (.goto 13, 3) := by decide +kernel
theorem dL_works_77 : decode cL_works 77 = .ok (.iload 10, 2) := by decide +kernel
theorem dL_works_79 : decode cL_works 79 = .ok (.ifCond .lt 7, 3) := by decide +kernel
theorem dL_works_82 : decode cL_works 82 = .ok (.iconst 1, 1) := by decide +kernel
theorem dL_works_83 : decode cL_works 83 = .ok (.goto 4, 3) := by decide +kernel
theorem dL_works_86 : decode cL_works 86 = .ok (.iconst 0, 1) := by decide +kernel
theorem dL_works_87 : decode cL_works 87 = .ok (.istore 4, 2) := by decide +kernel
theorem dL_works_89 : decode cL_works 89 = .ok (.aload 8, 2) := by decide +kernel
theorem dL_works_91 : decode cL_works 91 = .ok (.iload 9, 2) := by decide +kernel
theorem dL_works_93 : decode cL_works 93 = .ok (.aload_n 0, 1) := by decide +kernel
theorem dL_works_94 : decode cL_works 94 = .ok (.bipush 23, 2) := by decide +kernel
theorem dL_works_96 : decode cL_works 96 = .ok (.iload 9, 2) := by decide +kernel
theorem dL_works_98 : decode cL_works 98 = .ok (.invokestatic 163, 3) := by decide +kernel
theorem dL_works_101 : decode cL_works 101 = .ok (.iload 10, 2) := by decide +kernel
theorem dL_works_103 : decode cL_works 103 = .ok (.iadd, 1) := by decide +kernel
theorem dL_works_104 : decode cL_works 104 = .ok (.iastore, 1) := by decide +kernel
theorem dL_works_105 : decode cL_works 105 = .ok (.iload 7, 2) := by decide +kernel
theorem dL_works_107 : decode cL_works 107 = .ok (.iload 10, 2) := by decide +kernel
theorem dL_works_109 : decode cL_works 109 = .ok (.iadd, 1) := by decide +kernel
theorem dL_works_110 : decode cL_works 110 = .ok (.istore 7, 2) := by decide +kernel
theorem dL_works_112 : decode cL_works 112 = .ok (.iinc 9 1, 3) := by decide +kernel
theorem dL_works_115 : decode cL_works 115 = .ok (.goto (-80), 3) := by decide +kernel
theorem dL_works_118 : decode cL_works 118 = .ok (.aload_n 0, 1) := by decide +kernel
theorem dL_works_119 : decode cL_works 119 = .ok (.invokevirtual 219, 3) := by decide +kernel
theorem dL_works_122 : decode cL_works 122 = .ok (.istore 9, 2) := by decide +kernel
theorem dL_works_124 : decode cL_works 124 = .ok (.iload 5, 2) := by decide +kernel
theorem dL_works_126 : decode cL_works 126 = .ok (.ifCond .ge 7, 3) := by decide +kernel
theorem dL_works_129 : decode cL_works 129 = .ok (.iconst 0, 1) := by decide +kernel
theorem dL_works_130 : decode cL_works 130 = .ok (.goto 11, 3) := by decide +kernel
theorem dL_works_133 : decode cL_works 133 = .ok (.aload_n 0, 1) := by decide +kernel
theorem dL_works_134 : decode cL_works 134 = .ok (.bipush 17, 2) := by decide +kernel
theorem dL_works_136 : decode cL_works 136 = .ok (.iload 5, 2) := by decide +kernel
theorem dL_works_138 : decode cL_works 138 = .ok (.invokestatic 163, 3) := by decide +kernel
theorem dL_works_141 : decode cL_works 141 = .ok (.istore 10, 2) := by decide +kernel
theorem dL_works_143 : decode cL_works 143 = .ok (.aload_n 0, 1) := by decide +kernel
theorem dL_works_144 : decode cL_works 144 = .ok (.iconst 2, 1) := by decide +kernel
theorem dL_works_145 : decode cL_works 145 = .ok (.iconst 0, 1) := by decide +kernel
theorem dL_works_146 : decode cL_works 146 = .ok (.invokestatic 163, 3) := by decide +kernel
theorem dL_works_149 : decode cL_works 149 = .ok (.istore 11, 2) := by decide +kernel
theorem dL_works_151 : decode cL_works 151 = .ok (.iload 5, 2) := by decide +kernel
theorem dL_works_153 : decode cL_works 153 = .ok (.ifCond .ge 25, 3) := by decide +kernel
theorem dL_works_156 : decode cL_works 156 = .ok (.iload 4, 2) := by decide +kernel
theorem dL_works_158 : decode cL_works 158 = .ok (.ifCond .eq 14, 3) := by decide +kernel
theorem dL_works_161 : decode cL_works 161 = .ok (.iload 11, 2) := by decide +kernel
theorem dL_works_163 : decode cL_works 163 = .ok (.bipush (-102), 2) := by decide +kernel
theorem dL_works_165 : decode cL_works 165 = .ok (.if_icmp .ne 7, 3) := by decide +kernel
theorem dL_works_168 : decode cL_works 168 = .ok (.iconst 1, 1) := by decide +kernel
theorem dL_works_169 : decode cL_works 169 = .ok (.goto 4, 3) := by decide +kernel
theorem dL_works_172 : decode cL_works 172 = .ok (.iconst 0, 1) := by decide +kernel
theorem dL_works_173 : decode cL_works 173 = .ok (.istore 4, 2) := by decide +kernel
theorem dL_works_175 : decode cL_works 175 = .ok (.goto 194, 3) := by decide +kernel
theorem dL_works_178 : decode cL_works 178 = .ok (.iload 4, 2) := by decide +kernel
theorem dL_works_180 : decode cL_works 180 = .ok (.ifCond .eq 42, 3) := by decide +kernel
theorem dL_works_183 : decode cL_works 183 = .ok (.iload 11, 2) := by decide +kernel
theorem dL_works_185 : decode cL_works 185 = .ok (.iload 7, 2) := by decide +kernel
theorem dL_works_187 : decode cL_works 187 = .ok (.if_icmp .ne 35, 3) := by decide +kernel
theorem dL_works_190 : decode cL_works 190 = .ok (.aload_n 0, 1) := by decide +kernel
theorem dL_works_191 : decode cL_works 191 = .ok (.invokevirtual 219, 3) := by decide +kernel
theorem dL_works_194 : decode cL_works 194 = .ok (.iload 9, 2) := by decide +kernel
theorem dL_works_196 : decode cL_works 196 = .ok (.iload 7, 2) := by decide +kernel
theorem dL_works_198 : decode cL_works 198 = .ok (.iadd, 1) := by decide +kernel
theorem dL_works_199 : decode cL_works 199 = .ok (.if_icmp .ne 23, 3) := by decide +kernel
theorem dL_works_202 : decode cL_works 202 = .ok (.aload_n 0, 1) := by decide +kernel
theorem dL_works_203 : decode cL_works 203 = .ok (.bipush 17, 2) := by decide +kernel
theorem dL_works_205 : decode cL_works 205 = .ok (.iload 5, 2) := by decide +kernel
theorem dL_works_207 : decode cL_works 207 = .ok (.invokestatic 163, 3) := by decide +kernel
theorem dL_works_210 : decode cL_works 210 = .ok (.iload 10, 2) := by decide +kernel
theorem dL_works_212 : decode cL_works 212 = .ok (.iload 7, 2) := by decide +kernel
theorem dL_works_214 : decode cL_works 214 = .ok (.isub, 1) := by decide +kernel
theorem dL_works_215 : decode cL_works 215 = .ok (.if_icmp .ne 7, 3) := by decide +kernel
theorem dL_works_218 : decode cL_works 218 = .ok (.iconst 1, 1) := by decide +kernel
theorem dL_works_219 : decode cL_works 219 = .ok (.goto 4, 3) := by decide +kernel
theorem dL_works_222 : decode cL_works 222 = .ok (.iconst 0, 1) := by decide +kernel
theorem dL_works_223 : decode cL_works 223 = .ok (.istore 4, 2) := by decide +kernel
theorem dL_works_225 : decode cL_works 225 = .ok (.iconst 1, 1) := by decide +kernel
theorem dL_works_226 : decode cL_works 226 = .ok (.istore 12, 2) := by decide +kernel
theorem dL_works_228 : decode cL_works 228 = .ok (.iconst 0, 1) := by decide +kernel
theorem dL_works_229 : decode cL_works 229 = .ok (.istore 13, 2) := by decide +kernel
theorem dL_works_231 : decode cL_works 231 = .ok (.iload 13, 2) := by decide +kernel
theorem dL_works_233 : decode cL_works 233 = .ok (.iload 6, 2) := by decide +kernel
theorem dL_works_235 : decode cL_works 235 = .ok (.if_icmp .ge 93, 3) := by decide +kernel
theorem dL_works_238 : decode cL_works 238 = .ok (.iload 4, 2) := by decide +kernel
theorem dL_works_240 : decode cL_works 240 = .ok (.ifCond .eq 88, 3) := by decide +kernel
theorem dL_works_243 : decode cL_works 243 = .ok (.aload_n 0, 1) := by decide +kernel
theorem dL_works_244 : decode cL_works 244 = .ok (.bipush 23, 2) := by decide +kernel
theorem dL_works_246 : decode cL_works 246 = .ok (.iload 13, 2) := by decide +kernel
theorem dL_works_248 : decode cL_works 248 = .ok (.invokestatic 163, 3) := by decide +kernel
theorem dL_works_251 : decode cL_works 251 = .ok (.aload 8, 2) := by decide +kernel
theorem dL_works_253 : decode cL_works 253 = .ok (.iload 13, 2) := by decide +kernel
theorem dL_works_255 : decode cL_works 255 = .ok (.iaload, 1) := by decide +kernel
theorem dL_works_256 : decode cL_works 256 = .ok (.if_icmp .ne 23, 3) := by decide +kernel
theorem dL_works_259 : decode cL_works 259 = .ok (.aload 8, 2) := by decide +kernel
theorem dL_works_261 : decode cL_works 261 = .ok (.iload 13, 2) := by decide +kernel
theorem dL_works_263 : decode cL_works 263 = .ok (.iaload, 1) := by decide +kernel
theorem dL_works_264 : decode cL_works 264 = .ok (.aload_n 0, 1) := by decide +kernel
theorem dL_works_265 : decode cL_works 265 = .ok (.bipush 22, 2) := by decide +kernel
theorem dL_works_267 : decode cL_works 267 = .ok (.iload 13, 2) := by decide +kernel
theorem dL_works_269 : decode cL_works 269 = .ok (.invokestatic 163, 3) := by decide +kernel
theorem dL_works_272 : decode cL_works 272 = .ok (.if_icmp .gt 7, 3) := by decide +kernel
theorem dL_works_275 : decode cL_works 275 = .ok (.iconst 1, 1) := by decide +kernel
theorem dL_works_276 : decode cL_works 276 = .ok (.goto 4, 3) := by decide +kernel
theorem dL_works_279 : decode cL_works 279 = .ok (.iconst 0, 1) := by decide +kernel
theorem dL_works_280 : decode cL_works 280 = .ok (.istore 4, 2) := by decide +kernel
theorem dL_works_282 : decode cL_works 282 = .ok (.iload 12, 2) := by decide +kernel
theorem dL_works_284 : decode cL_works 284 = .ok (.ifCond .eq 35, 3) := by decide +kernel
theorem dL_works_287 : decode cL_works 287 = .ok (.aload_n 0, 1) := by decide +kernel
theorem dL_works_288 : decode cL_works 288 = .ok (.bipush 20, 2) := by decide +kernel
theorem dL_works_290 : decode cL_works 290 = .ok (.iload 13, 2) := by decide +kernel
theorem dL_works_292 : decode cL_works 292 = .ok (.invokestatic 163, 3) := by decide +kernel
theorem dL_works_295 : decode cL_works 295 = .ok (.iconst 1, 1) := by decide +kernel
theorem dL_works_296 : decode cL_works 296 = .ok (.if_icmp .eq 19, 3) := by decide +kernel
theorem dL_works_299 : decode cL_works 299 = .ok (.aload 8, 2) := by decide +kernel
theorem dL_works_301 : decode cL_works 301 = .ok (.iload 13, 2) := by decide +kernel
theorem dL_works_303 : decode cL_works 303 = .ok (.iaload, 1) := by decide +kernel
theorem dL_works_304 : decode cL_works 304 = .ok (.aload_n 0, 1) := by decide +kernel
theorem dL_works_305 : decode cL_works 305 = .ok (.bipush 22, 2) := by decide +kernel
theorem dL_works_307 : decode cL_works 307 = .ok (.iload 13, 2) := by decide +kernel
theorem dL_works_309 : decode cL_works 309 = .ok (.invokestatic 163, 3) := by decide +kernel
theorem dL_works_312 : decode cL_works 312 = .ok (.if_icmp .ne 7, 3) := by decide +kernel
theorem dL_works_315 : decode cL_works 315 = .ok (.iconst 1, 1) := by decide +kernel
theorem dL_works_316 : decode cL_works 316 = .ok (.goto 4, 3) := by decide +kernel
theorem dL_works_319 : decode cL_works 319 = .ok (.iconst 0, 1) := by decide +kernel
theorem dL_works_320 : decode cL_works 320 = .ok (.istore 12, 2) := by decide +kernel
theorem dL_works_322 : decode cL_works 322 = .ok (.iinc 13 1, 3) := by decide +kernel
theorem dL_works_325 : decode cL_works 325 = .ok (.goto (-94), 3) := by decide +kernel
theorem dL_works_328 : decode cL_works 328 = .ok (.iload 4, 2) := by decide +kernel
theorem dL_works_330 : decode cL_works 330 = .ok (.ifCond .eq 36, 3) := by decide +kernel
theorem dL_works_333 : decode cL_works 333 = .ok (.iload 12, 2) := by decide +kernel
theorem dL_works_335 : decode cL_works 335 = .ok (.ifCond .ne 10, 3) := by decide +kernel
theorem dL_works_338 : decode cL_works 338 = .ok (.iload 10, 2) := by decide +kernel
theorem dL_works_340 : decode cL_works 340 = .ok (.iload 7, 2) := by decide +kernel
theorem dL_works_342 : decode cL_works 342 = .ok (.if_icmp .ne 24, 3) := by decide +kernel
theorem dL_works_345 : decode cL_works 345 = .ok (.aload_n 0, 1) := by decide +kernel
theorem dL_works_346 : decode cL_works 346 = .ok (.invokestatic 268, 3) := by decide +kernel
theorem dL_works_349 : decode cL_works 349 = .ok (.ifCond .eq 17, 3) := by decide +kernel
theorem dL_works_352 : decode cL_works 352 = .ok (.aload_n 0, 1) := by decide +kernel
theorem dL_works_353 : decode cL_works 353 = .ok (.bipush 7, 2) := by decide +kernel
theorem dL_works_355 : decode cL_works 355 = .ok (.iconst 0, 1) := by decide +kernel
theorem dL_works_356 : decode cL_works 356 = .ok (.invokestatic 163, 3) := by decide +kernel
theorem dL_works_359 : decode cL_works 359 = .ok (.ifCond .lt 7, 3) := by decide +kernel
theorem dL_works_362 : decode cL_works 362 = .ok (.iconst 1, 1) := by decide +kernel
theorem dL_works_363 : decode cL_works 363 = .ok (.goto 4, 3) := by decide +kernel
theorem dL_works_366 : decode cL_works 366 = .ok (.iconst 0, 1) := by decide +kernel
theorem dL_works_367 : decode cL_works 367 = .ok (.istore 4, 2) := by decide +kernel
theorem dL_works_369 : decode cL_works 369 = .ok (.iconst 0, 1) := by decide +kernel
theorem dL_works_370 : decode cL_works 370 = .ok (.istore 12, 2) := by decide +kernel
theorem dL_works_372 : decode cL_works 372 = .ok (.iload 12, 2) := by decide +kernel
theorem dL_works_374 : decode cL_works 374 = .ok (.aload_n 0, 1) := by decide +kernel
theorem dL_works_375 : decode cL_works 375 = .ok (.invokevirtual 228, 3) := by decide +kernel
theorem dL_works_378 : decode cL_works 378 = .ok (.if_icmp .ge 275, 3) := by decide +kernel
theorem dL_works_381 : decode cL_works 381 = .ok (.iload 4, 2) := by decide +kernel
theorem dL_works_383 : decode cL_works 383 = .ok (.ifCond .eq 270, 3) := by decide +kernel
theorem dL_works_386 : decode cL_works 386 = .ok (.iload_n 1, 1) := by decide +kernel
theorem dL_works_387 : decode cL_works 387 = .ok (.iload 12, 2) := by decide +kernel
theorem dL_works_389 : decode cL_works 389 = .ok (.ishr, 1) := by decide +kernel
theorem dL_works_390 : decode cL_works 390 = .ok (.sipush 255, 3) := by decide +kernel
theorem dL_works_393 : decode cL_works 393 = .ok (.iand, 1) := by decide +kernel
theorem dL_works_394 : decode cL_works 394 = .ok (.iload 6, 2) := by decide +kernel
theorem dL_works_396 : decode cL_works 396 = .ok (.irem, 1) := by decide +kernel
theorem dL_works_397 : decode cL_works 397 = .ok (.istore 13, 2) := by decide +kernel
theorem dL_works_399 : decode cL_works 399 = .ok (.aload_n 0, 1) := by decide +kernel
theorem dL_works_400 : decode cL_works 400 = .ok (.bipush 35, 2) := by decide +kernel
theorem dL_works_402 : decode cL_works 402 = .ok (.iload 12, 2) := by decide +kernel
theorem dL_works_404 : decode cL_works 404 = .ok (.invokestatic 163, 3) := by decide +kernel
theorem dL_works_407 : decode cL_works 407 = .ok (.istore 14, 2) := by decide +kernel
theorem dL_works_409 : decode cL_works 409 = .ok (.aload_n 0, 1) := by decide +kernel
theorem dL_works_410 : decode cL_works 410 = .ok (.bipush 32, 2) := by decide +kernel
theorem dL_works_412 : decode cL_works 412 = .ok (.iload 12, 2) := by decide +kernel
theorem dL_works_414 : decode cL_works 414 = .ok (.invokestatic 163, 3) := by decide +kernel
theorem dL_works_417 : decode cL_works 417 = .ok (.istore 15, 2) := by decide +kernel
theorem dL_works_419 : decode cL_works 419 = .ok (.aload_n 0, 1) := by decide +kernel
theorem dL_works_420 : decode cL_works 420 = .ok (.bipush 28, 2) := by decide +kernel
theorem dL_works_422 : decode cL_works 422 = .ok (.iload 13, 2) := by decide +kernel
theorem dL_works_424 : decode cL_works 424 = .ok (.invokestatic 163, 3) := by decide +kernel
theorem dL_works_427 : decode cL_works 427 = .ok (.istore 16, 2) := by decide +kernel
theorem dL_works_429 : decode cL_works 429 = .ok (.aload_n 0, 1) := by decide +kernel
theorem dL_works_430 : decode cL_works 430 = .ok (.bipush 20, 2) := by decide +kernel
theorem dL_works_432 : decode cL_works 432 = .ok (.iload 13, 2) := by decide +kernel
theorem dL_works_434 : decode cL_works 434 = .ok (.invokestatic 163, 3) := by decide +kernel
theorem dL_works_437 : decode cL_works 437 = .ok (.ifCond .ne 36, 3) := by decide +kernel
theorem dL_works_440 : decode cL_works 440 = .ok (.iload 14, 2) := by decide +kernel
theorem dL_works_442 : decode cL_works 442 = .ok (.iload 13, 2) := by decide +kernel
theorem dL_works_444 : decode cL_works 444 = .ok (.if_icmp .eq 29, 3) := by decide +kernel
theorem dL_works_447 : decode cL_works 447 = .ok (.aload_n 0, 1) := by decide +kernel
theorem dL_works_448 : decode cL_works 448 = .ok (.bipush 36, 2) := by decide +kernel
theorem dL_works_450 : decode cL_works 450 = .ok (.iload 12, 2) := by decide +kernel
theorem dL_works_452 : decode cL_works 452 = .ok (.invokestatic 163, 3) := by decide +kernel
theorem dL_works_455 : decode cL_works 455 = .ok (.aload_n 0, 1) := by decide +kernel
theorem dL_works_456 : decode cL_works 456 = .ok (.invokevirtual 202, 3) := by decide +kernel
theorem dL_works_459 : decode cL_works 459 = .ok (.if_icmp .ne 14, 3) := by decide +kernel
theorem dL_works_462 : decode cL_works 462 = .ok (.iload 15, 2) := by decide +kernel
theorem dL_works_464 : decode cL_works 464 = .ok (.iload 16, 2) := by decide +kernel
theorem dL_works_466 : decode cL_works 466 = .ok (.if_icmp .gt 7, 3) := by decide +kernel
theorem dL_works_469 : decode cL_works 469 = .ok (.iconst 1, 1) := by decide +kernel
theorem dL_works_470 : decode cL_works 470 = .ok (.goto 4, 3) := by decide +kernel
theorem dL_works_473 : decode cL_works 473 = .ok (.iconst 0, 1) := by decide +kernel
theorem dL_works_474 : decode cL_works 474 = .ok (.istore 17, 2) := by decide +kernel
theorem dL_works_476 : decode cL_works 476 = .ok (.aload_n 0, 1) := by decide +kernel
theorem dL_works_477 : decode cL_works 477 = .ok (.iconst 4, 1) := by decide +kernel
theorem dL_works_478 : decode cL_works 478 = .ok (.iload 12, 2) := by decide +kernel
theorem dL_works_480 : decode cL_works 480 = .ok (.iload 13, 2) := by decide +kernel
theorem dL_works_482 : decode cL_works 482 = .ok (.invokestatic 272, 3) := by decide +kernel
theorem dL_works_485 : decode cL_works 485 = .ok (.istore 11, 2) := by decide +kernel
theorem dL_works_487 : decode cL_works 487 = .ok (.iload 17, 2) := by decide +kernel
theorem dL_works_489 : decode cL_works 489 = .ok (.ifCond .eq 53, 3) := by decide +kernel
theorem dL_works_492 : decode cL_works 492 = .ok (.iload 11, 2) := by decide +kernel
theorem dL_works_494 : decode cL_works 494 = .ok (.iload 16, 2) := by decide +kernel
theorem dL_works_496 : decode cL_works 496 = .ok (.iload 15, 2) := by decide +kernel
theorem dL_works_498 : decode cL_works 498 = .ok (.isub, 1) := by decide +kernel
theorem dL_works_499 : decode cL_works 499 = .ok (.if_icmp .ne 37, 3) := by decide +kernel
theorem dL_works_502 : decode cL_works 502 = .ok (.aload_n 0, 1) := by decide +kernel
theorem dL_works_503 : decode cL_works 503 = .ok (.bipush 35, 2) := by decide +kernel
theorem dL_works_505 : decode cL_works 505 = .ok (.iload 12, 2) := by decide +kernel
theorem dL_works_507 : decode cL_works 507 = .ok (.invokestatic 163, 3) := by decide +kernel
theorem dL_works_510 : decode cL_works 510 = .ok (.iload 13, 2) := by decide +kernel
theorem dL_works_512 : decode cL_works 512 = .ok (.if_icmp .ne 24, 3) := by decide +kernel
theorem dL_works_515 : decode cL_works 515 = .ok (.aload_n 0, 1) := by decide +kernel
theorem dL_works_516 : decode cL_works 516 = .ok (.invokestatic 268, 3) := by decide +kernel
theorem dL_works_519 : decode cL_works 519 = .ok (.ifCond .eq 17, 3) := by decide +kernel
theorem dL_works_522 : decode cL_works 522 = .ok (.aload_n 0, 1) := by decide +kernel
theorem dL_works_523 : decode cL_works 523 = .ok (.bipush 7, 2) := by decide +kernel
theorem dL_works_525 : decode cL_works 525 = .ok (.iconst 0, 1) := by decide +kernel
theorem dL_works_526 : decode cL_works 526 = .ok (.invokestatic 163, 3) := by decide +kernel
theorem dL_works_529 : decode cL_works 529 = .ok (.ifCond .lt 7, 3) := by decide +kernel
theorem dL_works_532 : decode cL_works 532 = .ok (.iconst 1, 1) := by decide +kernel
theorem dL_works_533 : decode cL_works 533 = .ok (.goto 4, 3) := by decide +kernel
theorem dL_works_536 : decode cL_works 536 = .ok (.iconst 0, 1) := by decide +kernel
theorem dL_works_537 : decode cL_works 537 = .ok (.istore 4, 2) := by decide +kernel
theorem dL_works_539 : decode cL_works 539 = .ok (.goto 17, 3) := by decide +kernel
theorem dL_works_542 : decode cL_works 542 = .ok (.iload 11, 2) := by decide +kernel
theorem dL_works_544 : decode cL_works 544 = .ok (.bipush (-102), 2) := by decide +kernel
theorem dL_works_546 : decode cL_works 546 = .ok (.if_icmp .ne 7, 3) := by decide +kernel
theorem dL_works_549 : decode cL_works 549 = .ok (.iconst 1, 1) := by decide +kernel
theorem dL_works_550 : decode cL_works 550 = .ok (.goto 4, 3) := by decide +kernel
theorem dL_works_553 : decode cL_works 553 = .ok (.iconst 0, 1) := by decide +kernel
theorem dL_works_554 : decode cL_works 554 = .ok (.istore 4, 2) := by decide +kernel
theorem dL_works_556 : decode cL_works 556 = .ok (.aload_n 0, 1) := by decide +kernel
theorem dL_works_557 : decode cL_works 557 = .ok (.iconst 5, 1) := by decide +kernel
theorem dL_works_558 : decode cL_works 558 = .ok (.iload 12, 2) := by decide +kernel
theorem dL_works_560 : decode cL_works 560 = .ok (.invokestatic 163, 3) := by decide +kernel
theorem dL_works_563 : decode cL_works 563 = .ok (.istore 11, 2) := by decide +kernel
theorem dL_works_565 : decode cL_works 565 = .ok (.iload 14, 2) := by decide +kernel
theorem dL_works_567 : decode cL_works 567 = .ok (.ifCond .ge 25, 3) := by decide +kernel
theorem dL_works_570 : decode cL_works 570 = .ok (.iload 4, 2) := by decide +kernel
theorem dL_works_572 : decode cL_works 572 = .ok (.ifCond .eq 14, 3) := by decide +kernel
theorem dL_works_575 : decode cL_works 575 = .ok (.iload 11, 2) := by decide +kernel
theorem dL_works_577 : decode cL_works 577 = .ok (.bipush (-102), 2) := by decide +kernel
theorem dL_works_579 : decode cL_works 579 = .ok (.if_icmp .ne 7, 3) := by decide +kernel
theorem dL_works_582 : decode cL_works 582 = .ok (.iconst 1, 1) := by decide +kernel
theorem dL_works_583 : decode cL_works 583 = .ok (.goto 4, 3) := by decide +kernel
theorem dL_works_586 : decode cL_works 586 = .ok (.iconst 0, 1) := by decide +kernel
theorem dL_works_587 : decode cL_works 587 = .ok (.istore 4, 2) := by decide +kernel
theorem dL_works_589 : decode cL_works 589 = .ok (.goto 58, 3) := by decide +kernel
theorem dL_works_592 : decode cL_works 592 = .ok (.iload 4, 2) := by decide +kernel
theorem dL_works_594 : decode cL_works 594 = .ok (.ifCond .eq 50, 3) := by decide +kernel
theorem dL_works_597 : decode cL_works 597 = .ok (.iload 11, 2) := by decide +kernel
theorem dL_works_599 : decode cL_works 599 = .ok (.iload 14, 2) := by decide +kernel
theorem dL_works_601 : decode cL_works 601 = .ok (.if_icmp .ne 43, 3) := by decide +kernel
theorem dL_works_604 : decode cL_works 604 = .ok (.aload_n 0, 1) := by decide +kernel
theorem dL_works_605 : decode cL_works 605 = .ok (.bipush 34, 2) := by decide +kernel
theorem dL_works_607 : decode cL_works 607 = .ok (.iload 12, 2) := by decide +kernel
theorem dL_works_609 : decode cL_works 609 = .ok (.invokestatic 163, 3) := by decide +kernel
theorem dL_works_612 : decode cL_works 612 = .ok (.ifCond .ne 32, 3) := by decide +kernel
theorem dL_works_615 : decode cL_works 615 = .ok (.aload_n 0, 1) := by decide +kernel
theorem dL_works_616 : decode cL_works 616 = .ok (.bipush 36, 2) := by decide +kernel
theorem dL_works_618 : decode cL_works 618 = .ok (.iload 12, 2) := by decide +kernel
theorem dL_works_620 : decode cL_works 620 = .ok (.invokestatic 163, 3) := by decide +kernel
theorem dL_works_623 : decode cL_works 623 = .ok (.aload_n 0, 1) := by decide +kernel
theorem dL_works_624 : decode cL_works 624 = .ok (.invokevirtual 202, 3) := by decide +kernel
theorem dL_works_627 : decode cL_works 627 = .ok (.if_icmp .ne 17, 3) := by decide +kernel
theorem dL_works_630 : decode cL_works 630 = .ok (.aload_n 0, 1) := by decide +kernel
theorem dL_works_631 : decode cL_works 631 = .ok (.bipush 7, 2) := by decide +kernel
theorem dL_works_633 : decode cL_works 633 = .ok (.iconst 0, 1) := by decide +kernel
theorem dL_works_634 : decode cL_works 634 = .ok (.invokestatic 163, 3) := by decide +kernel
theorem dL_works_637 : decode cL_works 637 = .ok (.ifCond .lt 7, 3) := by decide +kernel
theorem dL_works_640 : decode cL_works 640 = .ok (.iconst 1, 1) := by decide +kernel
theorem dL_works_641 : decode cL_works 641 = .ok (.goto 4, 3) := by decide +kernel
theorem dL_works_644 : decode cL_works 644 = .ok (.iconst 0, 1) := by decide +kernel
theorem dL_works_645 : decode cL_works 645 = .ok (.istore 4, 2) := by decide +kernel
theorem dL_works_647 : decode cL_works 647 = .ok (.iinc 12 1, 3) := by decide +kernel
theorem dL_works_650 : decode cL_works 650 = .ok (.goto (-278), 3) := by decide +kernel
theorem dL_works_653 : decode cL_works 653 = .ok (.iconst 0, 1) := by decide +kernel
theorem dL_works_654 : decode cL_works 654 = .ok (.istore 12, 2) := by decide +kernel
theorem dL_works_656 : decode cL_works 656 = .ok (.iload 12, 2) := by decide +kernel
theorem dL_works_658 : decode cL_works 658 = .ok (.iload 6, 2) := by decide +kernel
theorem dL_works_660 : decode cL_works 660 = .ok (.if_icmp .ge 100, 3) := by decide +kernel
theorem dL_works_663 : decode cL_works 663 = .ok (.iload 4, 2) := by decide +kernel
theorem dL_works_665 : decode cL_works 665 = .ok (.ifCond .eq 95, 3) := by decide +kernel
theorem dL_works_668 : decode cL_works 668 = .ok (.aload_n 0, 1) := by decide +kernel
theorem dL_works_669 : decode cL_works 669 = .ok (.invokevirtual 210, 3) := by decide +kernel
theorem dL_works_672 : decode cL_works 672 = .ok (.istore 13, 2) := by decide +kernel
theorem dL_works_674 : decode cL_works 674 = .ok (.aload_n 0, 1) := by decide +kernel
theorem dL_works_675 : decode cL_works 675 = .ok (.iconst 3, 1) := by decide +kernel
theorem dL_works_676 : decode cL_works 676 = .ok (.iload 12, 2) := by decide +kernel
theorem dL_works_678 : decode cL_works 678 = .ok (.invokestatic 163, 3) := by decide +kernel
theorem dL_works_681 : decode cL_works 681 = .ok (.istore 11, 2) := by decide +kernel
theorem dL_works_683 : decode cL_works 683 = .ok (.aload_n 0, 1) := by decide +kernel
theorem dL_works_684 : decode cL_works 684 = .ok (.bipush 20, 2) := by decide +kernel
theorem dL_works_686 : decode cL_works 686 = .ok (.iload 12, 2) := by decide +kernel
theorem dL_works_688 : decode cL_works 688 = .ok (.invokestatic 163, 3) := by decide +kernel
theorem dL_works_691 : decode cL_works 691 = .ok (.iconst 1, 1) := by decide +kernel
theorem dL_works_692 : decode cL_works 692 = .ok (.if_icmp .ne 18, 3) := by decide +kernel
theorem dL_works_695 : decode cL_works 695 = .ok (.iload 11, 2) := by decide +kernel
theorem dL_works_697 : decode cL_works 697 = .ok (.bipush (-102), 2) := by decide +kernel
theorem dL_works_699 : decode cL_works 699 = .ok (.if_icmp .ne 7, 3) := by decide +kernel
theorem dL_works_702 : decode cL_works 702 = .ok (.iconst 1, 1) := by decide +kernel
theorem dL_works_703 : decode cL_works 703 = .ok (.goto 49, 3) := by decide +kernel
theorem dL_works_706 : decode cL_works 706 = .ok (.iconst 0, 1) := by decide +kernel
theorem dL_works_707 : decode cL_works 707 = .ok (.goto 45, 3) := by decide +kernel
theorem dL_works_710 : decode cL_works 710 = .ok (.iload 11, 2) := by decide +kernel
theorem dL_works_712 : decode cL_works 712 = .ok (.iload 13, 2) := by decide +kernel
theorem dL_works_714 : decode cL_works 714 = .ok (.if_icmp .ne 37, 3) := by decide +kernel
theorem dL_works_717 : decode cL_works 717 = .ok (.aload_n 0, 1) := by decide +kernel
theorem dL_works_718 : decode cL_works 718 = .ok (.invokevirtual 210, 3) := by decide +kernel
theorem dL_works_721 : decode cL_works 721 = .ok (.iload 12, 2) := by decide +kernel
theorem dL_works_723 : decode cL_works 723 = .ok (.if_icmp .ne 28, 3) := by decide +kernel
theorem dL_works_726 : decode cL_works 726 = .ok (.aload_n 0, 1) := by decide +kernel
theorem dL_works_727 : decode cL_works 727 = .ok (.invokevirtual 265, 3) := by decide +kernel
theorem dL_works_730 : decode cL_works 730 = .ok (.aload_n 0, 1) := by decide +kernel
theorem dL_works_731 : decode cL_works 731 = .ok (.invokestatic 261, 3) := by decide +kernel
theorem dL_works_734 : decode cL_works 734 = .ok (.if_icmp .ne 17, 3) := by decide +kernel
theorem dL_works_737 : decode cL_works 737 = .ok (.aload_n 0, 1) := by decide +kernel
theorem dL_works_738 : decode cL_works 738 = .ok (.bipush 7, 2) := by decide +kernel
theorem dL_works_740 : decode cL_works 740 = .ok (.iconst 0, 1) := by decide +kernel
theorem dL_works_741 : decode cL_works 741 = .ok (.invokestatic 163, 3) := by decide +kernel
theorem dL_works_744 : decode cL_works 744 = .ok (.ifCond .lt 7, 3) := by decide +kernel
theorem dL_works_747 : decode cL_works 747 = .ok (.iconst 1, 1) := by decide +kernel
theorem dL_works_748 : decode cL_works 748 = .ok (.goto 4, 3) := by decide +kernel
theorem dL_works_751 : decode cL_works 751 = .ok (.iconst 0, 1) := by decide +kernel
theorem dL_works_752 : decode cL_works 752 = .ok (.istore 4, 2) := by decide +kernel
theorem dL_works_754 : decode cL_works 754 = .ok (.iinc 12 1, 3) := by decide +kernel
theorem dL_works_757 : decode cL_works 757 = .ok (.goto (-101), 3) := by decide +kernel
theorem dL_works_760 : decode cL_works 760 = .ok (.aload_n 0, 1) := by decide +kernel
theorem dL_works_761 : decode cL_works 761 = .ok (.invokevirtual 213, 3) := by decide +kernel
theorem dL_works_764 : decode cL_works 764 = .ok (.istore 12, 2) := by decide +kernel
theorem dL_works_766 : decode cL_works 766 = .ok (.iload 4, 2) := by decide +kernel
theorem dL_works_768 : decode cL_works 768 = .ok (.ifCond .eq 64, 3) := by decide +kernel
theorem dL_works_771 : decode cL_works 771 = .ok (.aload_n 0, 1) := by decide +kernel
theorem dL_works_772 : decode cL_works 772 = .ok (.iload 12, 2) := by decide +kernel
theorem dL_works_774 : decode cL_works 774 = .ok (.ifCond .ne 7, 3) := by decide +kernel
theorem dL_works_777 : decode cL_works 777 = .ok (.iconst 1, 1) := by decide +kernel
theorem dL_works_778 : decode cL_works 778 = .ok (.goto 4, 3) := by decide +kernel
theorem dL_works_781 : decode cL_works 781 = .ok (.iconst 0, 1) := by decide +kernel
theorem dL_works_782 : decode cL_works 782 = .ok (.invokevirtual 275, 3) := by decide +kernel
theorem dL_works_785 : decode cL_works 785 = .ok (.iload 12, 2) := by decide +kernel
theorem dL_works_787 : decode cL_works 787 = .ok (.if_icmp .ne 45, 3) := by decide +kernel
theorem dL_works_790 : decode cL_works 790 = .ok (.aload_n 0, 1) := by decide +kernel
theorem dL_works_791 : decode cL_works 791 = .ok (.invokevirtual 213, 3) := by decide +kernel
theorem dL_works_794 : decode cL_works 794 = .ok (.iload 12, 2) := by decide +kernel
theorem dL_works_796 : decode cL_works 796 = .ok (.ifCond .ne 7, 3) := by decide +kernel
theorem dL_works_799 : decode cL_works 799 = .ok (.iconst 1, 1) := by decide +kernel
theorem dL_works_800 : decode cL_works 800 = .ok (.goto 4, 3) := by decide +kernel
theorem dL_works_803 : decode cL_works 803 = .ok (.iconst 0, 1) := by decide +kernel
theorem dL_works_804 : decode cL_works 804 = .ok (.if_icmp .ne 28, 3) := by decide +kernel
theorem dL_works_807 : decode cL_works 807 = .ok (.aload_n 0, 1) := by decide +kernel
theorem dL_works_808 : decode cL_works 808 = .ok (.invokevirtual 265, 3) := by decide +kernel
theorem dL_works_811 : decode cL_works 811 = .ok (.aload_n 0, 1) := by decide +kernel
theorem dL_works_812 : decode cL_works 812 = .ok (.invokestatic 261, 3) := by decide +kernel
theorem dL_works_815 : decode cL_works 815 = .ok (.if_icmp .ne 17, 3) := by decide +kernel
theorem dL_works_818 : decode cL_works 818 = .ok (.aload_n 0, 1) := by decide +kernel
theorem dL_works_819 : decode cL_works 819 = .ok (.bipush 7, 2) := by decide +kernel
theorem dL_works_821 : decode cL_works 821 = .ok (.iconst 0, 1) := by decide +kernel
theorem dL_works_822 : decode cL_works 822 = .ok (.invokestatic 163, 3) := by decide +kernel
theorem dL_works_825 : decode cL_works 825 = .ok (.ifCond .lt 7, 3) := by decide +kernel
theorem dL_works_828 : decode cL_works 828 = .ok (.iconst 1, 1) := by decide +kernel
theorem dL_works_829 : decode cL_works 829 = .ok (.goto 4, 3) := by decide +kernel
theorem dL_works_832 : decode cL_works 832 = .ok (.iconst 0, 1) := by decide +kernel
theorem dL_works_833 : decode cL_works 833 = .ok (.istore 4, 2) := by decide +kernel
theorem dL_works_835 : decode cL_works 835 = .ok (.iload 4, 2) := by decide +kernel
theorem dL_works_837 : decode cL_works 837 = .ok (.ifCond .eq 16, 3) := by decide +kernel
theorem dL_works_840 : decode cL_works 840 = .ok (.aload_n 0, 1) := by decide +kernel
theorem dL_works_841 : decode cL_works 841 = .ok (.invokestatic 257, 3) := by decide +kernel
theorem dL_works_844 : decode cL_works 844 = .ok (.lload_n 2, 1) := by decide +kernel
theorem dL_works_845 : decode cL_works 845 = .ok (.lcmp, 1) := by decide +kernel
theorem dL_works_846 : decode cL_works 846 = .ok (.ifCond .ne 7, 3) := by decide +kernel
theorem dL_works_849 : decode cL_works 849 = .ok (.iconst 1, 1) := by decide +kernel
theorem dL_works_850 : decode cL_works 850 = .ok (.goto 4, 3) := by decide +kernel
theorem dL_works_853 : decode cL_works 853 = .ok (.iconst 0, 1) := by decide +kernel
theorem dL_works_854 : decode cL_works 854 = .ok (.ireturn, 1) := by decide +kernel
theorem dL_ahead_0 : decode cL_ahead 0 = .ok (.aload_n 0, 1) := by decide +kernel
theorem dL_ahead_1 : decode cL_ahead 1 = .ok (.invokestatic 257, 3) := by decide +kernel
theorem dL_ahead_4 : decode cL_ahead 4 = .ok (.lstore_n 2, 1) := by decide +kernel
theorem dL_ahead_5 : decode cL_ahead 5 = .ok (.iload_n 1, 1) := by decide +kernel
theorem dL_ahead_6 : decode cL_ahead 6 = .ok (.sipush 255, 3) := by decide +kernel
theorem dL_ahead_9 : decode cL_ahead 9 = .ok (.iand, 1) := by decide +kernel
theorem dL_ahead_10 : decode cL_ahead 10 = .ok (.bipush 8, 2) := by decide +kernel
theorem dL_ahead_12 : decode cL_ahead 12 = .ok (.irem, 1) := by decide +kernel
theorem dL_ahead_13 : decode cL_ahead 13 = .ok (.istore 4, 2) := by decide +kernel
theorem dL_ahead_15 : decode cL_ahead 15 = .ok (.aload_n 0, 1) := by decide +kernel
theorem dL_ahead_16 : decode cL_ahead 16 = .ok (.bipush 38, 2) := by decide +kernel
theorem dL_ahead_18 : decode cL_ahead 18 = .ok (.iload 4, 2) := by decide +kernel
theorem dL_ahead_20 : decode cL_ahead 20 = .ok (.invokestatic 163, 3) := by decide +kernel
theorem dL_ahead_23 : decode cL_ahead 23 = .ok (.istore 5, 2) := by decide +kernel
theorem dL_ahead_25 : decode cL_ahead 25 = .ok (.aload_n 0, 1) := by decide +kernel
theorem dL_ahead_26 : decode cL_ahead 26 = .ok (.bipush 39, 2) := by decide +kernel
theorem dL_ahead_28 : decode cL_ahead 28 = .ok (.iconst 0, 1) := by decide +kernel
theorem dL_ahead_29 : decode cL_ahead 29 = .ok (.invokestatic 163, 3) := by decide +kernel
theorem dL_ahead_32 : decode cL_ahead 32 = .ok (.istore 6, 2) := by decide +kernel
theorem dL_ahead_34 : decode cL_ahead 34 = .ok (.iconst 0, 1) := by decide +kernel
theorem dL_ahead_35 : decode cL_ahead 35 = .ok (.istore 7, 2) := by decide +kernel
theorem dL_ahead_37 : decode cL_ahead 37 = .ok (.iconst 0, 1) := by decide +kernel
theorem dL_ahead_38 : decode cL_ahead 38 = .ok (.istore 8, 2) := by decide +kernel
theorem dL_ahead_40 : decode cL_ahead 40 = .ok (.iload 7, 2) := by decide +kernel
theorem dL_ahead_42 : decode cL_ahead 42 = .ok (.iload 4, 2) := by decide +kernel
theorem dL_ahead_44 : decode cL_ahead 44 = .ok (.if_icmp .ge 58, 3) := by decide +kernel
theorem dL_ahead_47 : decode cL_ahead 47 = .ok (.aload_n 0, 1) := by decide +kernel
theorem dL_ahead_48 : decode cL_ahead 48 = .ok (.iconst 0, 1) := by decide +kernel
theorem dL_ahead_49 : decode cL_ahead 49 = .ok (.iconst 0, 1) := by decide +kernel
theorem dL_ahead_50 : decode cL_ahead 50 = .ok (.invokestatic 163, 3) := by decide +kernel
theorem dL_ahead_53 : decode cL_ahead 53 = .ok (.ifCond .lt 49, 3) := by decide +kernel
theorem dL_ahead_56 : decode cL_ahead 56 = .ok (.iinc 7 1, 3) := by decide +kernel
theorem dL_ahead_59 : decode cL_ahead 59 = .ok (.aload_n 0, 1) := by decide +kernel
theorem dL_ahead_60 : decode cL_ahead 60 = .ok (.invokevirtual 232, 3) := by decide +kernel
theorem dL_ahead_63 : decode cL_ahead 63 = .ok (.ifCond .eq 17, 3) := by decide +kernel
theorem dL_ahead_66 : decode cL_ahead 66 = .ok (.iload 8, 2) := by decide +kernel
theorem dL_ahead_68 : decode cL_ahead 68 = .ok (.ifCond .ne 12, 3) := by decide +kernel
theorem dL_ahead_71 : decode cL_ahead 71 = .ok (.iload 6, 2) := by decide +kernel
theorem dL_ahead_73 : decode cL_ahead 73 = .ok (.iload 7, 2) := by decide +kernel
theorem dL_ahead_75 : decode cL_ahead 75 = .ok (.if_icmp .eq 5, 3) := by decide +kernel
theorem dL_ahead_78 : decode cL_ahead 78 = .ok (.iconst 0, 1) := by decide +kernel
theorem dL_ahead_79 : decode cL_ahead 79 = .ok (.ireturn, 1) := by decide +kernel
theorem dL_ahead_80 : decode cL_ahead 80 = .ok (.iload 8, 2) := by decide +kernel
theorem dL_ahead_82 : decode cL_ahead 82 = .ok (.ifCond .ne 10, 3) := by decide +kernel
theorem dL_ahead_85 : decode cL_ahead 85 = .ok (.aload_n 0, 1) := by decide +kernel
theorem dL_ahead_86 : decode cL_ahead 86 = .ok (.invokevirtual 232, 3) := by decide +kernel
theorem dL_ahead_89 : decode cL_ahead 89 = .ok (.ifCond .eq 7, 3) := by decide +kernel
theorem dL_ahead_92 : decode cL_ahead 92 = .ok (.iconst 1, 1) := by decide +kernel
theorem dL_ahead_93 : decode cL_ahead 93 = .ok (.goto 4, 3) := by decide +kernel
theorem dL_ahead_96 : decode cL_ahead 96 = .ok (.iconst 0, 1) := by decide +kernel
theorem dL_ahead_97 : decode cL_ahead 97 = .ok (.istore 8, 2) := by decide +kernel
theorem dL_ahead_99 : decode cL_ahead 99 = .ok (.goto (-59), 3) := by decide +kernel
theorem dL_ahead_102 : decode cL_ahead 102 = .ok (.aload_n 0, 1) := by decide +kernel
theorem dL_ahead_103 : decode cL_ahead 103 = .ok (.invokevirtual 240, 3) := by decide +kernel
theorem dL_ahead_106 : decode cL_ahead 106 = .ok (.iload 5, 2) := by decide +kernel
theorem dL_ahead_108 : decode cL_ahead 108 = .ok (.if_icmp .ne 33, 3) := by decide +kernel
theorem dL_ahead_111 : decode cL_ahead 111 = .ok (.iload 6, 2) := by decide +kernel
theorem dL_ahead_113 : decode cL_ahead 113 = .ok (.ifCond .lt 17, 3) := by decide +kernel
theorem dL_ahead_116 : decode cL_ahead 116 = .ok (.iload 6, 2) := by decide +kernel
theorem dL_ahead_118 : decode cL_ahead 118 = .ok (.iload 7, 2) := by decide +kernel
theorem dL_ahead_120 : decode cL_ahead 120 = .ok (.if_icmp .gt 10, 3) := by decide +kernel
theorem dL_ahead_123 : decode cL_ahead 123 = .ok (.aload_n 0, 1) := by decide +kernel
theorem dL_ahead_124 : decode cL_ahead 124 = .ok (.invokevirtual 232, 3) := by decide +kernel
theorem dL_ahead_127 : decode cL_ahead 127 = .ok (.ifCond .eq 14, 3) := by decide +kernel
theorem dL_ahead_130 : decode cL_ahead 130 = .ok (.aload_n 0, 1) := by decide +kernel
theorem dL_ahead_131 : decode cL_ahead 131 = .ok (.invokestatic 268, 3) := by decide +kernel
theorem dL_ahead_134 : decode cL_ahead 134 = .ok (.ifCond .eq 7, 3) := by decide +kernel
theorem dL_ahead_137 : decode cL_ahead 137 = .ok (.iconst 1, 1) := by decide +kernel
theorem dL_ahead_138 : decode cL_ahead 138 = .ok (.goto 4, 3) := by decide +kernel
theorem dL_ahead_141 : decode cL_ahead 141 = .ok (.iconst 0, 1) := by decide +kernel
theorem dL_ahead_142 : decode cL_ahead 142 = .ok (.istore 9, 2) := by decide +kernel
theorem dL_ahead_144 : decode cL_ahead 144 = .ok (.iconst 0, 1) := by decide +kernel
theorem dL_ahead_145 : decode cL_ahead 145 = .ok (.istore 10, 2) := by decide +kernel
theorem dL_ahead_147 : decode cL_ahead 147 = .ok (.iload 10, 2) := by decide +kernel
theorem dL_ahead_149 : decode cL_ahead 149 = .ok (.iload 7, 2) := by decide +kernel
theorem dL_ahead_151 : decode cL_ahead 151 = .ok (.if_icmp .ge 31, 3) := by decide +kernel
theorem dL_ahead_154 : decode cL_ahead 154 = .ok (.iload 9, 2) := by decide +kernel
theorem dL_ahead_156 : decode cL_ahead 156 = .ok (.ifCond .eq 26, 3) := by decide +kernel
theorem dL_ahead_159 : decode cL_ahead 159 = .ok (.aload_n 0, 1) := by decide +kernel
theorem dL_ahead_160 : decode cL_ahead 160 = .ok (.bipush 7, 2) := by decide +kernel
theorem dL_ahead_162 : decode cL_ahead 162 = .ok (.iconst 0, 1) := by decide +kernel
theorem dL_ahead_163 : decode cL_ahead 163 = .ok (.invokestatic 163, 3) := by decide +kernel
theorem dL_ahead_166 : decode cL_ahead 166 = .ok (.ifCond .lt 7, 3) := by decide +kernel
theorem dL_ahead_169 : decode cL_ahead 169 = .ok (.iconst 1, 1) := by decide +kernel
theorem dL_ahead_170 : decode cL_ahead 170 = .ok (.goto 4, 3) := by decide +kernel
theorem dL_ahead_173 : decode cL_ahead 173 = .ok (.iconst 0, 1) := by decide +kernel
theorem dL_ahead_174 : decode cL_ahead 174 = .ok (.istore 9, 2) := by decide +kernel
theorem dL_ahead_176 : decode cL_ahead 176 = .ok (.iinc 10 1, 3) := by decide +kernel
theorem dL_ahead_179 : decode cL_ahead 179 = .ok (.goto (-32), 3) := by decide +kernel
theorem dL_ahead_182 : decode cL_ahead 182 = .ok (.iload 9, 2) := by decide +kernel
theorem dL_ahead_184 : decode cL_ahead 184 = .ok (.ifCond .eq 36, 3) := by decide +kernel
theorem dL_ahead_187 : decode cL_ahead 187 = .ok (.aload_n 0, 1) := by decide +kernel
theorem dL_ahead_188 : decode cL_ahead 188 = .ok (.invokevirtual 232, 3) := by decide +kernel
theorem dL_ahead_191 : decode cL_ahead 191 = .ok (.ifCond .eq 11, 3) := by decide +kernel
theorem dL_ahead_194 : decode cL_ahead 194 = .ok (.iload 6, 2) := by decide +kernel
theorem dL_ahead_196 : decode cL_ahead 196 = .ok (.ifCond .ne 24, 3) := by decide +kernel
theorem dL_ahead_199 : decode cL_ahead 199 = .ok (.goto 8, 3) := by decide +kernel
theorem dL_ahead_202 : decode cL_ahead 202 = .ok (.iload 6, 2) := by decide +kernel
theorem dL_ahead_204 : decode cL_ahead 204 = .ok (.ifCond .eq 16, 3) := by decide +kernel
theorem dL_ahead_207 : decode cL_ahead 207 = .ok (.aload_n 0, 1) := by decide +kernel
theorem dL_ahead_208 : decode cL_ahead 208 = .ok (.invokestatic 257, 3) := by decide +kernel
theorem dL_ahead_211 : decode cL_ahead 211 = .ok (.lload_n 2, 1) := by decide +kernel
theorem dL_ahead_212 : decode cL_ahead 212 = .ok (.lcmp, 1) := by decide +kernel
theorem dL_ahead_213 : decode cL_ahead 213 = .ok (.ifCond .ne 7, 3) := by decide +kernel
theorem dL_ahead_216 : decode cL_ahead 216 = .ok (.iconst 1, 1) := by decide +kernel
theorem dL_ahead_217 : decode cL_ahead 217 = .ok (.goto 4, 3) := by decide +kernel
theorem dL_ahead_220 : decode cL_ahead 220 = .ok (.iconst 0, 1) := by decide +kernel
theorem dL_ahead_221 : decode cL_ahead 221 = .ok (.ireturn, 1) := by decide +kernel
theorem dL_does_0 : decode cL_does 0 = .ok (.aload_n 0, 1) := by decide +kernel
theorem dL_does_1 : decode cL_does 1 = .ok (.invokestatic 257, 3) := by decide +kernel
theorem dL_does_4 : decode cL_does 4 = .ok (.lstore_n 3, 1) := by decide +kernel
