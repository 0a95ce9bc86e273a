theorem d_Law_law_468 : decode b_Law_law 468 = .ok (.iadd, 1) := by decide +kernel
theorem d_Law_law_469 : decode b_Law_law 469 = .ok (.iaload, 1) := by decide +kernel
theorem d_Law_law_470 : decode b_Law_law 470 = .ok (.aload_n 3, 1) := by decide +kernel
theorem d_Law_law_471 : decode b_Law_law 471 = .ok (.invokestatic 96, 3) := by decide +kernel
theorem d_Law_law_474 : decode b_Law_law 474 = .ok (.istore 5, 2) := by decide +kernel
theorem d_Law_law_476 : decode b_Law_law 476 = .ok (.aload_n 2, 1) := by decide +kernel
theorem d_Law_law_477 : decode b_Law_law 477 = .ok (.aload_n 0, 1) := by decide +kernel
theorem d_Law_law_478 : decode b_Law_law 478 = .ok (.iload 4, 2) := by decide +kernel
theorem d_Law_law_480 : decode b_Law_law 480 = .ok (.iconst 1, 1) := by decide +kernel
theorem d_Law_law_481 : decode b_Law_law 481 = .ok (.iadd, 1) := by decide +kernel
theorem d_Law_law_482 : decode b_Law_law 482 = .ok (.iaload, 1) := by decide +kernel
theorem d_Law_law_483 : decode b_Law_law 483 = .ok (.invokevirtual 98, 3) := by decide +kernel
theorem d_Law_law_486 : decode b_Law_law 486 = .ok (.istore 6, 2) := by decide +kernel
theorem d_Law_law_488 : decode b_Law_law 488 = .ok (.aload_n 2, 1) := by decide +kernel
theorem d_Law_law_489 : decode b_Law_law 489 = .ok (.invokevirtual 81, 3) := by decide +kernel
theorem d_Law_law_492 : decode b_Law_law 492 = .ok (.iload 5, 2) := by decide +kernel
theorem d_Law_law_494 : decode b_Law_law 494 = .ok (.if_icmp .eq 5, 3) := by decide +kernel
theorem d_Law_law_497 : decode b_Law_law 497 = .ok (.iconst 0, 1) := by decide +kernel
theorem d_Law_law_498 : decode b_Law_law 498 = .ok (.ireturn, 1) := by decide +kernel
theorem d_Law_law_499 : decode b_Law_law 499 = .ok (.iload 5, 2) := by decide +kernel
theorem d_Law_law_501 : decode b_Law_law 501 = .ok (.ifCond .ne 15, 3) := by decide +kernel
theorem d_Law_law_504 : decode b_Law_law 504 = .ok (.aload_n 3, 1) := by decide +kernel
theorem d_Law_law_505 : decode b_Law_law 505 = .ok (.iconst 0, 1) := by decide +kernel
theorem d_Law_law_506 : decode b_Law_law 506 = .ok (.laload, 1) := by decide +kernel
theorem d_Law_law_507 : decode b_Law_law 507 = .ok (.iload 6, 2) := by decide +kernel
theorem d_Law_law_509 : decode b_Law_law 509 = .ok (.i2l, 1) := by decide +kernel
theorem d_Law_law_510 : decode b_Law_law 510 = .ok (.lcmp, 1) := by decide +kernel
theorem d_Law_law_511 : decode b_Law_law 511 = .ok (.ifCond .eq 5, 3) := by decide +kernel
theorem d_Law_law_514 : decode b_Law_law 514 = .ok (.iconst 0, 1) := by decide +kernel
theorem d_Law_law_515 : decode b_Law_law 515 = .ok (.ireturn, 1) := by decide +kernel
theorem d_Law_law_516 : decode b_Law_law 516 = .ok (.goto 684, 3) := by decide +kernel
theorem d_Law_law_519 : decode b_Law_law 519 = .ok (.aload_n 1, 1) := by decide +kernel
theorem d_Law_law_520 : decode b_Law_law 520 = .ok (.aload_n 0, 1) := by decide +kernel
theorem d_Law_law_521 : decode b_Law_law 521 = .ok (.iload 4, 2) := by decide +kernel
theorem d_Law_law_523 : decode b_Law_law 523 = .ok (.iconst 1, 1) := by decide +kernel
theorem d_Law_law_524 : decode b_Law_law 524 = .ok (.iadd, 1) := by decide +kernel
theorem d_Law_law_525 : decode b_Law_law 525 = .ok (.iaload, 1) := by decide +kernel
theorem d_Law_law_526 : decode b_Law_law 526 = .ok (.aload_n 0, 1) := by decide +kernel
theorem d_Law_law_527 : decode b_Law_law 527 = .ok (.iload 4, 2) := by decide +kernel
theorem d_Law_law_529 : decode b_Law_law 529 = .ok (.iconst 2, 1) := by decide +kernel
theorem d_Law_law_530 : decode b_Law_law 530 = .ok (.iadd, 1) := by decide +kernel
theorem d_Law_law_531 : decode b_Law_law 531 = .ok (.iaload, 1) := by decide +kernel
theorem d_Law_law_532 : decode b_Law_law 532 = .ok (.aload_n 0, 1) := by decide +kernel
theorem d_Law_law_533 : decode b_Law_law 533 = .ok (.iload 4, 2) := by decide +kernel
theorem d_Law_law_535 : decode b_Law_law 535 = .ok (.iconst 3, 1) := by decide +kernel
theorem d_Law_law_536 : decode b_Law_law 536 = .ok (.iadd, 1) := by decide +kernel
theorem d_Law_law_537 : decode b_Law_law 537 = .ok (.iaload, 1) := by decide +kernel
theorem d_Law_law_538 : decode b_Law_law 538 = .ok (.aload_n 3, 1) := by decide +kernel
theorem d_Law_law_539 : decode b_Law_law 539 = .ok (.invokestatic 99, 3) := by decide +kernel
theorem d_Law_law_542 : decode b_Law_law 542 = .ok (.istore 5, 2) := by decide +kernel
theorem d_Law_law_544 : decode b_Law_law 544 = .ok (.aload_n 2, 1) := by decide +kernel
theorem d_Law_law_545 : decode b_Law_law 545 = .ok (.aload_n 0, 1) := by decide +kernel
theorem d_Law_law_546 : decode b_Law_law 546 = .ok (.iload 4, 2) := by decide +kernel
theorem d_Law_law_548 : decode b_Law_law 548 = .ok (.iconst 1, 1) := by decide +kernel
theorem d_Law_law_549 : decode b_Law_law 549 = .ok (.iadd, 1) := by decide +kernel
theorem d_Law_law_550 : decode b_Law_law 550 = .ok (.iaload, 1) := by decide +kernel
theorem d_Law_law_551 : decode b_Law_law 551 = .ok (.aload_n 0, 1) := by decide +kernel
theorem d_Law_law_552 : decode b_Law_law 552 = .ok (.iload 4, 2) := by decide +kernel
theorem d_Law_law_554 : decode b_Law_law 554 = .ok (.iconst 2, 1) := by decide +kernel
theorem d_Law_law_555 : decode b_Law_law 555 = .ok (.iadd, 1) := by decide +kernel
theorem d_Law_law_556 : decode b_Law_law 556 = .ok (.iaload, 1) := by decide +kernel
theorem d_Law_law_557 : decode b_Law_law 557 = .ok (.aload_n 0, 1) := by decide +kernel
theorem d_Law_law_558 : decode b_Law_law 558 = .ok (.iload 4, 2) := by decide +kernel
theorem d_Law_law_560 : decode b_Law_law 560 = .ok (.iconst 3, 1) := by decide +kernel
theorem d_Law_law_561 : decode b_Law_law 561 = .ok (.iadd, 1) := by decide +kernel
theorem d_Law_law_562 : decode b_Law_law 562 = .ok (.iaload, 1) := by decide +kernel
theorem d_Law_law_563 : decode b_Law_law 563 = .ok (.invokevirtual 102, 3) := by decide +kernel
theorem d_Law_law_566 : decode b_Law_law 566 = .ok (.istore 6, 2) := by decide +kernel
theorem d_Law_law_568 : decode b_Law_law 568 = .ok (.aload_n 2, 1) := by decide +kernel
theorem d_Law_law_569 : decode b_Law_law 569 = .ok (.invokevirtual 81, 3) := by decide +kernel
theorem d_Law_law_572 : decode b_Law_law 572 = .ok (.iload 5, 2) := by decide +kernel
theorem d_Law_law_574 : decode b_Law_law 574 = .ok (.if_icmp .eq 5, 3) := by decide +kernel
theorem d_Law_law_577 : decode b_Law_law 577 = .ok (.iconst 0, 1) := by decide +kernel
theorem d_Law_law_578 : decode b_Law_law 578 = .ok (.ireturn, 1) := by decide +kernel
theorem d_Law_law_579 : decode b_Law_law 579 = .ok (.iload 5, 2) := by decide +kernel
theorem d_Law_law_581 : decode b_Law_law 581 = .ok (.ifCond .ne 15, 3) := by decide +kernel
theorem d_Law_law_584 : decode b_Law_law 584 = .ok (.aload_n 3, 1) := by decide +kernel
theorem d_Law_law_585 : decode b_Law_law 585 = .ok (.iconst 0, 1) := by decide +kernel
theorem d_Law_law_586 : decode b_Law_law 586 = .ok (.laload, 1) := by decide +kernel
theorem d_Law_law_587 : decode b_Law_law 587 = .ok (.iload 6, 2) := by decide +kernel
theorem d_Law_law_589 : decode b_Law_law 589 = .ok (.i2l, 1) := by decide +kernel
theorem d_Law_law_590 : decode b_Law_law 590 = .ok (.lcmp, 1) := by decide +kernel
theorem d_Law_law_591 : decode b_Law_law 591 = .ok (.ifCond .eq 5, 3) := by decide +kernel
theorem d_Law_law_594 : decode b_Law_law 594 = .ok (.iconst 0, 1) := by decide +kernel
theorem d_Law_law_595 : decode b_Law_law 595 = .ok (.ireturn, 1) := by decide +kernel
theorem d_Law_law_596 : decode b_Law_law 596 = .ok (.goto 604, 3) := by decide +kernel
theorem d_Law_law_599 : decode b_Law_law 599 = .ok (.aload_n 1, 1) := by decide +kernel
theorem d_Law_law_600 : decode b_Law_law 600 = .ok (.aload_n 0, 1) := by decide +kernel
theorem d_Law_law_601 : decode b_Law_law 601 = .ok (.iload 4, 2) := by decide +kernel
theorem d_Law_law_603 : decode b_Law_law 603 = .ok (.iconst 1, 1) := by decide +kernel
theorem d_Law_law_604 : decode b_Law_law 604 = .ok (.iadd, 1) := by decide +kernel
theorem d_Law_law_605 : decode b_Law_law 605 = .ok (.iaload, 1) := by decide +kernel
theorem d_Law_law_606 : decode b_Law_law 606 = .ok (.aload_n 3, 1) := by decide +kernel
theorem d_Law_law_607 : decode b_Law_law 607 = .ok (.invokestatic 103, 3) := by decide +kernel
theorem d_Law_law_610 : decode b_Law_law 610 = .ok (.istore 5, 2) := by decide +kernel
theorem d_Law_law_612 : decode b_Law_law 612 = .ok (.aload_n 2, 1) := by decide +kernel
theorem d_Law_law_613 : decode b_Law_law 613 = .ok (.aload_n 0, 1) := by decide +kernel
theorem d_Law_law_614 : decode b_Law_law 614 = .ok (.iload 4, 2) := by decide +kernel
theorem d_Law_law_616 : decode b_Law_law 616 = .ok (.iconst 1, 1) := by decide +kernel
theorem d_Law_law_617 : decode b_Law_law 617 = .ok (.iadd, 1) := by decide +kernel
theorem d_Law_law_618 : decode b_Law_law 618 = .ok (.iaload, 1) := by decide +kernel
theorem d_Law_law_619 : decode b_Law_law 619 = .ok (.invokevirtual 105, 3) := by decide +kernel
theorem d_Law_law_622 : decode b_Law_law 622 = .ok (.istore 6, 2) := by decide +kernel
theorem d_Law_law_624 : decode b_Law_law 624 = .ok (.aload_n 2, 1) := by decide +kernel
theorem d_Law_law_625 : decode b_Law_law 625 = .ok (.invokevirtual 81, 3) := by decide +kernel
theorem d_Law_law_628 : decode b_Law_law 628 = .ok (.iload 5, 2) := by decide +kernel
theorem d_Law_law_630 : decode b_Law_law 630 = .ok (.if_icmp .eq 5, 3) := by decide +kernel
theorem d_Law_law_633 : decode b_Law_law 633 = .ok (.iconst 0, 1) := by decide +kernel
theorem d_Law_law_634 : decode b_Law_law 634 = .ok (.ireturn, 1) := by decide +kernel
theorem d_Law_law_635 : decode b_Law_law 635 = .ok (.iload 5, 2) := by decide +kernel
theorem d_Law_law_637 : decode b_Law_law 637 = .ok (.ifCond .ne 15, 3) := by decide +kernel
theorem d_Law_law_640 : decode b_Law_law 640 = .ok (.aload_n 3, 1) := by decide +kernel
theorem d_Law_law_641 : decode b_Law_law 641 = .ok (.iconst 0, 1) := by decide +kernel
theorem d_Law_law_642 : decode b_Law_law 642 = .ok (.laload, 1) := by decide +kernel
theorem d_Law_law_643 : decode b_Law_law 643 = .ok (.iload 6, 2) := by decide +kernel
theorem d_Law_law_645 : decode b_Law_law 645 = .ok (.i2l, 1) := by decide +kernel
theorem d_Law_law_646 : decode b_Law_law 646 = .ok (.lcmp, 1) := by decide +kernel
theorem d_Law_law_647 : decode b_Law_law 647 = .ok (.ifCond .eq 5, 3) := by decide +kernel
theorem d_Law_law_650 : decode b_Law_law 650 = .ok (.iconst 0, 1) := by decide +kernel
theorem d_Law_law_651 : decode b_Law_law 651 = .ok (.ireturn, 1) := by decide +kernel
theorem d_Law_law_652 : decode b_Law_law 652 = .ok (.goto 548, 3) := by decide +kernel
theorem d_Law_law_655 : decode b_Law_law 655 = .ok (.aload_n 1, 1) := by decide +kernel
theorem d_Law_law_656 : decode b_Law_law 656 = .ok (.aload_n 0, 1) := by decide +kernel
theorem d_Law_law_657 : decode b_Law_law 657 = .ok (.iload 4, 2) := by decide +kernel
theorem d_Law_law_659 : decode b_Law_law 659 = .ok (.iconst 1, 1) := by decide +kernel
theorem d_Law_law_660 : decode b_Law_law 660 = .ok (.iadd, 1) := by decide +kernel
theorem d_Law_law_661 : decode b_Law_law 661 = .ok (.iaload, 1) := by decide +kernel
theorem d_Law_law_662 : decode b_Law_law 662 = .ok (.aload_n 0, 1) := by decide +kernel
theorem d_Law_law_663 : decode b_Law_law 663 = .ok (.iload 4, 2) := by decide +kernel
theorem d_Law_law_665 : decode b_Law_law 665 = .ok (.iconst 2, 1) := by decide +kernel
theorem d_Law_law_666 : decode b_Law_law 666 = .ok (.iadd, 1) := by decide +kernel
theorem d_Law_law_667 : decode b_Law_law 667 = .ok (.iaload, 1) := by decide +kernel
theorem d_Law_law_668 : decode b_Law_law 668 = .ok (.aload_n 3, 1) := by decide +kernel
theorem d_Law_law_669 : decode b_Law_law 669 = .ok (.invokestatic 106, 3) := by decide +kernel
theorem d_Law_law_672 : decode b_Law_law 672 = .ok (.istore 5, 2) := by decide +kernel
theorem d_Law_law_674 : decode b_Law_law 674 = .ok (.aload_n 2, 1) := by decide +kernel
theorem d_Law_law_675 : decode b_Law_law 675 = .ok (.aload_n 0, 1) := by decide +kernel
theorem d_Law_law_676 : decode b_Law_law 676 = .ok (.iload 4, 2) := by decide +kernel
theorem d_Law_law_678 : decode b_Law_law 678 = .ok (.iconst 1, 1) := by decide +kernel
theorem d_Law_law_679 : decode b_Law_law 679 = .ok (.iadd, 1) := by decide +kernel
theorem d_Law_law_680 : decode b_Law_law 680 = .ok (.iaload, 1) := by decide +kernel
theorem d_Law_law_681 : decode b_Law_law 681 = .ok (.aload_n 0, 1) := by decide +kernel
theorem d_Law_law_682 : decode b_Law_law 682 = .ok (.iload 4, 2) := by decide +kernel
theorem d_Law_law_684 : decode b_Law_law 684 = .ok (.iconst 2, 1) := by decide +kernel
theorem d_Law_law_685 : decode b_Law_law 685 = .ok (.iadd, 1) := by decide +kernel
theorem d_Law_law_686 : decode b_Law_law 686 = .ok (.iaload, 1) := by decide +kernel
theorem d_Law_law_687 : decode b_Law_law 687 = .ok (.invokevirtual 109, 3) := by decide +kernel
theorem d_Law_law_690 : decode b_Law_law 690 = .ok (.istore 6, 2) := by decide +kernel
theorem d_Law_law_692 : decode b_Law_law 692 = .ok (.aload_n 2, 1) := by decide +kernel
theorem d_Law_law_693 : decode b_Law_law 693 = .ok (.invokevirtual 81, 3) := by decide +kernel
theorem d_Law_law_696 : decode b_Law_law 696 = .ok (.iload 5, 2) := by decide +kernel
theorem d_Law_law_698 : decode b_Law_law 698 = .ok (.if_icmp .eq 5, 3) := by decide +kernel
theorem d_Law_law_701 : decode b_Law_law 701 = .ok (.iconst 0, 1) := by decide +kernel
theorem d_Law_law_702 : decode b_Law_law 702 = .ok (.ireturn, 1) := by decide +kernel
theorem d_Law_law_703 : decode b_Law_law 703 = .ok (.iload 5, 2) := by decide +kernel
theorem d_Law_law_705 : decode b_Law_law 705 = .ok (.ifCond .ne 15, 3) := by decide +kernel
theorem d_Law_law_708 : decode b_Law_law 708 = .ok (.aload_n 3, 1) := by decide +kernel
theorem d_Law_law_709 : decode b_Law_law 709 = .ok (.iconst 0, 1) := by decide +kernel
theorem d_Law_law_710 : decode b_Law_law 710 = .ok (.laload, 1) := by decide +kernel
theorem d_Law_law_711 : decode b_Law_law 711 = .ok (.iload 6, 2) := by decide +kernel
theorem d_Law_law_713 : decode b_Law_law 713 = .ok (.i2l, 1) := by decide +kernel
theorem d_Law_law_714 : decode b_Law_law 714 = .ok (.lcmp, 1) := by decide +kernel
theorem d_Law_law_715 : decode b_Law_law 715 = .ok (.ifCond .eq 5, 3) := by decide +kernel
theorem d_Law_law_718 : decode b_Law_law 718 = .ok (.iconst 0, 1) := by decide +kernel
theorem d_Law_law_719 : decode b_Law_law 719 = .ok (.ireturn, 1) := by decide +kernel
theorem d_Law_law_720 : decode b_Law_law 720 = .ok (.goto 480, 3) := by decide +kernel
theorem d_Law_law_723 : decode b_Law_law 723 = .ok (.aload_n 1, 1) := by decide +kernel
theorem d_Law_law_724 : decode b_Law_law 724 = .ok (.aload_n 0, 1) := by decide +kernel
theorem d_Law_law_725 : decode b_Law_law 725 = .ok (.iload 4, 2) := by decide +kernel
theorem d_Law_law_727 : decode b_Law_law 727 = .ok (.iconst 1, 1) := by decide +kernel
theorem d_Law_law_728 : decode b_Law_law 728 = .ok (.iadd, 1) := by decide +kernel
theorem d_Law_law_729 : decode b_Law_law 729 = .ok (.iaload, 1) := by decide +kernel
theorem d_Law_law_730 : decode b_Law_law 730 = .ok (.aload_n 0, 1) := by decide +kernel
theorem d_Law_law_731 : decode b_Law_law 731 = .ok (.iload 4, 2) := by decide +kernel
theorem d_Law_law_733 : decode b_Law_law 733 = .ok (.iconst 2, 1) := by decide +kernel
theorem d_Law_law_734 : decode b_Law_law 734 = .ok (.iadd, 1) := by decide +kernel
theorem d_Law_law_735 : decode b_Law_law 735 = .ok (.iaload, 1) := by decide +kernel
theorem d_Law_law_736 : decode b_Law_law 736 = .ok (.aload_n 3, 1) := by decide +kernel
theorem d_Law_law_737 : decode b_Law_law 737 = .ok (.invokestatic 110, 3) := by decide +kernel
theorem d_Law_law_740 : decode b_Law_law 740 = .ok (.istore 5, 2) := by decide +kernel
theorem d_Law_law_742 : decode b_Law_law 742 = .ok (.aload_n 2, 1) := by decide +kernel
theorem d_Law_law_743 : decode b_Law_law 743 = .ok (.aload_n 0, 1) := by decide +kernel
theorem d_Law_law_744 : decode b_Law_law 744 = .ok (.iload 4, 2) := by decide +kernel
theorem d_Law_law_746 : decode b_Law_law 746 = .ok (.iconst 1, 1) := by decide +kernel
theorem d_Law_law_747 : decode b_Law_law 747 = .ok (.iadd, 1) := by decide +kernel
theorem d_Law_law_748 : decode b_Law_law 748 = .ok (.iaload, 1) := by decide +kernel
theorem d_Law_law_749 : decode b_Law_law 749 = .ok (.aload_n 0, 1) := by decide +kernel
theorem d_Law_law_750 : decode b_Law_law 750 = .ok (.iload 4, 2) := by decide +kernel
theorem d_Law_law_752 : decode b_Law_law 752 = .ok (.iconst 2, 1) := by decide +kernel
theorem d_Law_law_753 : decode b_Law_law 753 = .ok (.iadd, 1) := by decide +kernel
theorem d_Law_law_754 : decode b_Law_law 754 = .ok (.iaload, 1) := by decide +kernel
theorem d_Law_law_755 : decode b_Law_law 755 = .ok (.invokevirtual 112, 3) := by decide +kernel
theorem d_Law_law_758 : decode b_Law_law 758 = .ok (.istore 6, 2) := by decide +kernel
theorem d_Law_law_760 : decode b_Law_law 760 = .ok (.aload_n 2, 1) := by decide +kernel
theorem d_Law_law_761 : decode b_Law_law 761 = .ok (.invokevirtual 81, 3) := by decide +kernel
theorem d_Law_law_764 : decode b_Law_law 764 = .ok (.iload 5, 2) := by decide +kernel
theorem d_Law_law_766 : decode b_Law_law 766 = .ok (.if_icmp .eq 5, 3) := by decide +kernel
theorem d_Law_law_769 : decode b_Law_law 769 = .ok (.iconst 0, 1) := by decide +kernel
theorem d_Law_law_770 : decode b_Law_law 770 = .ok (.ireturn, 1) := by decide +kernel
theorem d_Law_law_771 : decode b_Law_law 771 = .ok (.iload 5, 2) := by decide +kernel
theorem d_Law_law_773 : decode b_Law_law 773 = .ok (.ifCond .ne 15, 3) := by decide +kernel
theorem d_Law_law_776 : decode b_Law_law 776 = .ok (.aload_n 3, 1) := by decide +kernel
theorem d_Law_law_777 : decode b_Law_law 777 = .ok (.iconst 0, 1) := by decide +kernel
theorem d_Law_law_778 : decode b_Law_law 778 = .ok (.laload, 1) := by decide +kernel
theorem d_Law_law_779 : decode b_Law_law 779 = .ok (.iload 6, 2) := by decide +kernel
theorem d_Law_law_781 : decode b_Law_law 781 = .ok (.i2l, 1) := by decide +kernel
theorem d_Law_law_782 : decode b_Law_law 782 = .ok (.lcmp, 1) := by decide +kernel
theorem d_Law_law_783 : decode b_Law_law 783 = .ok (.ifCond .eq 5, 3) := by decide +kernel
theorem d_Law_law_786 : decode b_Law_law 786 = .ok (.iconst 0, 1) := by decide +kernel
theorem d_Law_law_787 : decode b_Law_law 787 = .ok (.ireturn, 1) := by decide +kernel
theorem d_Law_law_788 : decode b_Law_law 788 = .ok (.goto 412, 3) := by decide +kernel
theorem d_Law_law_791 : decode b_Law_law 791 = .ok (.aload_n 1, 1) := by decide +kernel
theorem d_Law_law_792 : decode b_Law_law 792 = .ok (.invokevirtual 113, 3) := by decide +kernel
theorem d_Law_law_795 : decode b_Law_law 795 = .ok (.aload_n 2, 1) := by decide +kernel
theorem d_Law_law_796 : decode b_Law_law 796 = .ok (.invokevirtual 116, 3) := by decide +kernel
theorem d_Law_law_799 : decode b_Law_law 799 = .ok (.if_icmp .eq 401, 3) := by decide +kernel
theorem d_Law_law_802 : decode b_Law_law 802 = .ok (.iconst 0, 1) := by decide +kernel
theorem d_Law_law_803 : decode b_Law_law 803 = .ok (.ireturn, 1) := by decide +kernel
theorem d_Law_law_804 : decode b_Law_law 804 = .ok (.aload_n 1, 1) := by decide +kernel
theorem d_Law_law_805 : decode b_Law_law 805 = .ok (.aload_n 0, 1) := by decide +kernel
theorem d_Law_law_806 : decode b_Law_law 806 = .ok (.iload 4, 2) := by decide +kernel
theorem d_Law_law_808 : decode b_Law_law 808 = .ok (.iconst 1, 1) := by decide +kernel
theorem d_Law_law_809 : decode b_Law_law 809 = .ok (.iadd, 1) := by decide +kernel
theorem d_Law_law_810 : decode b_Law_law 810 = .ok (.iaload, 1) := by decide +kernel
theorem d_Law_law_811 : decode b_Law_law 811 = .ok (.aload_n 0, 1) := by decide +kernel
theorem d_Law_law_812 : decode b_Law_law 812 = .ok (.iload 4, 2) := by decide +kernel
theorem d_Law_law_814 : decode b_Law_law 814 = .ok (.iconst 2, 1) := by decide +kernel
theorem d_Law_law_815 : decode b_Law_law 815 = .ok (.iadd, 1) := by decide +kernel
theorem d_Law_law_816 : decode b_Law_law 816 = .ok (.iaload, 1) := by decide +kernel
theorem d_Law_law_817 : decode b_Law_law 817 = .ok (.aload_n 3, 1) := by decide +kernel
theorem d_Law_law_818 : decode b_Law_law 818 = .ok (.invokestatic 117, 3) := by decide +kernel
theorem d_Law_law_821 : decode b_Law_law 821 = .ok (.istore 5, 2) := by decide +kernel
theorem d_Law_law_823 : decode b_Law_law 823 = .ok (.aload_n 2, 1) := by decide +kernel
theorem d_Law_law_824 : decode b_Law_law 824 = .ok (.aload_n 0, 1) := by decide +kernel
theorem d_Law_law_825 : decode b_Law_law 825 = .ok (.iload 4, 2) := by decide +kernel
theorem d_Law_law_827 : decode b_Law_law 827 = .ok (.iconst 1, 1) := by decide +kernel
theorem d_Law_law_828 : decode b_Law_law 828 = .ok (.iadd, 1) := by decide +kernel
theorem d_Law_law_829 : decode b_Law_law 829 = .ok (.iaload, 1) := by decide +kernel
theorem d_Law_law_830 : decode b_Law_law 830 = .ok (.aload_n 0, 1) := by decide +kernel
theorem d_Law_law_831 : decode b_Law_law 831 = .ok (.iload 4, 2) := by decide +kernel
theorem d_Law_law_833 : decode b_Law_law 833 = .ok (.iconst 2, 1) := by decide +kernel
theorem d_Law_law_834 : decode b_Law_law 834 = .ok (.iadd, 1) := by decide +kernel
theorem d_Law_law_835 : decode b_Law_law 835 = .ok (.iaload, 1) := by decide +kernel
theorem d_Law_law_836 : decode b_Law_law 836 = .ok (.invokevirtual 119, 3) := by decide +kernel
theorem d_Law_law_839 : decode b_Law_law 839 = .ok (.istore 6, 2) := by decide +kernel
theorem d_Law_law_841 : decode b_Law_law 841 = .ok (.aload_n 2, 1) := by decide +kernel
theorem d_Law_law_842 : decode b_Law_law 842 = .ok (.invokevirtual 81, 3) := by decide +kernel
theorem d_Law_law_845 : decode b_Law_law 845 = .ok (.iload 5, 2) := by decide +kernel
theorem d_Law_law_847 : decode b_Law_law 847 = .ok (.if_icmp .eq 5, 3) := by decide +kernel
theorem d_Law_law_850 : decode b_Law_law 850 = .ok (.iconst 0, 1) := by decide +kernel
