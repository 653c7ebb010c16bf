theorem dL_isSo_444 : decode cL_isSo 444 = .ok (.ifCond .eq 493, 3) := by decide +kernel
theorem dL_isSo_447 : decode cL_isSo 447 = .ok (.iconst 0, 1) := by decide +kernel
theorem dL_isSo_448 : decode cL_isSo 448 = .ok (.istore 16, 2) := by decide +kernel
theorem dL_isSo_450 : decode cL_isSo 450 = .ok (.iconst 0, 1) := by decide +kernel
theorem dL_isSo_451 : decode cL_isSo 451 = .ok (.istore 17, 2) := by decide +kernel
theorem dL_isSo_453 : decode cL_isSo 453 = .ok (.iconst 0, 1) := by decide +kernel
theorem dL_isSo_454 : decode cL_isSo 454 = .ok (.istore 18, 2) := by decide +kernel
theorem dL_isSo_456 : decode cL_isSo 456 = .ok (.iload 18, 2) := by decide +kernel
theorem dL_isSo_458 : decode cL_isSo 458 = .ok (.aload 8, 2) := by decide +kernel
theorem dL_isSo_460 : decode cL_isSo 460 = .ok (.iconst 3, 1) := by decide +kernel
theorem dL_isSo_461 : decode cL_isSo 461 = .ok (.iaload, 1) := by decide +kernel
theorem dL_isSo_462 : decode cL_isSo 462 = .ok (.if_icmp .ge 79, 3) := by decide +kernel
theorem dL_isSo_465 : decode cL_isSo 465 = .ok (.aload 4, 2) := by decide +kernel
theorem dL_isSo_467 : decode cL_isSo 467 = .ok (.bipush 6, 2) := by decide +kernel
theorem dL_isSo_469 : decode cL_isSo 469 = .ok (.iload 18, 2) := by decide +kernel
theorem dL_isSo_471 : decode cL_isSo 471 = .ok (.imul, 1) := by decide +kernel
theorem dL_isSo_472 : decode cL_isSo 472 = .ok (.iaload, 1) := by decide +kernel
theorem dL_isSo_473 : decode cL_isSo 473 = .ok (.bipush 64, 2) := by decide +kernel
theorem dL_isSo_475 : decode cL_isSo 475 = .ok (.idiv, 1) := by decide +kernel
theorem dL_isSo_476 : decode cL_isSo 476 = .ok (.iconst 2, 1) := by decide +kernel
theorem dL_isSo_477 : decode cL_isSo 477 = .ok (.irem, 1) := by decide +kernel
theorem dL_isSo_478 : decode cL_isSo 478 = .ok (.iload 15, 2) := by decide +kernel
theorem dL_isSo_480 : decode cL_isSo 480 = .ok (.if_icmp .ne 7, 3) := by decide +kernel
theorem dL_isSo_483 : decode cL_isSo 483 = .ok (.iconst 1, 1) := by decide +kernel
theorem dL_isSo_484 : decode cL_isSo 484 = .ok (.goto 4, 3) := by decide +kernel
theorem dL_isSo_487 : decode cL_isSo 487 = .ok (.iconst 0, 1) := by decide +kernel
theorem dL_isSo_488 : decode cL_isSo 488 = .ok (.istore 19, 2) := by decide +kernel
theorem dL_isSo_490 : decode cL_isSo 490 = .ok (.iload 16, 2) := by decide +kernel
theorem dL_isSo_492 : decode cL_isSo 492 = .ok (.iload 19, 2) := by decide +kernel
theorem dL_isSo_494 : decode cL_isSo 494 = .ok (.ifCond .eq 7, 3) := by decide +kernel
theorem dL_isSo_497 : decode cL_isSo 497 = .ok (.iconst 1, 1) := by decide +kernel
theorem dL_isSo_498 : decode cL_isSo 498 = .ok (.goto 4, 3) := by decide +kernel
theorem dL_isSo_501 : decode cL_isSo 501 = .ok (.iconst 0, 1) := by decide +kernel
theorem dL_isSo_502 : decode cL_isSo 502 = .ok (.iadd, 1) := by decide +kernel
theorem dL_isSo_503 : decode cL_isSo 503 = .ok (.istore 16, 2) := by decide +kernel
theorem dL_isSo_505 : decode cL_isSo 505 = .ok (.iload 17, 2) := by decide +kernel
theorem dL_isSo_507 : decode cL_isSo 507 = .ok (.iload 19, 2) := by decide +kernel
theorem dL_isSo_509 : decode cL_isSo 509 = .ok (.ifCond .eq 22, 3) := by decide +kernel
theorem dL_isSo_512 : decode cL_isSo 512 = .ok (.aload_n 1, 1) := by decide +kernel
theorem dL_isSo_513 : decode cL_isSo 513 = .ok (.aload_n 2, 1) := by decide +kernel
theorem dL_isSo_514 : decode cL_isSo 514 = .ok (.aload_n 3, 1) := by decide +kernel
theorem dL_isSo_515 : decode cL_isSo 515 = .ok (.aload 4, 2) := by decide +kernel
theorem dL_isSo_517 : decode cL_isSo 517 = .ok (.aload 8, 2) := by decide +kernel
theorem dL_isSo_519 : decode cL_isSo 519 = .ok (.iload 18, 2) := by decide +kernel
theorem dL_isSo_521 : decode cL_isSo 521 = .ok (.invokestatic 101, 3) := by decide +kernel
theorem dL_isSo_524 : decode cL_isSo 524 = .ok (.ifCond .eq 7, 3) := by decide +kernel
theorem dL_isSo_527 : decode cL_isSo 527 = .ok (.iconst 1, 1) := by decide +kernel
theorem dL_isSo_528 : decode cL_isSo 528 = .ok (.goto 4, 3) := by decide +kernel
theorem dL_isSo_531 : decode cL_isSo 531 = .ok (.iconst 0, 1) := by decide +kernel
theorem dL_isSo_532 : decode cL_isSo 532 = .ok (.iadd, 1) := by decide +kernel
theorem dL_isSo_533 : decode cL_isSo 533 = .ok (.istore 17, 2) := by decide +kernel
theorem dL_isSo_535 : decode cL_isSo 535 = .ok (.iinc 18 1, 3) := by decide +kernel
theorem dL_isSo_538 : decode cL_isSo 538 = .ok (.goto (-82), 3) := by decide +kernel
theorem dL_isSo_541 : decode cL_isSo 541 = .ok (.aload_n 0, 1) := by decide +kernel
theorem dL_isSo_542 : decode cL_isSo 542 = .ok (.iload 15, 2) := by decide +kernel
theorem dL_isSo_544 : decode cL_isSo 544 = .ok (.iconst 0, 1) := by decide +kernel
theorem dL_isSo_545 : decode cL_isSo 545 = .ok (.invokevirtual 63, 3) := by decide +kernel
theorem dL_isSo_548 : decode cL_isSo 548 = .ok (.aload_n 3, 1) := by decide +kernel
theorem dL_isSo_549 : decode cL_isSo 549 = .ok (.iconst 4, 1) := by decide +kernel
theorem dL_isSo_550 : decode cL_isSo 550 = .ok (.iload 15, 2) := by decide +kernel
theorem dL_isSo_552 : decode cL_isSo 552 = .ok (.imul, 1) := by decide +kernel
theorem dL_isSo_553 : decode cL_isSo 553 = .ok (.iconst 1, 1) := by decide +kernel
theorem dL_isSo_554 : decode cL_isSo 554 = .ok (.iadd, 1) := by decide +kernel
theorem dL_isSo_555 : decode cL_isSo 555 = .ok (.iaload, 1) := by decide +kernel
theorem dL_isSo_556 : decode cL_isSo 556 = .ok (.if_icmp .ne 49, 3) := by decide +kernel
theorem dL_isSo_559 : decode cL_isSo 559 = .ok (.aload_n 0, 1) := by decide +kernel
theorem dL_isSo_560 : decode cL_isSo 560 = .ok (.iload 15, 2) := by decide +kernel
theorem dL_isSo_562 : decode cL_isSo 562 = .ok (.iconst 1, 1) := by decide +kernel
theorem dL_isSo_563 : decode cL_isSo 563 = .ok (.invokevirtual 63, 3) := by decide +kernel
theorem dL_isSo_566 : decode cL_isSo 566 = .ok (.iload 16, 2) := by decide +kernel
theorem dL_isSo_568 : decode cL_isSo 568 = .ok (.if_icmp .ne 37, 3) := by decide +kernel
theorem dL_isSo_571 : decode cL_isSo 571 = .ok (.aload_n 0, 1) := by decide +kernel
theorem dL_isSo_572 : decode cL_isSo 572 = .ok (.iload 15, 2) := by decide +kernel
theorem dL_isSo_574 : decode cL_isSo 574 = .ok (.iconst 2, 1) := by decide +kernel
theorem dL_isSo_575 : decode cL_isSo 575 = .ok (.invokevirtual 63, 3) := by decide +kernel
theorem dL_isSo_578 : decode cL_isSo 578 = .ok (.iload 17, 2) := by decide +kernel
theorem dL_isSo_580 : decode cL_isSo 580 = .ok (.if_icmp .ne 25, 3) := by decide +kernel
theorem dL_isSo_583 : decode cL_isSo 583 = .ok (.aload_n 0, 1) := by decide +kernel
theorem dL_isSo_584 : decode cL_isSo 584 = .ok (.iload 15, 2) := by decide +kernel
theorem dL_isSo_586 : decode cL_isSo 586 = .ok (.iconst 3, 1) := by decide +kernel
theorem dL_isSo_587 : decode cL_isSo 587 = .ok (.invokevirtual 63, 3) := by decide +kernel
theorem dL_isSo_590 : decode cL_isSo 590 = .ok (.aload_n 3, 1) := by decide +kernel
theorem dL_isSo_591 : decode cL_isSo 591 = .ok (.iconst 4, 1) := by decide +kernel
theorem dL_isSo_592 : decode cL_isSo 592 = .ok (.iload 15, 2) := by decide +kernel
theorem dL_isSo_594 : decode cL_isSo 594 = .ok (.imul, 1) := by decide +kernel
theorem dL_isSo_595 : decode cL_isSo 595 = .ok (.iconst 2, 1) := by decide +kernel
theorem dL_isSo_596 : decode cL_isSo 596 = .ok (.iadd, 1) := by decide +kernel
theorem dL_isSo_597 : decode cL_isSo 597 = .ok (.iaload, 1) := by decide +kernel
theorem dL_isSo_598 : decode cL_isSo 598 = .ok (.if_icmp .ne 7, 3) := by decide +kernel
theorem dL_isSo_601 : decode cL_isSo 601 = .ok (.iconst 1, 1) := by decide +kernel
theorem dL_isSo_602 : decode cL_isSo 602 = .ok (.goto 4, 3) := by decide +kernel
theorem dL_isSo_605 : decode cL_isSo 605 = .ok (.iconst 0, 1) := by decide +kernel
theorem dL_isSo_606 : decode cL_isSo 606 = .ok (.istore 12, 2) := by decide +kernel
theorem dL_isSo_608 : decode cL_isSo 608 = .ok (.iload 12, 2) := by decide +kernel
theorem dL_isSo_610 : decode cL_isSo 610 = .ok (.ifCond .eq 321, 3) := by decide +kernel
theorem dL_isSo_613 : decode cL_isSo 613 = .ok (.iload 9, 2) := by decide +kernel
theorem dL_isSo_615 : decode cL_isSo 615 = .ok (.iconst 4, 1) := by decide +kernel
theorem dL_isSo_616 : decode cL_isSo 616 = .ok (.irem, 1) := by decide +kernel
theorem dL_isSo_617 : decode cL_isSo 617 = .ok (.ifCond .ne 314, 3) := by decide +kernel
theorem dL_isSo_620 : decode cL_isSo 620 = .ok (.iload 10, 2) := by decide +kernel
theorem dL_isSo_622 : decode cL_isSo 622 = .ok (.bipush 60, 2) := by decide +kernel
theorem dL_isSo_624 : decode cL_isSo 624 = .ok (.irem, 1) := by decide +kernel
theorem dL_isSo_625 : decode cL_isSo 625 = .ok (.istore 18, 2) := by decide +kernel
theorem dL_isSo_627 : decode cL_isSo 627 = .ok (.iconst (-1), 1) := by decide +kernel
theorem dL_isSo_628 : decode cL_isSo 628 = .ok (.istore 19, 2) := by decide +kernel
theorem dL_isSo_630 : decode cL_isSo 630 = .ok (.iconst 0, 1) := by decide +kernel
theorem dL_isSo_631 : decode cL_isSo 631 = .ok (.istore 20, 2) := by decide +kernel
theorem dL_isSo_633 : decode cL_isSo 633 = .ok (.iconst 0, 1) := by decide +kernel
theorem dL_isSo_634 : decode cL_isSo 634 = .ok (.istore 21, 2) := by decide +kernel
theorem dL_isSo_636 : decode cL_isSo 636 = .ok (.iconst 1, 1) := by decide +kernel
theorem dL_isSo_637 : decode cL_isSo 637 = .ok (.iload 16, 2) := by decide +kernel
theorem dL_isSo_639 : decode cL_isSo 639 = .ok (.ishl, 1) := by decide +kernel
theorem dL_isSo_640 : decode cL_isSo 640 = .ok (.iconst 1, 1) := by decide +kernel
theorem dL_isSo_641 : decode cL_isSo 641 = .ok (.isub, 1) := by decide +kernel
theorem dL_isSo_642 : decode cL_isSo 642 = .ok (.istore 22, 2) := by decide +kernel
theorem dL_isSo_644 : decode cL_isSo 644 = .ok (.iload 22, 2) := by decide +kernel
theorem dL_isSo_646 : decode cL_isSo 646 = .ok (.ifCond .lt 263, 3) := by decide +kernel
theorem dL_isSo_649 : decode cL_isSo 649 = .ok (.iload 22, 2) := by decide +kernel
theorem dL_isSo_651 : decode cL_isSo 651 = .ok (.istore 23, 2) := by decide +kernel
theorem dL_isSo_653 : decode cL_isSo 653 = .ok (.iconst 0, 1) := by decide +kernel
theorem dL_isSo_654 : decode cL_isSo 654 = .ok (.istore 24, 2) := by decide +kernel
theorem dL_isSo_656 : decode cL_isSo 656 = .ok (.iconst 0, 1) := by decide +kernel
theorem dL_isSo_657 : decode cL_isSo 657 = .ok (.istore 25, 2) := by decide +kernel
theorem dL_isSo_659 : decode cL_isSo 659 = .ok (.iconst 0, 1) := by decide +kernel
theorem dL_isSo_660 : decode cL_isSo 660 = .ok (.istore 26, 2) := by decide +kernel
theorem dL_isSo_662 : decode cL_isSo 662 = .ok (.iload 26, 2) := by decide +kernel
theorem dL_isSo_664 : decode cL_isSo 664 = .ok (.aload 8, 2) := by decide +kernel
theorem dL_isSo_666 : decode cL_isSo 666 = .ok (.iconst 3, 1) := by decide +kernel
theorem dL_isSo_667 : decode cL_isSo 667 = .ok (.iaload, 1) := by decide +kernel
theorem dL_isSo_668 : decode cL_isSo 668 = .ok (.if_icmp .ge 153, 3) := by decide +kernel
theorem dL_isSo_671 : decode cL_isSo 671 = .ok (.aload 4, 2) := by decide +kernel
theorem dL_isSo_673 : decode cL_isSo 673 = .ok (.bipush 6, 2) := by decide +kernel
theorem dL_isSo_675 : decode cL_isSo 675 = .ok (.iload 26, 2) := by decide +kernel
theorem dL_isSo_677 : decode cL_isSo 677 = .ok (.imul, 1) := by decide +kernel
theorem dL_isSo_678 : decode cL_isSo 678 = .ok (.iaload, 1) := by decide +kernel
theorem dL_isSo_679 : decode cL_isSo 679 = .ok (.bipush 64, 2) := by decide +kernel
theorem dL_isSo_681 : decode cL_isSo 681 = .ok (.idiv, 1) := by decide +kernel
theorem dL_isSo_682 : decode cL_isSo 682 = .ok (.iconst 2, 1) := by decide +kernel
theorem dL_isSo_683 : decode cL_isSo 683 = .ok (.irem, 1) := by decide +kernel
theorem dL_isSo_684 : decode cL_isSo 684 = .ok (.iload 15, 2) := by decide +kernel
theorem dL_isSo_686 : decode cL_isSo 686 = .ok (.if_icmp .ne 7, 3) := by decide +kernel
theorem dL_isSo_689 : decode cL_isSo 689 = .ok (.iconst 1, 1) := by decide +kernel
theorem dL_isSo_690 : decode cL_isSo 690 = .ok (.goto 4, 3) := by decide +kernel
theorem dL_isSo_693 : decode cL_isSo 693 = .ok (.iconst 0, 1) := by decide +kernel
theorem dL_isSo_694 : decode cL_isSo 694 = .ok (.istore 27, 2) := by decide +kernel
theorem dL_isSo_696 : decode cL_isSo 696 = .ok (.iload 27, 2) := by decide +kernel
theorem dL_isSo_698 : decode cL_isSo 698 = .ok (.ifCond .eq 15, 3) := by decide +kernel
theorem dL_isSo_701 : decode cL_isSo 701 = .ok (.iload 23, 2) := by decide +kernel
theorem dL_isSo_703 : decode cL_isSo 703 = .ok (.iconst 2, 1) := by decide +kernel
theorem dL_isSo_704 : decode cL_isSo 704 = .ok (.irem, 1) := by decide +kernel
theorem dL_isSo_705 : decode cL_isSo 705 = .ok (.iconst 1, 1) := by decide +kernel
theorem dL_isSo_706 : decode cL_isSo 706 = .ok (.if_icmp .ne 7, 3) := by decide +kernel
theorem dL_isSo_709 : decode cL_isSo 709 = .ok (.iconst 1, 1) := by decide +kernel
theorem dL_isSo_710 : decode cL_isSo 710 = .ok (.goto 4, 3) := by decide +kernel
theorem dL_isSo_713 : decode cL_isSo 713 = .ok (.iconst 0, 1) := by decide +kernel
theorem dL_isSo_714 : decode cL_isSo 714 = .ok (.istore 28, 2) := by decide +kernel
theorem dL_isSo_716 : decode cL_isSo 716 = .ok (.iload 23, 2) := by decide +kernel
theorem dL_isSo_718 : decode cL_isSo 718 = .ok (.iload 27, 2) := by decide +kernel
theorem dL_isSo_720 : decode cL_isSo 720 = .ok (.ifCond .eq 7, 3) := by decide +kernel
theorem dL_isSo_723 : decode cL_isSo 723 = .ok (.iconst 2, 1) := by decide +kernel
theorem dL_isSo_724 : decode cL_isSo 724 = .ok (.goto 4, 3) := by decide +kernel
theorem dL_isSo_727 : decode cL_isSo 727 = .ok (.iconst 1, 1) := by decide +kernel
theorem dL_isSo_728 : decode cL_isSo 728 = .ok (.idiv, 1) := by decide +kernel
theorem dL_isSo_729 : decode cL_isSo 729 = .ok (.istore 23, 2) := by decide +kernel
theorem dL_isSo_731 : decode cL_isSo 731 = .ok (.iload 24, 2) := by decide +kernel
theorem dL_isSo_733 : decode cL_isSo 733 = .ok (.iload 28, 2) := by decide +kernel
theorem dL_isSo_735 : decode cL_isSo 735 = .ok (.ifCond .eq 7, 3) := by decide +kernel
theorem dL_isSo_738 : decode cL_isSo 738 = .ok (.iconst 0, 1) := by decide +kernel
theorem dL_isSo_739 : decode cL_isSo 739 = .ok (.goto 17, 3) := by decide +kernel
theorem dL_isSo_742 : decode cL_isSo 742 = .ok (.aload_n 1, 1) := by decide +kernel
theorem dL_isSo_743 : decode cL_isSo 743 = .ok (.aload_n 2, 1) := by decide +kernel
theorem dL_isSo_744 : decode cL_isSo 744 = .ok (.aload_n 3, 1) := by decide +kernel
theorem dL_isSo_745 : decode cL_isSo 745 = .ok (.aload 4, 2) := by decide +kernel
theorem dL_isSo_747 : decode cL_isSo 747 = .ok (.aload 8, 2) := by decide +kernel
theorem dL_isSo_749 : decode cL_isSo 749 = .ok (.iload 26, 2) := by decide +kernel
theorem dL_isSo_751 : decode cL_isSo 751 = .ok (.iload 11, 2) := by decide +kernel
theorem dL_isSo_753 : decode cL_isSo 753 = .ok (.invokestatic 116, 3) := by decide +kernel
theorem dL_isSo_756 : decode cL_isSo 756 = .ok (.iadd, 1) := by decide +kernel
theorem dL_isSo_757 : decode cL_isSo 757 = .ok (.istore 24, 2) := by decide +kernel
theorem dL_isSo_759 : decode cL_isSo 759 = .ok (.iload 25, 2) := by decide +kernel
theorem dL_isSo_761 : decode cL_isSo 761 = .ok (.iload 28, 2) := by decide +kernel
theorem dL_isSo_763 : decode cL_isSo 763 = .ok (.ifCond .ne 7, 3) := by decide +kernel
theorem dL_isSo_766 : decode cL_isSo 766 = .ok (.iconst 0, 1) := by decide +kernel
theorem dL_isSo_767 : decode cL_isSo 767 = .ok (.goto 45, 3) := by decide +kernel
theorem dL_isSo_770 : decode cL_isSo 770 = .ok (.aload 4, 2) := by decide +kernel
theorem dL_isSo_772 : decode cL_isSo 772 = .ok (.bipush 6, 2) := by decide +kernel
theorem dL_isSo_774 : decode cL_isSo 774 = .ok (.iload 26, 2) := by decide +kernel
theorem dL_isSo_776 : decode cL_isSo 776 = .ok (.imul, 1) := by decide +kernel
theorem dL_isSo_777 : decode cL_isSo 777 = .ok (.iconst 5, 1) := by decide +kernel
theorem dL_isSo_778 : decode cL_isSo 778 = .ok (.iadd, 1) := by decide +kernel
theorem dL_isSo_779 : decode cL_isSo 779 = .ok (.iaload, 1) := by decide +kernel
theorem dL_isSo_780 : decode cL_isSo 780 = .ok (.aload 8, 2) := by decide +kernel
theorem dL_isSo_782 : decode cL_isSo 782 = .ok (.iconst 0, 1) := by decide +kernel
theorem dL_isSo_783 : decode cL_isSo 783 = .ok (.iaload, 1) := by decide +kernel
theorem dL_isSo_784 : decode cL_isSo 784 = .ok (.if_icmp .le 8, 3) := by decide +kernel
theorem dL_isSo_787 : decode cL_isSo 787 = .ok (.ldc 151, 2) := by decide +kernel
theorem dL_isSo_789 : decode cL_isSo 789 = .ok (.goto 23, 3) := by decide +kernel
theorem dL_isSo_792 : decode cL_isSo 792 = .ok (.bipush 20, 2) := by decide +kernel
theorem dL_isSo_794 : decode cL_isSo 794 = .ok (.iconst 2, 1) := by decide +kernel
theorem dL_isSo_795 : decode cL_isSo 795 = .ok (.aload 4, 2) := by decide +kernel
theorem dL_isSo_797 : decode cL_isSo 797 = .ok (.bipush 6, 2) := by decide +kernel
theorem dL_isSo_799 : decode cL_isSo 799 = .ok (.iload 26, 2) := by decide +kernel
theorem dL_isSo_801 : decode cL_isSo 801 = .ok (.imul, 1) := by decide +kernel
theorem dL_isSo_802 : decode cL_isSo 802 = .ok (.iconst 2, 1) := by decide +kernel
theorem dL_isSo_803 : decode cL_isSo 803 = .ok (.iadd, 1) := by decide +kernel
theorem dL_isSo_804 : decode cL_isSo 804 = .ok (.iaload, 1) := by decide +kernel
theorem dL_isSo_805 : decode cL_isSo 805 = .ok (.iconst 4, 1) := by decide +kernel
theorem dL_isSo_806 : decode cL_isSo 806 = .ok (.idiv, 1) := by decide +kernel
theorem dL_isSo_807 : decode cL_isSo 807 = .ok (.bipush 16, 2) := by decide +kernel
theorem dL_isSo_809 : decode cL_isSo 809 = .ok (.irem, 1) := by decide +kernel
theorem dL_isSo_810 : decode cL_isSo 810 = .ok (.imul, 1) := by decide +kernel
theorem dL_isSo_811 : decode cL_isSo 811 = .ok (.isub, 1) := by decide +kernel
theorem dL_isSo_812 : decode cL_isSo 812 = .ok (.iadd, 1) := by decide +kernel
theorem dL_isSo_813 : decode cL_isSo 813 = .ok (.istore 25, 2) := by decide +kernel
theorem dL_isSo_815 : decode cL_isSo 815 = .ok (.iinc 26 1, 3) := by decide +kernel
theorem dL_isSo_818 : decode cL_isSo 818 = .ok (.goto (-156), 3) := by decide +kernel
theorem dL_isSo_821 : decode cL_isSo 821 = .ok (.iload 25, 2) := by decide +kernel
theorem dL_isSo_823 : decode cL_isSo 823 = .ok (.iload 18, 2) := by decide +kernel
theorem dL_isSo_825 : decode cL_isSo 825 = .ok (.if_icmp .gt 33, 3) := by decide +kernel
theorem dL_isSo_828 : decode cL_isSo 828 = .ok (.iload 19, 2) := by decide +kernel
theorem dL_isSo_830 : decode cL_isSo 830 = .ok (.ifCond .lt 24, 3) := by decide +kernel
theorem dL_isSo_833 : decode cL_isSo 833 = .ok (.iload 24, 2) := by decide +kernel
theorem dL_isSo_835 : decode cL_isSo 835 = .ok (.iload 20, 2) := by decide +kernel
theorem dL_isSo_837 : decode cL_isSo 837 = .ok (.if_icmp .lt 17, 3) := by decide +kernel
theorem dL_isSo_840 : decode cL_isSo 840 = .ok (.iload 24, 2) := by decide +kernel
theorem dL_isSo_842 : decode cL_isSo 842 = .ok (.iload 20, 2) := by decide +kernel
theorem dL_isSo_844 : decode cL_isSo 844 = .ok (.if_icmp .ne 14, 3) := by decide +kernel
theorem dL_isSo_847 : decode cL_isSo 847 = .ok (.iload 25, 2) := by decide +kernel
theorem dL_isSo_849 : decode cL_isSo 849 = .ok (.iload 21, 2) := by decide +kernel
theorem dL_isSo_851 : decode cL_isSo 851 = .ok (.if_icmp .gt 7, 3) := by decide +kernel
theorem dL_isSo_854 : decode cL_isSo 854 = .ok (.iconst 1, 1) := by decide +kernel
theorem dL_isSo_855 : decode cL_isSo 855 = .ok (.goto 4, 3) := by decide +kernel
theorem dL_isSo_858 : decode cL_isSo 858 = .ok (.iconst 0, 1) := by decide +kernel
theorem dL_isSo_859 : decode cL_isSo 859 = .ok (.istore 26, 2) := by decide +kernel
theorem dL_isSo_861 : decode cL_isSo 861 = .ok (.iload 26, 2) := by decide +kernel
theorem dL_isSo_863 : decode cL_isSo 863 = .ok (.ifCond .eq 8, 3) := by decide +kernel
theorem dL_isSo_866 : decode cL_isSo 866 = .ok (.iload 22, 2) := by decide +kernel
theorem dL_isSo_868 : decode cL_isSo 868 = .ok (.goto 5, 3) := by decide +kernel
theorem dL_isSo_871 : decode cL_isSo 871 = .ok (.iload 19, 2) := by decide +kernel
theorem dL_isSo_873 : decode cL_isSo 873 = .ok (.istore 19, 2) := by decide +kernel
theorem dL_isSo_875 : decode cL_isSo 875 = .ok (.iload 26, 2) := by decide +kernel
theorem dL_isSo_877 : decode cL_isSo 877 = .ok (.ifCond .eq 8, 3) := by decide +kernel
theorem dL_isSo_880 : decode cL_isSo 880 = .ok (.iload 24, 2) := by decide +kernel
theorem dL_isSo_882 : decode cL_isSo 882 = .ok (.goto 5, 3) := by decide +kernel
theorem dL_isSo_885 : decode cL_isSo 885 = .ok (.iload 20, 2) := by decide +kernel
theorem dL_isSo_887 : decode cL_isSo 887 = .ok (.istore 20, 2) := by decide +kernel
theorem dL_isSo_889 : decode cL_isSo 889 = .ok (.iload 26, 2) := by decide +kernel
theorem dL_isSo_891 : decode cL_isSo 891 = .ok (.ifCond .eq 8, 3) := by decide +kernel
theorem dL_isSo_894 : decode cL_isSo 894 = .ok (.iload 25, 2) := by decide +kernel
theorem dL_isSo_896 : decode cL_isSo 896 = .ok (.goto 5, 3) := by decide +kernel
theorem dL_isSo_899 : decode cL_isSo 899 = .ok (.iload 21, 2) := by decide +kernel
theorem dL_isSo_901 : decode cL_isSo 901 = .ok (.istore 21, 2) := by decide +kernel
theorem dL_isSo_903 : decode cL_isSo 903 = .ok (.iinc 22 (-1), 3) := by decide +kernel
theorem dL_isSo_906 : decode cL_isSo 906 = .ok (.goto (-262), 3) := by decide +kernel
theorem dL_isSo_909 : decode cL_isSo 909 = .ok (.aload_n 0, 1) := by decide +kernel
theorem dL_isSo_910 : decode cL_isSo 910 = .ok (.iload 15, 2) := by decide +kernel
theorem dL_isSo_912 : decode cL_isSo 912 = .ok (.iload 11, 2) := by decide +kernel
theorem dL_isSo_914 : decode cL_isSo 914 = .ok (.iload 18, 2) := by decide +kernel
theorem dL_isSo_916 : decode cL_isSo 916 = .ok (.invokevirtual 72, 3) := by decide +kernel
theorem dL_isSo_919 : decode cL_isSo 919 = .ok (.iload 19, 2) := by decide +kernel
theorem dL_isSo_921 : decode cL_isSo 921 = .ok (.if_icmp .ne 7, 3) := by decide +kernel
theorem dL_isSo_924 : decode cL_isSo 924 = .ok (.iconst 1, 1) := by decide +kernel
theorem dL_isSo_925 : decode cL_isSo 925 = .ok (.goto 4, 3) := by decide +kernel
theorem dL_isSo_928 : decode cL_isSo 928 = .ok (.iconst 0, 1) := by decide +kernel
theorem dL_isSo_929 : decode cL_isSo 929 = .ok (.istore 12, 2) := by decide +kernel
theorem dL_isSo_931 : decode cL_isSo 931 = .ok (.iinc 15 1, 3) := by decide +kernel
theorem dL_isSo_934 : decode cL_isSo 934 = .ok (.goto (-501), 3) := by decide +kernel
theorem dL_isSo_937 : decode cL_isSo 937 = .ok (.iconst 0, 1) := by decide +kernel
theorem dL_isSo_938 : decode cL_isSo 938 = .ok (.istore 15, 2) := by decide +kernel
theorem dL_isSo_940 : decode cL_isSo 940 = .ok (.iload 15, 2) := by decide +kernel
theorem dL_isSo_942 : decode cL_isSo 942 = .ok (.aload 8, 2) := by decide +kernel
theorem dL_isSo_944 : decode cL_isSo 944 = .ok (.iconst 4, 1) := by decide +kernel
theorem dL_isSo_945 : decode cL_isSo 945 = .ok (.iaload, 1) := by decide +kernel
theorem dL_isSo_946 : decode cL_isSo 946 = .ok (.if_icmp .ge 288, 3) := by decide +kernel
theorem dL_isSo_949 : decode cL_isSo 949 = .ok (.iload 12, 2) := by decide +kernel
theorem dL_isSo_951 : decode cL_isSo 951 = .ok (.ifCond .eq 283, 3) := by decide +kernel
theorem dL_isSo_954 : decode cL_isSo 954 = .ok (.aload 6, 2) := by decide +kernel
theorem dL_isSo_956 : decode cL_isSo 956 = .ok (.iconst 3, 1) := by decide +kernel
theorem dL_isSo_957 : decode cL_isSo 957 = .ok (.iload 15, 2) := by decide +kernel
theorem dL_isSo_959 : decode cL_isSo 959 = .ok (.imul, 1) := by decide +kernel
theorem dL_isSo_960 : decode cL_isSo 960 = .ok (.iconst 2, 1) := by decide +kernel
theorem dL_isSo_961 : decode cL_isSo 961 = .ok (.iadd, 1) := by decide +kernel
theorem dL_isSo_962 : decode cL_isSo 962 = .ok (.iaload, 1) := by decide +kernel
theorem dL_isSo_963 : decode cL_isSo 963 = .ok (.istore 16, 2) := by decide +kernel
theorem dL_isSo_965 : decode cL_isSo 965 = .ok (.iload 16, 2) := by decide +kernel
theorem dL_isSo_967 : decode cL_isSo 967 = .ok (.i2l, 1) := by decide +kernel
theorem dL_isSo_968 : decode cL_isSo 968 = .ok (.lstore 17, 2) := by decide +kernel
theorem dL_isSo_970 : decode cL_isSo 970 = .ok (.lconst 0, 1) := by decide +kernel
theorem dL_isSo_971 : decode cL_isSo 971 = .ok (.lstore 19, 2) := by decide +kernel
theorem dL_isSo_973 : decode cL_isSo 973 = .ok (.lconst 0, 1) := by decide +kernel
theorem dL_isSo_974 : decode cL_isSo 974 = .ok (.lstore 21, 2) := by decide +kernel
theorem dL_isSo_976 : decode cL_isSo 976 = .ok (.lconst 0, 1) := by decide +kernel
theorem dL_isSo_977 : decode cL_isSo 977 = .ok (.lstore 23, 2) := by decide +kernel
theorem dL_isSo_979 : decode cL_isSo 979 = .ok (.lconst 0, 1) := by decide +kernel
theorem dL_isSo_980 : decode cL_isSo 980 = .ok (.lstore 25, 2) := by decide +kernel
theorem dL_isSo_982 : decode cL_isSo 982 = .ok (.iconst 0, 1) := by decide +kernel
theorem dL_isSo_983 : decode cL_isSo 983 = .ok (.istore 27, 2) := by decide +kernel
theorem dL_isSo_985 : decode cL_isSo 985 = .ok (.iload 27, 2) := by decide +kernel
theorem dL_isSo_987 : decode cL_isSo 987 = .ok (.iload 16, 2) := by decide +kernel
theorem dL_isSo_989 : decode cL_isSo 989 = .ok (.if_icmp .ge 155, 3) := by decide +kernel
theorem dL_isSo_992 : decode cL_isSo 992 = .ok (.iload 12, 2) := by decide +kernel
theorem dL_isSo_994 : decode cL_isSo 994 = .ok (.ifCond .eq 150, 3) := by decide +kernel
theorem dL_isSo_997 : decode cL_isSo 997 = .ok (.aload 7, 2) := by decide +kernel
theorem dL_isSo_999 : decode cL_isSo 999 = .ok (.bipush 10, 2) := by decide +kernel
theorem dL_isSo_1001 : decode cL_isSo 1001 = .ok (.iload 15, 2) := by decide +kernel
theorem dL_isSo_1003 : decode cL_isSo 1003 = .ok (.imul, 1) := by decide +kernel
theorem dL_isSo_1004 : decode cL_isSo 1004 = .ok (.iload 27, 2) := by decide +kernel
theorem dL_isSo_1006 : decode cL_isSo 1006 = .ok (.iadd, 1) := by decide +kernel
theorem dL_isSo_1007 : decode cL_isSo 1007 = .ok (.iaload, 1) := by decide +kernel
theorem dL_isSo_1008 : decode cL_isSo 1008 = .ok (.istore 28, 2) := by decide +kernel
theorem dL_isSo_1010 : decode cL_isSo 1010 = .ok (.aload 7, 2) := by decide +kernel
theorem dL_isSo_1012 : decode cL_isSo 1012 = .ok (.bipush 20, 2) := by decide +kernel
theorem dL_isSo_1014 : decode cL_isSo 1014 = .ok (.bipush 10, 2) := by decide +kernel
theorem dL_isSo_1016 : decode cL_isSo 1016 = .ok (.iload 15, 2) := by decide +kernel
theorem dL_isSo_1018 : decode cL_isSo 1018 = .ok (.imul, 1) := by decide +kernel
theorem dL_isSo_1019 : decode cL_isSo 1019 = .ok (.iadd, 1) := by decide +kernel
theorem dL_isSo_1020 : decode cL_isSo 1020 = .ok (.iload 27, 2) := by decide +kernel
theorem dL_isSo_1022 : decode cL_isSo 1022 = .ok (.iadd, 1) := by decide +kernel
theorem dL_isSo_1023 : decode cL_isSo 1023 = .ok (.iaload, 1) := by decide +kernel
theorem dL_isSo_1024 : decode cL_isSo 1024 = .ok (.istore 29, 2) := by decide +kernel
theorem dL_isSo_1026 : decode cL_isSo 1026 = .ok (.iload 29, 2) := by decide +kernel
theorem dL_isSo_1028 : decode cL_isSo 1028 = .ok (.iload 28, 2) := by decide +kernel
theorem dL_isSo_1030 : decode cL_isSo 1030 = .ok (.invokestatic 152, 3) := by decide +kernel
theorem dL_isSo_1033 : decode cL_isSo 1033 = .ok (.isub, 1) := by decide +kernel
theorem dL_isSo_1034 : decode cL_isSo 1034 = .ok (.bipush 20, 2) := by decide +kernel
theorem dL_isSo_1036 : decode cL_isSo 1036 = .ok (.isub, 1) := by decide +kernel
theorem dL_isSo_1037 : decode cL_isSo 1037 = .ok (.aload 6, 2) := by decide +kernel
theorem dL_isSo_1039 : decode cL_isSo 1039 = .ok (.iconst 3, 1) := by decide +kernel
theorem dL_isSo_1040 : decode cL_isSo 1040 = .ok (.iload 15, 2) := by decide +kernel
theorem dL_isSo_1042 : decode cL_isSo 1042 = .ok (.imul, 1) := by decide +kernel
theorem dL_isSo_1043 : decode cL_isSo 1043 = .ok (.iconst 1, 1) := by decide +kernel
theorem dL_isSo_1044 : decode cL_isSo 1044 = .ok (.iadd, 1) := by decide +kernel
theorem dL_isSo_1045 : decode cL_isSo 1045 = .ok (.iaload, 1) := by decide +kernel
theorem dL_isSo_1046 : decode cL_isSo 1046 = .ok (.isub, 1) := by decide +kernel
theorem dL_isSo_1047 : decode cL_isSo 1047 = .ok (.istore 30, 2) := by decide +kernel
theorem dL_isSo_1049 : decode cL_isSo 1049 = .ok (.aload_n 0, 1) := by decide +kernel
theorem dL_isSo_1050 : decode cL_isSo 1050 = .ok (.iload 15, 2) := by decide +kernel
theorem dL_isSo_1052 : decode cL_isSo 1052 = .ok (.iload 27, 2) := by decide +kernel
theorem dL_isSo_1054 : decode cL_isSo 1054 = .ok (.iconst 0, 1) := by decide +kernel
theorem dL_isSo_1055 : decode cL_isSo 1055 = .ok (.invokevirtual 69, 3) := by decide +kernel
theorem dL_isSo_1058 : decode cL_isSo 1058 = .ok (.iload 28, 2) := by decide +kernel
theorem dL_isSo_1060 : decode cL_isSo 1060 = .ok (.if_icmp .ne 35, 3) := by decide +kernel
theorem dL_isSo_1063 : decode cL_isSo 1063 = .ok (.aload_n 0, 1) := by decide +kernel
theorem dL_isSo_1064 : decode cL_isSo 1064 = .ok (.iload 15, 2) := by decide +kernel
theorem dL_isSo_1066 : decode cL_isSo 1066 = .ok (.iload 27, 2) := by decide +kernel
theorem dL_isSo_1068 : decode cL_isSo 1068 = .ok (.iconst 1, 1) := by decide +kernel
theorem dL_isSo_1069 : decode cL_isSo 1069 = .ok (.invokevirtual 69, 3) := by decide +kernel
theorem dL_isSo_1072 : decode cL_isSo 1072 = .ok (.iload 29, 2) := by decide +kernel
theorem dL_isSo_1074 : decode cL_isSo 1074 = .ok (.if_icmp .ne 21, 3) := by decide +kernel
theorem dL_isSo_1077 : decode cL_isSo 1077 = .ok (.aload_n 0, 1) := by decide +kernel
theorem dL_isSo_1078 : decode cL_isSo 1078 = .ok (.iload 15, 2) := by decide +kernel
theorem dL_isSo_1080 : decode cL_isSo 1080 = .ok (.iload 27, 2) := by decide +kernel
theorem dL_isSo_1082 : decode cL_isSo 1082 = .ok (.iconst 2, 1) := by decide +kernel
theorem dL_isSo_1083 : decode cL_isSo 1083 = .ok (.invokevirtual 69, 3) := by decide +kernel
theorem dL_isSo_1086 : decode cL_isSo 1086 = .ok (.iload 30, 2) := by decide +kernel
theorem dL_isSo_1088 : decode cL_isSo 1088 = .ok (.if_icmp .ne 7, 3) := by decide +kernel
theorem dL_isSo_1091 : decode cL_isSo 1091 = .ok (.iconst 1, 1) := by decide +kernel
theorem dL_isSo_1092 : decode cL_isSo 1092 = .ok (.goto 4, 3) := by decide +kernel
theorem dL_isSo_1095 : decode cL_isSo 1095 = .ok (.iconst 0, 1) := by decide +kernel
theorem dL_isSo_1096 : decode cL_isSo 1096 = .ok (.istore 12, 2) := by decide +kernel
theorem dL_isSo_1098 : decode cL_isSo 1098 = .ok (.lload 19, 2) := by decide +kernel
theorem dL_isSo_1100 : decode cL_isSo 1100 = .ok (.iload 28, 2) := by decide +kernel
theorem dL_isSo_1102 : decode cL_isSo 1102 = .ok (.i2l, 1) := by decide +kernel
theorem dL_isSo_1103 : decode cL_isSo 1103 = .ok (.ladd, 1) := by decide +kernel
theorem dL_isSo_1104 : decode cL_isSo 1104 = .ok (.lstore 19, 2) := by decide +kernel
theorem dL_isSo_1106 : decode cL_isSo 1106 = .ok (.lload 21, 2) := by decide +kernel
theorem dL_isSo_1108 : decode cL_isSo 1108 = .ok (.iload 30, 2) := by decide +kernel
theorem dL_isSo_1110 : decode cL_isSo 1110 = .ok (.i2l, 1) := by decide +kernel
theorem dL_isSo_1111 : decode cL_isSo 1111 = .ok (.ladd, 1) := by decide +kernel
theorem dL_isSo_1112 : decode cL_isSo 1112 = .ok (.lstore 21, 2) := by decide +kernel
theorem dL_isSo_1114 : decode cL_isSo 1114 = .ok (.lload 23, 2) := by decide +kernel
theorem dL_isSo_1116 : decode cL_isSo 1116 = .ok (.iload 28, 2) := by decide +kernel
theorem dL_isSo_1118 : decode cL_isSo 1118 = .ok (.i2l, 1) := by decide +kernel
theorem dL_isSo_1119 : decode cL_isSo 1119 = .ok (.iload 30, 2) := by decide +kernel
theorem dL_isSo_1121 : decode cL_isSo 1121 = .ok (.i2l, 1) := by decide +kernel
theorem dL_isSo_1122 : decode cL_isSo 1122 = .ok (.lmul, 1) := by decide +kernel
theorem dL_isSo_1123 : decode cL_isSo 1123 = .ok (.ladd, 1) := by decide +kernel
theorem dL_isSo_1124 : decode cL_isSo 1124 = .ok (.lstore 23, 2) := by decide +kernel
theorem dL_isSo_1126 : decode cL_isSo 1126 = .ok (.lload 25, 2) := by decide +kernel
theorem dL_isSo_1128 : decode cL_isSo 1128 = .ok (.iload 28, 2) := by decide +kernel
theorem dL_isSo_1130 : decode cL_isSo 1130 = .ok (.i2l, 1) := by decide +kernel
theorem dL_isSo_1131 : decode cL_isSo 1131 = .ok (.iload 28, 2) := by decide +kernel
theorem dL_isSo_1133 : decode cL_isSo 1133 = .ok (.i2l, 1) := by decide +kernel
theorem dL_isSo_1134 : decode cL_isSo 1134 = .ok (.lmul, 1) := by decide +kernel
theorem dL_isSo_1135 : decode cL_isSo 1135 = .ok (.ladd, 1) := by decide +kernel
theorem dL_isSo_1136 : decode cL_isSo 1136 = .ok (.lstore 25, 2) := by decide +kernel
theorem dL_isSo_1138 : decode cL_isSo 1138 = .ok (.iinc 27 1, 3) := by decide +kernel
theorem dL_isSo_1141 : decode cL_isSo 1141 = .ok (.goto (-156), 3) := by decide +kernel
theorem dL_isSo_1144 : decode cL_isSo 1144 = .ok (.lload 17, 2) := by decide +kernel
theorem dL_isSo_1146 : decode cL_isSo 1146 = .ok (.lload 25, 2) := by decide +kernel
theorem dL_isSo_1148 : decode cL_isSo 1148 = .ok (.lmul, 1) := by decide +kernel
theorem dL_isSo_1149 : decode cL_isSo 1149 = .ok (.lload 19, 2) := by decide +kernel
theorem dL_isSo_1151 : decode cL_isSo 1151 = .ok (.lload 19, 2) := by decide +kernel
theorem dL_isSo_1153 : decode cL_isSo 1153 = .ok (.lmul, 1) := by decide +kernel
theorem dL_isSo_1154 : decode cL_isSo 1154 = .ok (.lsub, 1) := by decide +kernel
theorem dL_isSo_1155 : decode cL_isSo 1155 = .ok (.lstore 27, 2) := by decide +kernel
theorem dL_isSo_1157 : decode cL_isSo 1157 = .ok (.iload 12, 2) := by decide +kernel
theorem dL_isSo_1159 : decode cL_isSo 1159 = .ok (.ifCond .eq 66, 3) := by decide +kernel
theorem dL_isSo_1162 : decode cL_isSo 1162 = .ok (.aload_n 0, 1) := by decide +kernel
theorem dL_isSo_1163 : decode cL_isSo 1163 = .ok (.bipush 17, 2) := by decide +kernel
theorem dL_isSo_1165 : decode cL_isSo 1165 = .ok (.iload 15, 2) := by decide +kernel
theorem dL_isSo_1167 : decode cL_isSo 1167 = .ok (.iload 16, 2) := by decide +kernel
theorem dL_isSo_1169 : decode cL_isSo 1169 = .ok (.iconst 0, 1) := by decide +kernel
theorem dL_isSo_1170 : decode cL_isSo 1170 = .ok (.iconst 0, 1) := by decide +kernel
theorem dL_isSo_1171 : decode cL_isSo 1171 = .ok (.iconst 0, 1) := by decide +kernel
theorem dL_isSo_1172 : decode cL_isSo 1172 = .ok (.invokestatic 155, 3) := by decide +kernel
theorem dL_isSo_1175 : decode cL_isSo 1175 = .ok (.ldc 77, 2) := by decide +kernel
theorem dL_isSo_1177 : decode cL_isSo 1177 = .ok (.if_icmp .ne 48, 3) := by decide +kernel
theorem dL_isSo_1180 : decode cL_isSo 1180 = .ok (.aload_n 0, 1) := by decide +kernel
theorem dL_isSo_1181 : decode cL_isSo 1181 = .ok (.iload 15, 2) := by decide +kernel
theorem dL_isSo_1183 : decode cL_isSo 1183 = .ok (.invokestatic 159, 3) := by decide +kernel
theorem dL_isSo_1186 : decode cL_isSo 1186 = .ok (.lload 27, 2) := by decide +kernel
theorem dL_isSo_1188 : decode cL_isSo 1188 = .ok (.lconst 0, 1) := by decide +kernel
theorem dL_isSo_1189 : decode cL_isSo 1189 = .ok (.lcmp, 1) := by decide +kernel
theorem dL_isSo_1190 : decode cL_isSo 1190 = .ok (.ifCond .ne 9, 3) := by decide +kernel
theorem dL_isSo_1193 : decode cL_isSo 1193 = .ok (.ldc2_w 96, 3) := by decide +kernel
theorem dL_isSo_1196 : decode cL_isSo 1196 = .ok (.goto 21, 3) := by decide +kernel
theorem dL_isSo_1199 : decode cL_isSo 1199 = .ok (.ldc2_w 163, 3) := by decide +kernel
theorem dL_isSo_1202 : decode cL_isSo 1202 = .ok (.lload 17, 2) := by decide +kernel
theorem dL_isSo_1204 : decode cL_isSo 1204 = .ok (.lload 23, 2) := by decide +kernel
theorem dL_isSo_1206 : decode cL_isSo 1206 = .ok (.lmul, 1) := by decide +kernel
theorem dL_isSo_1207 : decode cL_isSo 1207 = .ok (.lload 19, 2) := by decide +kernel
theorem dL_isSo_1209 : decode cL_isSo 1209 = .ok (.lload 21, 2) := by decide +kernel
theorem dL_isSo_1211 : decode cL_isSo 1211 = .ok (.lmul, 1) := by decide +kernel
theorem dL_isSo_1212 : decode cL_isSo 1212 = .ok (.lsub, 1) := by decide +kernel
theorem dL_isSo_1213 : decode cL_isSo 1213 = .ok (.lmul, 1) := by decide +kernel
theorem dL_isSo_1214 : decode cL_isSo 1214 = .ok (.lload 27, 2) := by decide +kernel
theorem dL_isSo_1216 : decode cL_isSo 1216 = .ok (.ldiv, 1) := by decide +kernel
theorem dL_isSo_1217 : decode cL_isSo 1217 = .ok (.lcmp, 1) := by decide +kernel
theorem dL_isSo_1218 : decode cL_isSo 1218 = .ok (.ifCond .ne 7, 3) := by decide +kernel
theorem dL_isSo_1221 : decode cL_isSo 1221 = .ok (.iconst 1, 1) := by decide +kernel
theorem dL_isSo_1222 : decode cL_isSo 1222 = .ok (.goto 4, 3) := by decide +kernel
theorem dL_isSo_1225 : decode cL_isSo 1225 = .ok (.iconst 0, 1) := by decide +kernel
theorem dL_isSo_1226 : decode cL_isSo 1226 = .ok (.istore 12, 2) := by decide +kernel
theorem dL_isSo_1228 : decode cL_isSo 1228 = .ok (.iinc 15 1, 3) := by decide +kernel
theorem dL_isSo_1231 : decode cL_isSo 1231 = .ok (.goto (-291), 3) := by decide +kernel
theorem dL_isSo_1234 : decode cL_isSo 1234 = .ok (.iload 10, 2) := by decide +kernel
theorem dL_isSo_1236 : decode cL_isSo 1236 = .ok (.iconst 3, 1) := by decide +kernel
theorem dL_isSo_1237 : decode cL_isSo 1237 = .ok (.irem, 1) := by decide +kernel
theorem dL_isSo_1238 : decode cL_isSo 1238 = .ok (.ifCond .ne 12, 3) := by decide +kernel
theorem dL_isSo_1241 : decode cL_isSo 1241 = .ok (.iload 10, 2) := by decide +kernel
theorem dL_isSo_1243 : decode cL_isSo 1243 = .ok (.sipush 2000, 3) := by decide +kernel
theorem dL_isSo_1246 : decode cL_isSo 1246 = .ok (.irem, 1) := by decide +kernel
theorem dL_isSo_1247 : decode cL_isSo 1247 = .ok (.goto 4, 3) := by decide +kernel
theorem dL_isSo_1250 : decode cL_isSo 1250 = .ok (.iconst 0, 1) := by decide +kernel
theorem dL_isSo_1251 : decode cL_isSo 1251 = .ok (.istore 15, 2) := by decide +kernel
theorem dL_isSo_1253 : decode cL_isSo 1253 = .ok (.aload_n 1, 1) := by decide +kernel
theorem dL_isSo_1254 : decode cL_isSo 1254 = .ok (.aload_n 2, 1) := by decide +kernel
theorem dL_isSo_1255 : decode cL_isSo 1255 = .ok (.aload_n 3, 1) := by decide +kernel
theorem dL_isSo_1256 : decode cL_isSo 1256 = .ok (.aload 4, 2) := by decide +kernel
theorem dL_isSo_1258 : decode cL_isSo 1258 = .ok (.aload 8, 2) := by decide +kernel
theorem dL_isSo_1260 : decode cL_isSo 1260 = .ok (.iload 11, 2) := by decide +kernel
theorem dL_isSo_1262 : decode cL_isSo 1262 = .ok (.invokestatic 148, 3) := by decide +kernel
theorem dL_isSo_1265 : decode cL_isSo 1265 = .ok (.istore 16, 2) := by decide +kernel
theorem dL_isSo_1267 : decode cL_isSo 1267 = .ok (.iload 11, 2) := by decide +kernel
theorem dL_isSo_1269 : decode cL_isSo 1269 = .ok (.bipush 8, 2) := by decide +kernel
theorem dL_isSo_1271 : decode cL_isSo 1271 = .ok (.irem, 1) := by decide +kernel
theorem dL_isSo_1272 : decode cL_isSo 1272 = .ok (.bipush 7, 2) := by decide +kernel
theorem dL_isSo_1274 : decode cL_isSo 1274 = .ok (.if_icmp .ne 10, 3) := by decide +kernel
theorem dL_isSo_1277 : decode cL_isSo 1277 = .ok (.iload 11, 2) := by decide +kernel
theorem dL_isSo_1279 : decode cL_isSo 1279 = .ok (.iconst 1, 1) := by decide +kernel
theorem dL_isSo_1280 : decode cL_isSo 1280 = .ok (.isub, 1) := by decide +kernel
theorem dL_isSo_1281 : decode cL_isSo 1281 = .ok (.goto 7, 3) := by decide +kernel
theorem dL_isSo_1284 : decode cL_isSo 1284 = .ok (.iload 11, 2) := by decide +kernel
theorem dL_isSo_1286 : decode cL_isSo 1286 = .ok (.iconst 1, 1) := by decide +kernel
theorem dL_isSo_1287 : decode cL_isSo 1287 = .ok (.iadd, 1) := by decide +kernel
theorem dL_isSo_1288 : decode cL_isSo 1288 = .ok (.istore 17, 2) := by decide +kernel
theorem dL_isSo_1290 : decode cL_isSo 1290 = .ok (.iload 16, 2) := by decide +kernel
theorem dL_isSo_1292 : decode cL_isSo 1292 = .ok (.iload 15, 2) := by decide +kernel
theorem dL_isSo_1294 : decode cL_isSo 1294 = .ok (.if_icmp .gt 24, 3) := by decide +kernel
theorem dL_isSo_1297 : decode cL_isSo 1297 = .ok (.aload_n 1, 1) := by decide +kernel
theorem dL_isSo_1298 : decode cL_isSo 1298 = .ok (.aload_n 2, 1) := by decide +kernel
theorem dL_isSo_1299 : decode cL_isSo 1299 = .ok (.aload_n 3, 1) := by decide +kernel
theorem dL_isSo_1300 : decode cL_isSo 1300 = .ok (.aload 4, 2) := by decide +kernel
theorem dL_isSo_1302 : decode cL_isSo 1302 = .ok (.aload 8, 2) := by decide +kernel
theorem dL_isSo_1304 : decode cL_isSo 1304 = .ok (.iload 17, 2) := by decide +kernel
theorem dL_isSo_1306 : decode cL_isSo 1306 = .ok (.invokestatic 148, 3) := by decide +kernel
theorem dL_isSo_1309 : decode cL_isSo 1309 = .ok (.iload 15, 2) := by decide +kernel
theorem dL_isSo_1311 : decode cL_isSo 1311 = .ok (.if_icmp .gt 7, 3) := by decide +kernel
theorem dL_isSo_1314 : decode cL_isSo 1314 = .ok (.iconst 1, 1) := by decide +kernel
theorem dL_isSo_1315 : decode cL_isSo 1315 = .ok (.goto 4, 3) := by decide +kernel
theorem dL_isSo_1318 : decode cL_isSo 1318 = .ok (.iconst 0, 1) := by decide +kernel
theorem dL_isSo_1319 : decode cL_isSo 1319 = .ok (.istore 18, 2) := by decide +kernel
theorem dL_isSo_1321 : decode cL_isSo 1321 = .ok (.iload 12, 2) := by decide +kernel
theorem dL_isSo_1323 : decode cL_isSo 1323 = .ok (.ifCond .eq 98, 3) := by decide +kernel
theorem dL_isSo_1326 : decode cL_isSo 1326 = .ok (.aload_n 0, 1) := by decide +kernel
theorem dL_isSo_1327 : decode cL_isSo 1327 = .ok (.iload 11, 2) := by decide +kernel
theorem dL_isSo_1329 : decode cL_isSo 1329 = .ok (.iload 11, 2) := by decide +kernel
theorem dL_isSo_1331 : decode cL_isSo 1331 = .ok (.iload 15, 2) := by decide +kernel
theorem dL_isSo_1333 : decode cL_isSo 1333 = .ok (.invokevirtual 66, 3) := by decide +kernel
theorem dL_isSo_1336 : decode cL_isSo 1336 = .ok (.iload 16, 2) := by decide +kernel
theorem dL_isSo_1338 : decode cL_isSo 1338 = .ok (.iload 15, 2) := by decide +kernel
theorem dL_isSo_1340 : decode cL_isSo 1340 = .ok (.if_icmp .gt 7, 3) := by decide +kernel
theorem dL_isSo_1343 : decode cL_isSo 1343 = .ok (.iconst 0, 1) := by decide +kernel
theorem dL_isSo_1344 : decode cL_isSo 1344 = .ok (.goto 4, 3) := by decide +kernel
theorem dL_isSo_1347 : decode cL_isSo 1347 = .ok (.iconst (-1), 1) := by decide +kernel
theorem dL_isSo_1348 : decode cL_isSo 1348 = .ok (.if_icmp .ne 73, 3) := by decide +kernel
theorem dL_isSo_1351 : decode cL_isSo 1351 = .ok (.iload 18, 2) := by decide +kernel
theorem dL_isSo_1353 : decode cL_isSo 1353 = .ok (.aload_n 0, 1) := by decide +kernel
theorem dL_isSo_1354 : decode cL_isSo 1354 = .ok (.iload 11, 2) := by decide +kernel
theorem dL_isSo_1356 : decode cL_isSo 1356 = .ok (.iload 17, 2) := by decide +kernel
theorem dL_isSo_1358 : decode cL_isSo 1358 = .ok (.iload 15, 2) := by decide +kernel
theorem dL_isSo_1360 : decode cL_isSo 1360 = .ok (.invokevirtual 66, 3) := by decide +kernel
theorem dL_isSo_1363 : decode cL_isSo 1363 = .ok (.iconst 1, 1) := by decide +kernel
theorem dL_isSo_1364 : decode cL_isSo 1364 = .ok (.if_icmp .ne 7, 3) := by decide +kernel
theorem dL_isSo_1367 : decode cL_isSo 1367 = .ok (.iconst 1, 1) := by decide +kernel
theorem dL_isSo_1368 : decode cL_isSo 1368 = .ok (.goto 4, 3) := by decide +kernel
theorem dL_isSo_1371 : decode cL_isSo 1371 = .ok (.iconst 0, 1) := by decide +kernel
theorem dL_isSo_1372 : decode cL_isSo 1372 = .ok (.if_icmp .ne 49, 3) := by decide +kernel
theorem dL_isSo_1375 : decode cL_isSo 1375 = .ok (.aload_n 0, 1) := by decide +kernel
theorem dL_isSo_1376 : decode cL_isSo 1376 = .ok (.iload 17, 2) := by decide +kernel
theorem dL_isSo_1378 : decode cL_isSo 1378 = .ok (.iload 11, 2) := by decide +kernel
theorem dL_isSo_1380 : decode cL_isSo 1380 = .ok (.iload 15, 2) := by decide +kernel
theorem dL_isSo_1382 : decode cL_isSo 1382 = .ok (.invokevirtual 66, 3) := by decide +kernel
theorem dL_isSo_1385 : decode cL_isSo 1385 = .ok (.aload_n 0, 1) := by decide +kernel
theorem dL_isSo_1386 : decode cL_isSo 1386 = .ok (.iload 11, 2) := by decide +kernel
theorem dL_isSo_1388 : decode cL_isSo 1388 = .ok (.iload 17, 2) := by decide +kernel
theorem dL_isSo_1390 : decode cL_isSo 1390 = .ok (.iload 15, 2) := by decide +kernel
theorem dL_isSo_1392 : decode cL_isSo 1392 = .ok (.invokevirtual 66, 3) := by decide +kernel
theorem dL_isSo_1395 : decode cL_isSo 1395 = .ok (.if_icmp .ne 26, 3) := by decide +kernel
theorem dL_isSo_1398 : decode cL_isSo 1398 = .ok (.aload_n 0, 1) := by decide +kernel
theorem dL_isSo_1399 : decode cL_isSo 1399 = .ok (.bipush 14, 2) := by decide +kernel
theorem dL_isSo_1401 : decode cL_isSo 1401 = .ok (.aload 8, 2) := by decide +kernel
theorem dL_isSo_1403 : decode cL_isSo 1403 = .ok (.iconst 3, 1) := by decide +kernel
theorem dL_isSo_1404 : decode cL_isSo 1404 = .ok (.iaload, 1) := by decide +kernel
theorem dL_isSo_1405 : decode cL_isSo 1405 = .ok (.iconst 0, 1) := by decide +kernel
theorem dL_isSo_1406 : decode cL_isSo 1406 = .ok (.iconst 0, 1) := by decide +kernel
theorem dL_isSo_1407 : decode cL_isSo 1407 = .ok (.iconst 0, 1) := by decide +kernel
theorem dL_isSo_1408 : decode cL_isSo 1408 = .ok (.iconst 0, 1) := by decide +kernel
theorem dL_isSo_1409 : decode cL_isSo 1409 = .ok (.invokestatic 155, 3) := by decide +kernel
theorem dL_isSo_1412 : decode cL_isSo 1412 = .ok (.ldc 77, 2) := by decide +kernel
theorem dL_isSo_1414 : decode cL_isSo 1414 = .ok (.if_icmp .ne 7, 3) := by decide +kernel
theorem dL_isSo_1417 : decode cL_isSo 1417 = .ok (.iconst 1, 1) := by decide +kernel
theorem dL_isSo_1418 : decode cL_isSo 1418 = .ok (.goto 4, 3) := by decide +kernel
theorem dL_isSo_1421 : decode cL_isSo 1421 = .ok (.iconst 0, 1) := by decide +kernel
theorem dL_isSo_1422 : decode cL_isSo 1422 = .ok (.ireturn, 1) := by decide +kernel
theorem dL_isTold_0 : decode cL_isTold 0 = .ok (.iload 7, 2) := by decide +kernel
theorem dL_isTold_2 : decode cL_isTold 2 = .ok (.bipush 17, 2) := by decide +kernel
theorem dL_isTold_4 : decode cL_isTold 4 = .ok (.irem, 1) := by decide +kernel
theorem dL_isTold_5 : decode cL_isTold 5 = .ok (.bipush 16, 2) := by decide +kernel
theorem dL_isTold_7 : decode cL_isTold 7 = .ok (.if_icmp .ne 8, 3) := by decide +kernel
theorem dL_isTold_10 : decode cL_isTold 10 = .ok (.bipush 64, 2) := by decide +kernel
theorem dL_isTold_12 : decode cL_isTold 12 = .ok (.goto 11, 3) := by decide +kernel
theorem dL_isTold_15 : decode cL_isTold 15 = .ok (.bipush 16, 2) := by decide +kernel
theorem dL_isTold_17 : decode cL_isTold 17 = .ok (.iload 7, 2) := by decide +kernel
theorem dL_isTold_19 : decode cL_isTold 19 = .ok (.bipush 24, 2) := by decide +kernel
theorem dL_isTold_21 : decode cL_isTold 21 = .ok (.irem, 1) := by decide +kernel
theorem dL_isTold_22 : decode cL_isTold 22 = .ok (.iadd, 1) := by decide +kernel
theorem dL_isTold_23 : decode cL_isTold 23 = .ok (.istore 9, 2) := by decide +kernel
theorem dL_isTold_25 : decode cL_isTold 25 = .ok (.iload 8, 2) := by decide +kernel
theorem dL_isTold_27 : decode cL_isTold 27 = .ok (.bipush 13, 2) := by decide +kernel
theorem dL_isTold_29 : decode cL_isTold 29 = .ok (.irem, 1) := by decide +kernel
theorem dL_isTold_30 : decode cL_isTold 30 = .ok (.bipush 12, 2) := by decide +kernel
theorem dL_isTold_32 : decode cL_isTold 32 = .ok (.if_icmp .ne 7, 3) := by decide +kernel
theorem dL_isTold_35 : decode cL_isTold 35 = .ok (.iconst 4, 1) := by decide +kernel
theorem dL_isTold_36 : decode cL_isTold 36 = .ok (.goto 7, 3) := by decide +kernel
theorem dL_isTold_39 : decode cL_isTold 39 = .ok (.iload 8, 2) := by decide +kernel
theorem dL_isTold_41 : decode cL_isTold 41 = .ok (.iconst 2, 1) := by decide +kernel
theorem dL_isTold_42 : decode cL_isTold 42 = .ok (.irem, 1) := by decide +kernel
theorem dL_isTold_43 : decode cL_isTold 43 = .ok (.istore 10, 2) := by decide +kernel
theorem dL_isTold_45 : decode cL_isTold 45 = .ok (.iload 6, 2) := by decide +kernel
theorem dL_isTold_47 : decode cL_isTold 47 = .ok (.ifCond .ne 95, 3) := by decide +kernel
theorem dL_isTold_50 : decode cL_isTold 50 = .ok (.iload 9, 2) := by decide +kernel
theorem dL_isTold_52 : decode cL_isTold 52 = .ok (.bipush 64, 2) := by decide +kernel
theorem dL_isTold_54 : decode cL_isTold 54 = .ok (.if_icmp .ne 7, 3) := by decide +kernel
theorem dL_isTold_57 : decode cL_isTold 57 = .ok (.iconst 0, 1) := by decide +kernel
theorem dL_isTold_58 : decode cL_isTold 58 = .ok (.goto 5, 3) := by decide +kernel
theorem dL_isTold_61 : decode cL_isTold 61 = .ok (.iload 9, 2) := by decide +kernel
theorem dL_isTold_63 : decode cL_isTold 63 = .ok (.istore 11, 2) := by decide +kernel
theorem dL_isTold_65 : decode cL_isTold 65 = .ok (.aload_n 1, 1) := by decide +kernel
theorem dL_isTold_66 : decode cL_isTold 66 = .ok (.iload 11, 2) := by decide +kernel
theorem dL_isTold_68 : decode cL_isTold 68 = .ok (.iaload, 1) := by decide +kernel
theorem dL_isTold_69 : decode cL_isTold 69 = .ok (.iconst 3, 1) := by decide +kernel
theorem dL_isTold_70 : decode cL_isTold 70 = .ok (.if_icmp .le 7, 3) := by decide +kernel
theorem dL_isTold_73 : decode cL_isTold 73 = .ok (.iconst 1, 1) := by decide +kernel
theorem dL_isTold_74 : decode cL_isTold 74 = .ok (.goto 4, 3) := by decide +kernel
theorem dL_isTold_77 : decode cL_isTold 77 = .ok (.iconst 0, 1) := by decide +kernel
theorem dL_isTold_78 : decode cL_isTold 78 = .ok (.istore 12, 2) := by decide +kernel
theorem dL_isTold_80 : decode cL_isTold 80 = .ok (.iload 8, 2) := by decide +kernel
theorem dL_isTold_82 : decode cL_isTold 82 = .ok (.iconst 3, 1) := by decide +kernel
theorem dL_isTold_83 : decode cL_isTold 83 = .ok (.irem, 1) := by decide +kernel
theorem dL_isTold_84 : decode cL_isTold 84 = .ok (.ifCond .le 7, 3) := by decide +kernel
theorem dL_isTold_87 : decode cL_isTold 87 = .ok (.iconst 1, 1) := by decide +kernel
theorem dL_isTold_88 : decode cL_isTold 88 = .ok (.goto 4, 3) := by decide +kernel
theorem dL_isTold_91 : decode cL_isTold 91 = .ok (.iconst 0, 1) := by decide +kernel
theorem dL_isTold_92 : decode cL_isTold 92 = .ok (.istore 13, 2) := by decide +kernel
theorem dL_isTold_94 : decode cL_isTold 94 = .ok (.aload_n 1, 1) := by decide +kernel
theorem dL_isTold_95 : decode cL_isTold 95 = .ok (.iload 11, 2) := by decide +kernel
theorem dL_isTold_97 : decode cL_isTold 97 = .ok (.dup2, 1) := by decide +kernel
theorem dL_isTold_98 : decode cL_isTold 98 = .ok (.iaload, 1) := by decide +kernel
theorem dL_isTold_99 : decode cL_isTold 99 = .ok (.iload 13, 2) := by decide +kernel
theorem dL_isTold_101 : decode cL_isTold 101 = .ok (.iload 12, 2) := by decide +kernel
theorem dL_isTold_103 : decode cL_isTold 103 = .ok (.if_icmp .ne 7, 3) := by decide +kernel
theorem dL_isTold_106 : decode cL_isTold 106 = .ok (.iconst 0, 1) := by decide +kernel
theorem dL_isTold_107 : decode cL_isTold 107 = .ok (.goto 14, 3) := by decide +kernel
theorem dL_isTold_110 : decode cL_isTold 110 = .ok (.iload 13, 2) := by decide +kernel
theorem dL_isTold_112 : decode cL_isTold 112 = .ok (.ifCond .eq 7, 3) := by decide +kernel
theorem dL_isTold_115 : decode cL_isTold 115 = .ok (.iconst 4, 1) := by decide +kernel
theorem dL_isTold_116 : decode cL_isTold 116 = .ok (.goto 5, 3) := by decide +kernel
theorem dL_isTold_119 : decode cL_isTold 119 = .ok (.bipush (-4), 2) := by decide +kernel
theorem dL_isTold_121 : decode cL_isTold 121 = .ok (.iadd, 1) := by decide +kernel
theorem dL_isTold_122 : decode cL_isTold 122 = .ok (.iastore, 1) := by decide +kernel
theorem dL_isTold_123 : decode cL_isTold 123 = .ok (.aload_n 0, 1) := by decide +kernel
theorem dL_isTold_124 : decode cL_isTold 124 = .ok (.iload 11, 2) := by decide +kernel
theorem dL_isTold_126 : decode cL_isTold 126 = .ok (.iload 13, 2) := by decide +kernel
theorem dL_isTold_128 : decode cL_isTold 128 = .ok (.invokevirtual 165, 3) := by decide +kernel
theorem dL_isTold_131 : decode cL_isTold 131 = .ok (.iload 12, 2) := by decide +kernel
theorem dL_isTold_133 : decode cL_isTold 133 = .ok (.if_icmp .ne 7, 3) := by decide +kernel
theorem dL_isTold_136 : decode cL_isTold 136 = .ok (.iconst 1, 1) := by decide +kernel
theorem dL_isTold_137 : decode cL_isTold 137 = .ok (.goto 4, 3) := by decide +kernel
theorem dL_isTold_140 : decode cL_isTold 140 = .ok (.iconst 0, 1) := by decide +kernel
theorem dL_isTold_141 : decode cL_isTold 141 = .ok (.ireturn, 1) := by decide +kernel
theorem dL_isTold_142 : decode cL_isTold 142 = .ok (.iload 6, 2) := by decide +kernel
theorem dL_isTold_144 : decode cL_isTold 144 = .ok (.iconst 1, 1) := by decide +kernel
theorem dL_isTold_145 : decode cL_isTold 145 = .ok (.if_icmp .ne 103, 3) := by decide +kernel
theorem dL_isTold_148 : decode cL_isTold 148 = .ok (.iload 9, 2) := by decide +kernel
theorem dL_isTold_150 : decode cL_isTold 150 = .ok (.bipush 64, 2) := by decide +kernel
theorem dL_isTold_152 : decode cL_isTold 152 = .ok (.if_icmp .ge 13, 3) := by decide +kernel
theorem dL_isTold_155 : decode cL_isTold 155 = .ok (.iload 10, 2) := by decide +kernel
theorem dL_isTold_157 : decode cL_isTold 157 = .ok (.iconst 4, 1) := by decide +kernel
theorem dL_isTold_158 : decode cL_isTold 158 = .ok (.if_icmp .ge 7, 3) := by decide +kernel
theorem dL_isTold_161 : decode cL_isTold 161 = .ok (.iconst 1, 1) := by decide +kernel
theorem dL_isTold_162 : decode cL_isTold 162 = .ok (.goto 4, 3) := by decide +kernel
theorem dL_isTold_165 : decode cL_isTold 165 = .ok (.iconst 0, 1) := by decide +kernel
theorem dL_isTold_166 : decode cL_isTold 166 = .ok (.istore 11, 2) := by decide +kernel
theorem dL_isTold_168 : decode cL_isTold 168 = .ok (.iload 11, 2) := by decide +kernel
theorem dL_isTold_170 : decode cL_isTold 170 = .ok (.ifCond .eq 12, 3) := by decide +kernel
theorem dL_isTold_173 : decode cL_isTold 173 = .ok (.aload_n 1, 1) := by decide +kernel
theorem dL_isTold_174 : decode cL_isTold 174 = .ok (.iload 9, 2) := by decide +kernel
theorem dL_isTold_176 : decode cL_isTold 176 = .ok (.iaload, 1) := by decide +kernel
theorem dL_isTold_177 : decode cL_isTold 177 = .ok (.iconst 4, 1) := by decide +kernel
theorem dL_isTold_178 : decode cL_isTold 178 = .ok (.irem, 1) := by decide +kernel
theorem dL_isTold_179 : decode cL_isTold 179 = .ok (.goto 4, 3) := by decide +kernel
theorem dL_isTold_182 : decode cL_isTold 182 = .ok (.iconst 0, 1) := by decide +kernel
theorem dL_isTold_183 : decode cL_isTold 183 = .ok (.istore 12, 2) := by decide +kernel
theorem dL_isTold_185 : decode cL_isTold 185 = .ok (.aload_n 1, 1) := by decide +kernel
theorem dL_isTold_186 : decode cL_isTold 186 = .ok (.iload 11, 2) := by decide +kernel
theorem dL_isTold_188 : decode cL_isTold 188 = .ok (.ifCond .eq 8, 3) := by decide +kernel
theorem dL_isTold_191 : decode cL_isTold 191 = .ok (.iload 9, 2) := by decide +kernel
theorem dL_isTold_193 : decode cL_isTold 193 = .ok (.goto 4, 3) := by decide +kernel
theorem dL_isTold_196 : decode cL_isTold 196 = .ok (.iconst 0, 1) := by decide +kernel
theorem dL_isTold_197 : decode cL_isTold 197 = .ok (.dup2, 1) := by decide +kernel
theorem dL_isTold_198 : decode cL_isTold 198 = .ok (.iaload, 1) := by decide +kernel
theorem dL_isTold_199 : decode cL_isTold 199 = .ok (.iload 11, 2) := by decide +kernel
theorem dL_isTold_201 : decode cL_isTold 201 = .ok (.ifCond .eq 11, 3) := by decide +kernel
theorem dL_isTold_204 : decode cL_isTold 204 = .ok (.iload 10, 2) := by decide +kernel
theorem dL_isTold_206 : decode cL_isTold 206 = .ok (.iload 12, 2) := by decide +kernel
theorem dL_isTold_208 : decode cL_isTold 208 = .ok (.isub, 1) := by decide +kernel
theorem dL_isTold_209 : decode cL_isTold 209 = .ok (.goto 4, 3) := by decide +kernel
theorem dL_isTold_212 : decode cL_isTold 212 = .ok (.iconst 0, 1) := by decide +kernel
theorem dL_isTold_213 : decode cL_isTold 213 = .ok (.iadd, 1) := by decide +kernel
theorem dL_isTold_214 : decode cL_isTold 214 = .ok (.iastore, 1) := by decide +kernel
theorem dL_isTold_215 : decode cL_isTold 215 = .ok (.aload_n 0, 1) := by decide +kernel
theorem dL_isTold_216 : decode cL_isTold 216 = .ok (.iconst 0, 1) := by decide +kernel
theorem dL_isTold_217 : decode cL_isTold 217 = .ok (.iload 9, 2) := by decide +kernel
theorem dL_isTold_219 : decode cL_isTold 219 = .ok (.iload 10, 2) := by decide +kernel
theorem dL_isTold_221 : decode cL_isTold 221 = .ok (.iconst 0, 1) := by decide +kernel
theorem dL_isTold_222 : decode cL_isTold 222 = .ok (.iconst 0, 1) := by decide +kernel
theorem dL_isTold_223 : decode cL_isTold 223 = .ok (.iconst 0, 1) := by decide +kernel
theorem dL_isTold_224 : decode cL_isTold 224 = .ok (.invokestatic 155, 3) := by decide +kernel
theorem dL_isTold_227 : decode cL_isTold 227 = .ok (.iload 11, 2) := by decide +kernel
theorem dL_isTold_229 : decode cL_isTold 229 = .ok (.ifCond .eq 8, 3) := by decide +kernel
theorem dL_isTold_232 : decode cL_isTold 232 = .ok (.iload 12, 2) := by decide +kernel
theorem dL_isTold_234 : decode cL_isTold 234 = .ok (.goto 5, 3) := by decide +kernel
theorem dL_isTold_237 : decode cL_isTold 237 = .ok (.ldc 77, 2) := by decide +kernel
theorem dL_isTold_239 : decode cL_isTold 239 = .ok (.if_icmp .ne 7, 3) := by decide +kernel
theorem dL_isTold_242 : decode cL_isTold 242 = .ok (.iconst 1, 1) := by decide +kernel
theorem dL_isTold_243 : decode cL_isTold 243 = .ok (.goto 4, 3) := by decide +kernel
theorem dL_isTold_246 : decode cL_isTold 246 = .ok (.iconst 0, 1) := by decide +kernel
theorem dL_isTold_247 : decode cL_isTold 247 = .ok (.ireturn, 1) := by decide +kernel
theorem dL_isTold_248 : decode cL_isTold 248 = .ok (.iload 6, 2) := by decide +kernel
theorem dL_isTold_250 : decode cL_isTold 250 = .ok (.iconst 2, 1) := by decide +kernel
theorem dL_isTold_251 : decode cL_isTold 251 = .ok (.if_icmp .ne 182, 3) := by decide +kernel
theorem dL_isTold_254 : decode cL_isTold 254 = .ok (.iload 7, 2) := by decide +kernel
theorem dL_isTold_256 : decode cL_isTold 256 = .ok (.bipush 9, 2) := by decide +kernel
theorem dL_isTold_258 : decode cL_isTold 258 = .ok (.irem, 1) := by decide +kernel
theorem dL_isTold_259 : decode cL_isTold 259 = .ok (.ifCond .ne 19, 3) := by decide +kernel
theorem dL_isTold_262 : decode cL_isTold 262 = .ok (.bipush 17, 2) := by decide +kernel
theorem dL_isTold_264 : decode cL_isTold 264 = .ok (.iload 7, 2) := by decide +kernel
theorem dL_isTold_266 : decode cL_isTold 266 = .ok (.bipush 9, 2) := by decide +kernel
theorem dL_isTold_268 : decode cL_isTold 268 = .ok (.idiv, 1) := by decide +kernel
theorem dL_isTold_269 : decode cL_isTold 269 = .ok (.iconst 2, 1) := by decide +kernel
theorem dL_isTold_270 : decode cL_isTold 270 = .ok (.irem, 1) := by decide +kernel
theorem dL_isTold_271 : decode cL_isTold 271 = .ok (.bipush 8, 2) := by decide +kernel
theorem dL_isTold_273 : decode cL_isTold 273 = .ok (.imul, 1) := by decide +kernel
theorem dL_isTold_274 : decode cL_isTold 274 = .ok (.iadd, 1) := by decide +kernel
theorem dL_isTold_275 : decode cL_isTold 275 = .ok (.goto 11, 3) := by decide +kernel
theorem dL_isTold_278 : decode cL_isTold 278 = .ok (.bipush 18, 2) := by decide +kernel
theorem dL_isTold_280 : decode cL_isTold 280 = .ok (.iload 7, 2) := by decide +kernel
theorem dL_isTold_282 : decode cL_isTold 282 = .ok (.bipush 7, 2) := by decide +kernel
theorem dL_isTold_284 : decode cL_isTold 284 = .ok (.irem, 1) := by decide +kernel
theorem dL_isTold_285 : decode cL_isTold 285 = .ok (.iadd, 1) := by decide +kernel
theorem dL_isTold_286 : decode cL_isTold 286 = .ok (.istore 11, 2) := by decide +kernel
theorem dL_isTold_288 : decode cL_isTold 288 = .ok (.iload 8, 2) := by decide +kernel
theorem dL_isTold_290 : decode cL_isTold 290 = .ok (.bipush 13, 2) := by decide +kernel
theorem dL_isTold_292 : decode cL_isTold 292 = .ok (.idiv, 1) := by decide +kernel
theorem dL_isTold_293 : decode cL_isTold 293 = .ok (.bipush 13, 2) := by decide +kernel
theorem dL_isTold_295 : decode cL_isTold 295 = .ok (.irem, 1) := by decide +kernel
theorem dL_isTold_296 : decode cL_isTold 296 = .ok (.bipush 12, 2) := by decide +kernel
theorem dL_isTold_298 : decode cL_isTold 298 = .ok (.if_icmp .ne 7, 3) := by decide +kernel
theorem dL_isTold_301 : decode cL_isTold 301 = .ok (.iconst 3, 1) := by decide +kernel
theorem dL_isTold_302 : decode cL_isTold 302 = .ok (.goto 10, 3) := by decide +kernel
theorem dL_isTold_305 : decode cL_isTold 305 = .ok (.iload 8, 2) := by decide +kernel
theorem dL_isTold_307 : decode cL_isTold 307 = .ok (.bipush 13, 2) := by decide +kernel
theorem dL_isTold_309 : decode cL_isTold 309 = .ok (.idiv, 1) := by decide +kernel
theorem dL_isTold_310 : decode cL_isTold 310 = .ok (.iconst 3, 1) := by decide +kernel
theorem dL_isTold_311 : decode cL_isTold 311 = .ok (.irem, 1) := by decide +kernel
theorem dL_isTold_312 : decode cL_isTold 312 = .ok (.istore 12, 2) := by decide +kernel
theorem dL_isTold_314 : decode cL_isTold 314 = .ok (.iload 7, 2) := by decide +kernel
theorem dL_isTold_316 : decode cL_isTold 316 = .ok (.bipush 9, 2) := by decide +kernel
theorem dL_isTold_318 : decode cL_isTold 318 = .ok (.idiv, 1) := by decide +kernel
theorem dL_isTold_319 : decode cL_isTold 319 = .ok (.bipush 12, 2) := by decide +kernel
theorem dL_isTold_321 : decode cL_isTold 321 = .ok (.irem, 1) := by decide +kernel
theorem dL_isTold_322 : decode cL_isTold 322 = .ok (.istore 13, 2) := by decide +kernel
theorem dL_isTold_324 : decode cL_isTold 324 = .ok (.iload 11, 2) := by decide +kernel
theorem dL_isTold_326 : decode cL_isTold 326 = .ok (.bipush 17, 2) := by decide +kernel
theorem dL_isTold_328 : decode cL_isTold 328 = .ok (.if_icmp .le 27, 3) := by decide +kernel
theorem dL_isTold_331 : decode cL_isTold 331 = .ok (.iload 11, 2) := by decide +kernel
theorem dL_isTold_333 : decode cL_isTold 333 = .ok (.bipush 25, 2) := by decide +kernel
theorem dL_isTold_335 : decode cL_isTold 335 = .ok (.if_icmp .ge 20, 3) := by decide +kernel
theorem dL_isTold_338 : decode cL_isTold 338 = .ok (.iload 12, 2) := by decide +kernel
theorem dL_isTold_340 : decode cL_isTold 340 = .ok (.iconst 3, 1) := by decide +kernel
theorem dL_isTold_341 : decode cL_isTold 341 = .ok (.if_icmp .ge 14, 3) := by decide +kernel
theorem dL_isTold_344 : decode cL_isTold 344 = .ok (.iload 13, 2) := by decide +kernel
theorem dL_isTold_346 : decode cL_isTold 346 = .ok (.bipush 11, 2) := by decide +kernel
theorem dL_isTold_348 : decode cL_isTold 348 = .ok (.if_icmp .ge 7, 3) := by decide +kernel
theorem dL_isTold_351 : decode cL_isTold 351 = .ok (.iconst 1, 1) := by decide +kernel
theorem dL_isTold_352 : decode cL_isTold 352 = .ok (.goto 4, 3) := by decide +kernel
theorem dL_isTold_355 : decode cL_isTold 355 = .ok (.iconst 0, 1) := by decide +kernel
theorem dL_isTold_356 : decode cL_isTold 356 = .ok (.istore 14, 2) := by decide +kernel
theorem dL_isTold_358 : decode cL_isTold 358 = .ok (.iload 10, 2) := by decide +kernel
theorem dL_isTold_360 : decode cL_isTold 360 = .ok (.iconst 4, 1) := by decide +kernel
theorem dL_isTold_361 : decode cL_isTold 361 = .ok (.if_icmp .ge 27, 3) := by decide +kernel
theorem dL_isTold_364 : decode cL_isTold 364 = .ok (.iload 14, 2) := by decide +kernel
theorem dL_isTold_366 : decode cL_isTold 366 = .ok (.ifCond .eq 22, 3) := by decide +kernel
theorem dL_isTold_369 : decode cL_isTold 369 = .ok (.aload_n 2, 1) := by decide +kernel
theorem dL_isTold_370 : decode cL_isTold 370 = .ok (.iload 10, 2) := by decide +kernel
theorem dL_isTold_372 : decode cL_isTold 372 = .ok (.iload 11, 2) := by decide +kernel
theorem dL_isTold_374 : decode cL_isTold 374 = .ok (.bipush 32, 2) := by decide +kernel
theorem dL_isTold_376 : decode cL_isTold 376 = .ok (.iload 12, 2) := by decide +kernel
theorem dL_isTold_378 : decode cL_isTold 378 = .ok (.imul, 1) := by decide +kernel
theorem dL_isTold_379 : decode cL_isTold 379 = .ok (.iadd, 1) := by decide +kernel
theorem dL_isTold_380 : decode cL_isTold 380 = .ok (.sipush 128, 3) := by decide +kernel
theorem dL_isTold_383 : decode cL_isTold 383 = .ok (.iload 13, 2) := by decide +kernel
theorem dL_isTold_385 : decode cL_isTold 385 = .ok (.imul, 1) := by decide +kernel
theorem dL_isTold_386 : decode cL_isTold 386 = .ok (.iadd, 1) := by decide +kernel
theorem dL_isTold_387 : decode cL_isTold 387 = .ok (.iastore, 1) := by decide +kernel
theorem dL_isTold_388 : decode cL_isTold 388 = .ok (.aload_n 0, 1) := by decide +kernel
theorem dL_isTold_389 : decode cL_isTold 389 = .ok (.iconst 1, 1) := by decide +kernel
theorem dL_isTold_390 : decode cL_isTold 390 = .ok (.iload 10, 2) := by decide +kernel
theorem dL_isTold_392 : decode cL_isTold 392 = .ok (.iload 11, 2) := by decide +kernel
theorem dL_isTold_394 : decode cL_isTold 394 = .ok (.iload 12, 2) := by decide +kernel
theorem dL_isTold_396 : decode cL_isTold 396 = .ok (.iload 13, 2) := by decide +kernel
theorem dL_isTold_398 : decode cL_isTold 398 = .ok (.iconst 0, 1) := by decide +kernel
theorem dL_isTold_399 : decode cL_isTold 399 = .ok (.invokestatic 155, 3) := by decide +kernel
theorem dL_isTold_402 : decode cL_isTold 402 = .ok (.iload 10, 2) := by decide +kernel
theorem dL_isTold_404 : decode cL_isTold 404 = .ok (.iconst 4, 1) := by decide +kernel
theorem dL_isTold_405 : decode cL_isTold 405 = .ok (.if_icmp .ne 8, 3) := by decide +kernel
theorem dL_isTold_408 : decode cL_isTold 408 = .ok (.ldc 77, 2) := by decide +kernel
theorem dL_isTold_410 : decode cL_isTold 410 = .ok (.goto 14, 3) := by decide +kernel
theorem dL_isTold_413 : decode cL_isTold 413 = .ok (.iload 14, 2) := by decide +kernel
theorem dL_isTold_415 : decode cL_isTold 415 = .ok (.ifCond .eq 7, 3) := by decide +kernel
theorem dL_isTold_418 : decode cL_isTold 418 = .ok (.iconst 0, 1) := by decide +kernel
theorem dL_isTold_419 : decode cL_isTold 419 = .ok (.goto 5, 3) := by decide +kernel
theorem dL_isTold_422 : decode cL_isTold 422 = .ok (.ldc 80, 2) := by decide +kernel
theorem dL_isTold_424 : decode cL_isTold 424 = .ok (.if_icmp .ne 7, 3) := by decide +kernel
theorem dL_isTold_427 : decode cL_isTold 427 = .ok (.iconst 1, 1) := by decide +kernel
theorem dL_isTold_428 : decode cL_isTold 428 = .ok (.goto 4, 3) := by decide +kernel
theorem dL_isTold_431 : decode cL_isTold 431 = .ok (.iconst 0, 1) := by decide +kernel
theorem dL_isTold_432 : decode cL_isTold 432 = .ok (.ireturn, 1) := by decide +kernel
theorem dL_isTold_433 : decode cL_isTold 433 = .ok (.iload 6, 2) := by decide +kernel
theorem dL_isTold_435 : decode cL_isTold 435 = .ok (.iconst 3, 1) := by decide +kernel
theorem dL_isTold_436 : decode cL_isTold 436 = .ok (.if_icmp .ne 167, 3) := by decide +kernel
theorem dL_isTold_439 : decode cL_isTold 439 = .ok (.iload 7, 2) := by decide +kernel
theorem dL_isTold_441 : decode cL_isTold 441 = .ok (.bipush 9, 2) := by decide +kernel
theorem dL_isTold_443 : decode cL_isTold 443 = .ok (.irem, 1) := by decide +kernel
theorem dL_isTold_444 : decode cL_isTold 444 = .ok (.ifCond .ne 19, 3) := by decide +kernel
theorem dL_isTold_447 : decode cL_isTold 447 = .ok (.iload 7, 2) := by decide +kernel
theorem dL_isTold_449 : decode cL_isTold 449 = .ok (.bipush 9, 2) := by decide +kernel
theorem dL_isTold_451 : decode cL_isTold 451 = .ok (.idiv, 1) := by decide +kernel
theorem dL_isTold_452 : decode cL_isTold 452 = .ok (.iconst 2, 1) := by decide +kernel
theorem dL_isTold_453 : decode cL_isTold 453 = .ok (.irem, 1) := by decide +kernel
theorem dL_isTold_454 : decode cL_isTold 454 = .ok (.sipush 1001, 3) := by decide +kernel
theorem dL_isTold_457 : decode cL_isTold 457 = .ok (.imul, 1) := by decide +kernel
theorem dL_isTold_458 : decode cL_isTold 458 = .ok (.iconst 1, 1) := by decide +kernel
theorem dL_isTold_459 : decode cL_isTold 459 = .ok (.isub, 1) := by decide +kernel
theorem dL_isTold_460 : decode cL_isTold 460 = .ok (.goto 18, 3) := by decide +kernel
theorem dL_isTold_463 : decode cL_isTold 463 = .ok (.aload 5, 2) := by decide +kernel
theorem dL_isTold_465 : decode cL_isTold 465 = .ok (.iconst 0, 1) := by decide +kernel
theorem dL_isTold_466 : decode cL_isTold 466 = .ok (.iaload, 1) := by decide +kernel
theorem dL_isTold_467 : decode cL_isTold 467 = .ok (.bipush 24, 2) := by decide +kernel
theorem dL_isTold_469 : decode cL_isTold 469 = .ok (.idiv, 1) := by decide +kernel
theorem dL_isTold_470 : decode cL_isTold 470 = .ok (.iload 7, 2) := by decide +kernel
theorem dL_isTold_472 : decode cL_isTold 472 = .ok (.iconst 3, 1) := by decide +kernel
theorem dL_isTold_473 : decode cL_isTold 473 = .ok (.irem, 1) := by decide +kernel
theorem dL_isTold_474 : decode cL_isTold 474 = .ok (.iadd, 1) := by decide +kernel
theorem dL_isTold_475 : decode cL_isTold 475 = .ok (.bipush 30, 2) := by decide +kernel
theorem dL_isTold_477 : decode cL_isTold 477 = .ok (.irem, 1) := by decide +kernel
theorem dL_isTold_478 : decode cL_isTold 478 = .ok (.istore 11, 2) := by decide +kernel
theorem dL_isTold_480 : decode cL_isTold 480 = .ok (.iload 11, 2) := by decide +kernel
theorem dL_isTold_482 : decode cL_isTold 482 = .ok (.ifCond .lt 15, 3) := by decide +kernel
theorem dL_isTold_485 : decode cL_isTold 485 = .ok (.iload 11, 2) := by decide +kernel
theorem dL_isTold_487 : decode cL_isTold 487 = .ok (.sipush 1000, 3) := by decide +kernel
theorem dL_isTold_490 : decode cL_isTold 490 = .ok (.if_icmp .ge 7, 3) := by decide +kernel
theorem dL_isTold_493 : decode cL_isTold 493 = .ok (.iconst 1, 1) := by decide +kernel
theorem dL_isTold_494 : decode cL_isTold 494 = .ok (.goto 4, 3) := by decide +kernel
theorem dL_isTold_497 : decode cL_isTold 497 = .ok (.iconst 0, 1) := by decide +kernel
theorem dL_isTold_498 : decode cL_isTold 498 = .ok (.istore 12, 2) := by decide +kernel
theorem dL_isTold_500 : decode cL_isTold 500 = .ok (.iconst 0, 1) := by decide +kernel
theorem dL_isTold_501 : decode cL_isTold 501 = .ok (.istore 13, 2) := by decide +kernel
theorem dL_isTold_503 : decode cL_isTold 503 = .ok (.iload 10, 2) := by decide +kernel
theorem dL_isTold_505 : decode cL_isTold 505 = .ok (.iconst 4, 1) := by decide +kernel
theorem dL_isTold_506 : decode cL_isTold 506 = .ok (.if_icmp .ge 53, 3) := by decide +kernel
theorem dL_isTold_509 : decode cL_isTold 509 = .ok (.iload 12, 2) := by decide +kernel
theorem dL_isTold_511 : decode cL_isTold 511 = .ok (.ifCond .eq 48, 3) := by decide +kernel
theorem dL_isTold_514 : decode cL_isTold 514 = .ok (.aload_n 2, 1) := by decide +kernel
theorem dL_isTold_515 : decode cL_isTold 515 = .ok (.iconst 4, 1) := by decide +kernel
theorem dL_isTold_516 : decode cL_isTold 516 = .ok (.iload 10, 2) := by decide +kernel
theorem dL_isTold_518 : decode cL_isTold 518 = .ok (.iadd, 1) := by decide +kernel
theorem dL_isTold_519 : decode cL_isTold 519 = .ok (.dup2, 1) := by decide +kernel
theorem dL_isTold_520 : decode cL_isTold 520 = .ok (.iaload, 1) := by decide +kernel
theorem dL_isTold_521 : decode cL_isTold 521 = .ok (.iconst 1, 1) := by decide +kernel
theorem dL_isTold_522 : decode cL_isTold 522 = .ok (.iload 11, 2) := by decide +kernel
theorem dL_isTold_524 : decode cL_isTold 524 = .ok (.ishl, 1) := by decide +kernel
theorem dL_isTold_525 : decode cL_isTold 525 = .ok (.ior, 1) := by decide +kernel
theorem dL_isTold_526 : decode cL_isTold 526 = .ok (.iastore, 1) := by decide +kernel
theorem dL_isTold_527 : decode cL_isTold 527 = .ok (.iconst 0, 1) := by decide +kernel
theorem dL_isTold_528 : decode cL_isTold 528 = .ok (.istore 14, 2) := by decide +kernel
theorem dL_isTold_530 : decode cL_isTold 530 = .ok (.iload 14, 2) := by decide +kernel
theorem dL_isTold_532 : decode cL_isTold 532 = .ok (.bipush 30, 2) := by decide +kernel
theorem dL_isTold_534 : decode cL_isTold 534 = .ok (.if_icmp .ge 25, 3) := by decide +kernel
theorem dL_isTold_537 : decode cL_isTold 537 = .ok (.iload 13, 2) := by decide +kernel
theorem dL_isTold_539 : decode cL_isTold 539 = .ok (.aload_n 2, 1) := by decide +kernel
theorem dL_isTold_540 : decode cL_isTold 540 = .ok (.iconst 4, 1) := by decide +kernel
theorem dL_isTold_541 : decode cL_isTold 541 = .ok (.iload 10, 2) := by decide +kernel
theorem dL_isTold_543 : decode cL_isTold 543 = .ok (.iadd, 1) := by decide +kernel
theorem dL_isTold_544 : decode cL_isTold 544 = .ok (.iaload, 1) := by decide +kernel
theorem dL_isTold_545 : decode cL_isTold 545 = .ok (.iload 14, 2) := by decide +kernel
theorem dL_isTold_547 : decode cL_isTold 547 = .ok (.ishr, 1) := by decide +kernel
theorem dL_isTold_548 : decode cL_isTold 548 = .ok (.iconst 1, 1) := by decide +kernel
theorem dL_isTold_549 : decode cL_isTold 549 = .ok (.iand, 1) := by decide +kernel
theorem dL_isTold_550 : decode cL_isTold 550 = .ok (.iadd, 1) := by decide +kernel
theorem dL_isTold_551 : decode cL_isTold 551 = .ok (.istore 13, 2) := by decide +kernel
theorem dL_isTold_553 : decode cL_isTold 553 = .ok (.iinc 14 1, 3) := by decide +kernel
theorem dL_isTold_556 : decode cL_isTold 556 = .ok (.goto (-26), 3) := by decide +kernel
theorem dL_isTold_559 : decode cL_isTold 559 = .ok (.aload_n 0, 1) := by decide +kernel
theorem dL_isTold_560 : decode cL_isTold 560 = .ok (.iconst 2, 1) := by decide +kernel
theorem dL_isTold_561 : decode cL_isTold 561 = .ok (.iload 10, 2) := by decide +kernel
theorem dL_isTold_563 : decode cL_isTold 563 = .ok (.iload 11, 2) := by decide +kernel
theorem dL_isTold_565 : decode cL_isTold 565 = .ok (.iconst 0, 1) := by decide +kernel
theorem dL_isTold_566 : decode cL_isTold 566 = .ok (.iconst 0, 1) := by decide +kernel
theorem dL_isTold_567 : decode cL_isTold 567 = .ok (.iconst 0, 1) := by decide +kernel
theorem dL_isTold_568 : decode cL_isTold 568 = .ok (.invokestatic 155, 3) := by decide +kernel
theorem dL_isTold_571 : decode cL_isTold 571 = .ok (.iload 10, 2) := by decide +kernel
theorem dL_isTold_573 : decode cL_isTold 573 = .ok (.iconst 4, 1) := by decide +kernel
theorem dL_isTold_574 : decode cL_isTold 574 = .ok (.if_icmp .ne 8, 3) := by decide +kernel
theorem dL_isTold_577 : decode cL_isTold 577 = .ok (.ldc 77, 2) := by decide +kernel
theorem dL_isTold_579 : decode cL_isTold 579 = .ok (.goto 15, 3) := by decide +kernel
theorem dL_isTold_582 : decode cL_isTold 582 = .ok (.iload 12, 2) := by decide +kernel
theorem dL_isTold_584 : decode cL_isTold 584 = .ok (.ifCond .eq 8, 3) := by decide +kernel
theorem dL_isTold_587 : decode cL_isTold 587 = .ok (.iload 13, 2) := by decide +kernel
theorem dL_isTold_589 : decode cL_isTold 589 = .ok (.goto 5, 3) := by decide +kernel
theorem dL_isTold_592 : decode cL_isTold 592 = .ok (.ldc 80, 2) := by decide +kernel
theorem dL_isTold_594 : decode cL_isTold 594 = .ok (.if_icmp .ne 7, 3) := by decide +kernel
theorem dL_isTold_597 : decode cL_isTold 597 = .ok (.iconst 1, 1) := by decide +kernel
theorem dL_isTold_598 : decode cL_isTold 598 = .ok (.goto 4, 3) := by decide +kernel
theorem dL_isTold_601 : decode cL_isTold 601 = .ok (.iconst 0, 1) := by decide +kernel
theorem dL_isTold_602 : decode cL_isTold 602 = .ok (.ireturn, 1) := by decide +kernel
theorem dL_isTold_603 : decode cL_isTold 603 = .ok (.iload 6, 2) := by decide +kernel
theorem dL_isTold_605 : decode cL_isTold 605 = .ok (.iconst 4, 1) := by decide +kernel
theorem dL_isTold_606 : decode cL_isTold 606 = .ok (.if_icmp .ne 65, 3) := by decide +kernel
theorem dL_isTold_609 : decode cL_isTold 609 = .ok (.iload 7, 2) := by decide +kernel
theorem dL_isTold_611 : decode cL_isTold 611 = .ok (.iconst 4, 1) := by decide +kernel
theorem dL_isTold_612 : decode cL_isTold 612 = .ok (.irem, 1) := by decide +kernel
theorem dL_isTold_613 : decode cL_isTold 613 = .ok (.istore 11, 2) := by decide +kernel
theorem dL_isTold_615 : decode cL_isTold 615 = .ok (.aload 5, 2) := by decide +kernel
theorem dL_isTold_617 : decode cL_isTold 617 = .ok (.iconst 1, 1) := by decide +kernel
theorem dL_isTold_618 : decode cL_isTold 618 = .ok (.iaload, 1) := by decide +kernel
theorem dL_isTold_619 : decode cL_isTold 619 = .ok (.istore 12, 2) := by decide +kernel
theorem dL_isTold_621 : decode cL_isTold 621 = .ok (.aload 5, 2) := by decide +kernel
theorem dL_isTold_623 : decode cL_isTold 623 = .ok (.iconst 1, 1) := by decide +kernel
theorem dL_isTold_624 : decode cL_isTold 624 = .ok (.iload 11, 2) := by decide +kernel
theorem dL_isTold_626 : decode cL_isTold 626 = .ok (.iconst 3, 1) := by decide +kernel
theorem dL_isTold_627 : decode cL_isTold 627 = .ok (.if_icmp .ge 8, 3) := by decide +kernel
theorem dL_isTold_630 : decode cL_isTold 630 = .ok (.iload 11, 2) := by decide +kernel
theorem dL_isTold_632 : decode cL_isTold 632 = .ok (.goto 5, 3) := by decide +kernel
theorem dL_isTold_635 : decode cL_isTold 635 = .ok (.iload 12, 2) := by decide +kernel
theorem dL_isTold_637 : decode cL_isTold 637 = .ok (.iastore, 1) := by decide +kernel
theorem dL_isTold_638 : decode cL_isTold 638 = .ok (.aload_n 0, 1) := by decide +kernel
theorem dL_isTold_639 : decode cL_isTold 639 = .ok (.iconst 3, 1) := by decide +kernel
theorem dL_isTold_640 : decode cL_isTold 640 = .ok (.iload 11, 2) := by decide +kernel
theorem dL_isTold_642 : decode cL_isTold 642 = .ok (.iconst 0, 1) := by decide +kernel
theorem dL_isTold_643 : decode cL_isTold 643 = .ok (.iconst 0, 1) := by decide +kernel
theorem dL_isTold_644 : decode cL_isTold 644 = .ok (.iconst 0, 1) := by decide +kernel
theorem dL_isTold_645 : decode cL_isTold 645 = .ok (.iconst 0, 1) := by decide +kernel
theorem dL_isTold_646 : decode cL_isTold 646 = .ok (.invokestatic 155, 3) := by decide +kernel
theorem dL_isTold_649 : decode cL_isTold 649 = .ok (.iload 11, 2) := by decide +kernel
theorem dL_isTold_651 : decode cL_isTold 651 = .ok (.iconst 3, 1) := by decide +kernel
theorem dL_isTold_652 : decode cL_isTold 652 = .ok (.if_icmp .ge 8, 3) := by decide +kernel
theorem dL_isTold_655 : decode cL_isTold 655 = .ok (.iload 12, 2) := by decide +kernel
theorem dL_isTold_657 : decode cL_isTold 657 = .ok (.goto 5, 3) := by decide +kernel
theorem dL_isTold_660 : decode cL_isTold 660 = .ok (.ldc 80, 2) := by decide +kernel
theorem dL_isTold_662 : decode cL_isTold 662 = .ok (.if_icmp .ne 7, 3) := by decide +kernel
theorem dL_isTold_665 : decode cL_isTold 665 = .ok (.iconst 1, 1) := by decide +kernel
theorem dL_isTold_666 : decode cL_isTold 666 = .ok (.goto 4, 3) := by decide +kernel
theorem dL_isTold_669 : decode cL_isTold 669 = .ok (.iconst 0, 1) := by decide +kernel
theorem dL_isTold_670 : decode cL_isTold 670 = .ok (.ireturn, 1) := by decide +kernel
theorem dL_isTold_671 : decode cL_isTold 671 = .ok (.iload 6, 2) := by decide +kernel
theorem dL_isTold_673 : decode cL_isTold 673 = .ok (.iconst 5, 1) := by decide +kernel
theorem dL_isTold_674 : decode cL_isTold 674 = .ok (.if_icmp .ne 183, 3) := by decide +kernel
theorem dL_isTold_677 : decode cL_isTold 677 = .ok (.iload 7, 2) := by decide +kernel
theorem dL_isTold_679 : decode cL_isTold 679 = .ok (.bipush 11, 2) := by decide +kernel
theorem dL_isTold_681 : decode cL_isTold 681 = .ok (.irem, 1) := by decide +kernel
theorem dL_isTold_682 : decode cL_isTold 682 = .ok (.ifCond .ne 14, 3) := by decide +kernel
theorem dL_isTold_685 : decode cL_isTold 685 = .ok (.iload 8, 2) := by decide +kernel
theorem dL_isTold_687 : decode cL_isTold 687 = .ok (.iconst 2, 1) := by decide +kernel
theorem dL_isTold_688 : decode cL_isTold 688 = .ok (.irem, 1) := by decide +kernel
theorem dL_isTold_689 : decode cL_isTold 689 = .ok (.sipush 501, 3) := by decide +kernel
theorem dL_isTold_692 : decode cL_isTold 692 = .ok (.imul, 1) := by decide +kernel
theorem dL_isTold_693 : decode cL_isTold 693 = .ok (.goto 28, 3) := by decide +kernel
theorem dL_isTold_696 : decode cL_isTold 696 = .ok (.iload 7, 2) := by decide +kernel
theorem dL_isTold_698 : decode cL_isTold 698 = .ok (.iconst 4, 1) := by decide +kernel
theorem dL_isTold_699 : decode cL_isTold 699 = .ok (.irem, 1) := by decide +kernel
theorem dL_isTold_700 : decode cL_isTold 700 = .ok (.ifCond .ne 14, 3) := by decide +kernel
theorem dL_isTold_703 : decode cL_isTold 703 = .ok (.iconst 1, 1) := by decide +kernel
theorem dL_isTold_704 : decode cL_isTold 704 = .ok (.iload 8, 2) := by decide +kernel
theorem dL_isTold_706 : decode cL_isTold 706 = .ok (.sipush 300, 3) := by decide +kernel
theorem dL_isTold_709 : decode cL_isTold 709 = .ok (.irem, 1) := by decide +kernel
theorem dL_isTold_710 : decode cL_isTold 710 = .ok (.iadd, 1) := by decide +kernel
theorem dL_isTold_711 : decode cL_isTold 711 = .ok (.goto 10, 3) := by decide +kernel
theorem dL_isTold_714 : decode cL_isTold 714 = .ok (.iconst 1, 1) := by decide +kernel
theorem dL_isTold_715 : decode cL_isTold 715 = .ok (.iload 8, 2) := by decide +kernel
theorem dL_isTold_717 : decode cL_isTold 717 = .ok (.bipush 14, 2) := by decide +kernel
theorem dL_isTold_719 : decode cL_isTold 719 = .ok (.irem, 1) := by decide +kernel
theorem dL_isTold_720 : decode cL_isTold 720 = .ok (.iadd, 1) := by decide +kernel
theorem dL_isTold_721 : decode cL_isTold 721 = .ok (.istore 11, 2) := by decide +kernel
theorem dL_isTold_723 : decode cL_isTold 723 = .ok (.iload 11, 2) := by decide +kernel
theorem dL_isTold_725 : decode cL_isTold 725 = .ok (.ifCond .le 15, 3) := by decide +kernel
theorem dL_isTold_728 : decode cL_isTold 728 = .ok (.iload 11, 2) := by decide +kernel
theorem dL_isTold_730 : decode cL_isTold 730 = .ok (.sipush 501, 3) := by decide +kernel
theorem dL_isTold_733 : decode cL_isTold 733 = .ok (.if_icmp .ge 7, 3) := by decide +kernel
theorem dL_isTold_736 : decode cL_isTold 736 = .ok (.iconst 1, 1) := by decide +kernel
theorem dL_isTold_737 : decode cL_isTold 737 = .ok (.goto 4, 3) := by decide +kernel
theorem dL_isTold_740 : decode cL_isTold 740 = .ok (.iconst 0, 1) := by decide +kernel
theorem dL_isTold_741 : decode cL_isTold 741 = .ok (.istore 12, 2) := by decide +kernel
theorem dL_isTold_743 : decode cL_isTold 743 = .ok (.iconst 0, 1) := by decide +kernel
theorem dL_isTold_744 : decode cL_isTold 744 = .ok (.istore 13, 2) := by decide +kernel
theorem dL_isTold_746 : decode cL_isTold 746 = .ok (.iload 13, 2) := by decide +kernel
theorem dL_isTold_748 : decode cL_isTold 748 = .ok (.iload 11, 2) := by decide +kernel
theorem dL_isTold_750 : decode cL_isTold 750 = .ok (.if_icmp .ge 73, 3) := by decide +kernel
theorem dL_isTold_753 : decode cL_isTold 753 = .ok (.iload 12, 2) := by decide +kernel
theorem dL_isTold_755 : decode cL_isTold 755 = .ok (.ifCond .eq 68, 3) := by decide +kernel
theorem dL_isTold_758 : decode cL_isTold 758 = .ok (.iconst 0, 1) := by decide +kernel
theorem dL_isTold_759 : decode cL_isTold 759 = .ok (.istore 14, 2) := by decide +kernel
theorem dL_isTold_761 : decode cL_isTold 761 = .ok (.iload 14, 2) := by decide +kernel
theorem dL_isTold_763 : decode cL_isTold 763 = .ok (.aload 5, 2) := by decide +kernel
theorem dL_isTold_765 : decode cL_isTold 765 = .ok (.iconst 3, 1) := by decide +kernel
theorem dL_isTold_766 : decode cL_isTold 766 = .ok (.iaload, 1) := by decide +kernel
theorem dL_isTold_767 : decode cL_isTold 767 = .ok (.if_icmp .ge 42, 3) := by decide +kernel
theorem dL_isTold_770 : decode cL_isTold 770 = .ok (.aload 4, 2) := by decide +kernel
theorem dL_isTold_772 : decode cL_isTold 772 = .ok (.bipush 6, 2) := by decide +kernel
theorem dL_isTold_774 : decode cL_isTold 774 = .ok (.iload 14, 2) := by decide +kernel
theorem dL_isTold_776 : decode cL_isTold 776 = .ok (.imul, 1) := by decide +kernel
theorem dL_isTold_777 : decode cL_isTold 777 = .ok (.iconst 4, 1) := by decide +kernel
theorem dL_isTold_778 : decode cL_isTold 778 = .ok (.iadd, 1) := by decide +kernel
theorem dL_isTold_779 : decode cL_isTold 779 = .ok (.dup2, 1) := by decide +kernel
theorem dL_isTold_780 : decode cL_isTold 780 = .ok (.iaload, 1) := by decide +kernel
theorem dL_isTold_781 : decode cL_isTold 781 = .ok (.aload_n 1, 1) := by decide +kernel
theorem dL_isTold_782 : decode cL_isTold 782 = .ok (.aload_n 2, 1) := by decide +kernel
theorem dL_isTold_783 : decode cL_isTold 783 = .ok (.aload_n 3, 1) := by decide +kernel
theorem dL_isTold_784 : decode cL_isTold 784 = .ok (.aload 4, 2) := by decide +kernel
theorem dL_isTold_786 : decode cL_isTold 786 = .ok (.aload 5, 2) := by decide +kernel
theorem dL_isTold_788 : decode cL_isTold 788 = .ok (.iload 14, 2) := by decide +kernel
theorem dL_isTold_790 : decode cL_isTold 790 = .ok (.invokestatic 101, 3) := by decide +kernel
theorem dL_isTold_793 : decode cL_isTold 793 = .ok (.ifCond .eq 7, 3) := by decide +kernel
theorem dL_isTold_796 : decode cL_isTold 796 = .ok (.iconst 1, 1) := by decide +kernel
theorem dL_isTold_797 : decode cL_isTold 797 = .ok (.goto 4, 3) := by decide +kernel
theorem dL_isTold_800 : decode cL_isTold 800 = .ok (.iconst 0, 1) := by decide +kernel
theorem dL_isTold_801 : decode cL_isTold 801 = .ok (.iadd, 1) := by decide +kernel
theorem dL_isTold_802 : decode cL_isTold 802 = .ok (.iastore, 1) := by decide +kernel
theorem dL_isTold_803 : decode cL_isTold 803 = .ok (.iinc 14 1, 3) := by decide +kernel
theorem dL_isTold_806 : decode cL_isTold 806 = .ok (.goto (-45), 3) := by decide +kernel
theorem dL_isTold_809 : decode cL_isTold 809 = .ok (.aload 5, 2) := by decide +kernel
theorem dL_isTold_811 : decode cL_isTold 811 = .ok (.iconst 0, 1) := by decide +kernel
theorem dL_isTold_812 : decode cL_isTold 812 = .ok (.dup2, 1) := by decide +kernel
theorem dL_isTold_813 : decode cL_isTold 813 = .ok (.iaload, 1) := by decide +kernel
theorem dL_isTold_814 : decode cL_isTold 814 = .ok (.iconst 1, 1) := by decide +kernel
theorem dL_isTold_815 : decode cL_isTold 815 = .ok (.iadd, 1) := by decide +kernel
theorem dL_isTold_816 : decode cL_isTold 816 = .ok (.iastore, 1) := by decide +kernel
theorem dL_isTold_817 : decode cL_isTold 817 = .ok (.iinc 13 1, 3) := by decide +kernel
theorem dL_isTold_820 : decode cL_isTold 820 = .ok (.goto (-74), 3) := by decide +kernel
theorem dL_isTold_823 : decode cL_isTold 823 = .ok (.aload_n 0, 1) := by decide +kernel
theorem dL_isTold_824 : decode cL_isTold 824 = .ok (.iconst 4, 1) := by decide +kernel
theorem dL_isTold_825 : decode cL_isTold 825 = .ok (.iload 11, 2) := by decide +kernel
theorem dL_isTold_827 : decode cL_isTold 827 = .ok (.iconst 0, 1) := by decide +kernel
theorem dL_isTold_828 : decode cL_isTold 828 = .ok (.iconst 0, 1) := by decide +kernel
theorem dL_isTold_829 : decode cL_isTold 829 = .ok (.iconst 0, 1) := by decide +kernel
theorem dL_isTold_830 : decode cL_isTold 830 = .ok (.iconst 0, 1) := by decide +kernel
theorem dL_isTold_831 : decode cL_isTold 831 = .ok (.invokestatic 155, 3) := by decide +kernel
theorem dL_isTold_834 : decode cL_isTold 834 = .ok (.iload 12, 2) := by decide +kernel
theorem dL_isTold_836 : decode cL_isTold 836 = .ok (.ifCond .eq 10, 3) := by decide +kernel
theorem dL_isTold_839 : decode cL_isTold 839 = .ok (.aload 5, 2) := by decide +kernel
theorem dL_isTold_841 : decode cL_isTold 841 = .ok (.iconst 0, 1) := by decide +kernel
theorem dL_isTold_842 : decode cL_isTold 842 = .ok (.iaload, 1) := by decide +kernel
theorem dL_isTold_843 : decode cL_isTold 843 = .ok (.goto 5, 3) := by decide +kernel
theorem dL_isTold_846 : decode cL_isTold 846 = .ok (.ldc 80, 2) := by decide +kernel
theorem dL_isTold_848 : decode cL_isTold 848 = .ok (.if_icmp .ne 7, 3) := by decide +kernel
theorem dL_isTold_851 : decode cL_isTold 851 = .ok (.iconst 1, 1) := by decide +kernel
theorem dL_isTold_852 : decode cL_isTold 852 = .ok (.goto 4, 3) := by decide +kernel
theorem dL_isTold_855 : decode cL_isTold 855 = .ok (.iconst 0, 1) := by decide +kernel
theorem dL_isTold_856 : decode cL_isTold 856 = .ok (.ireturn, 1) := by decide +kernel
theorem dL_isTold_857 : decode cL_isTold 857 = .ok (.aload 5, 2) := by decide +kernel
theorem dL_isTold_859 : decode cL_isTold 859 = .ok (.iconst 2, 1) := by decide +kernel
theorem dL_isTold_860 : decode cL_isTold 860 = .ok (.iaload, 1) := by decide +kernel
theorem dL_isTold_861 : decode cL_isTold 861 = .ok (.iconst 2, 1) := by decide +kernel
theorem dL_isTold_862 : decode cL_isTold 862 = .ok (.if_icmp .ne 5, 3) := by decide +kernel
theorem dL_isTold_865 : decode cL_isTold 865 = .ok (.iconst 1, 1) := by decide +kernel
theorem dL_isTold_866 : decode cL_isTold 866 = .ok (.ireturn, 1) := by decide +kernel
theorem dL_isTold_867 : decode cL_isTold 867 = .ok (.iload 7, 2) := by decide +kernel
theorem dL_isTold_869 : decode cL_isTold 869 = .ok (.bipush 9, 2) := by decide +kernel
theorem dL_isTold_871 : decode cL_isTold 871 = .ok (.irem, 1) := by decide +kernel
theorem dL_isTold_872 : decode cL_isTold 872 = .ok (.ifCond .ne 17, 3) := by decide +kernel
theorem dL_isTold_875 : decode cL_isTold 875 = .ok (.iload 7, 2) := by decide +kernel
theorem dL_isTold_877 : decode cL_isTold 877 = .ok (.bipush 9, 2) := by decide +kernel
theorem dL_isTold_879 : decode cL_isTold 879 = .ok (.idiv, 1) := by decide +kernel
theorem dL_isTold_880 : decode cL_isTold 880 = .ok (.iconst 2, 1) := by decide +kernel
theorem dL_isTold_881 : decode cL_isTold 881 = .ok (.irem, 1) := by decide +kernel
theorem dL_isTold_882 : decode cL_isTold 882 = .ok (.sipush 501, 3) := by decide +kernel
theorem dL_isTold_885 : decode cL_isTold 885 = .ok (.imul, 1) := by decide +kernel
theorem dL_isTold_886 : decode cL_isTold 886 = .ok (.goto 10, 3) := by decide +kernel
theorem dL_isTold_889 : decode cL_isTold 889 = .ok (.iconst 1, 1) := by decide +kernel
theorem dL_isTold_890 : decode cL_isTold 890 = .ok (.iload 7, 2) := by decide +kernel
theorem dL_isTold_892 : decode cL_isTold 892 = .ok (.bipush 30, 2) := by decide +kernel
theorem dL_isTold_894 : decode cL_isTold 894 = .ok (.irem, 1) := by decide +kernel
theorem dL_isTold_895 : decode cL_isTold 895 = .ok (.iadd, 1) := by decide +kernel
theorem dL_isTold_896 : decode cL_isTold 896 = .ok (.istore 11, 2) := by decide +kernel
theorem dL_isTold_898 : decode cL_isTold 898 = .ok (.iload 8, 2) := by decide +kernel
theorem dL_isTold_900 : decode cL_isTold 900 = .ok (.bipush 13, 2) := by decide +kernel
theorem dL_isTold_902 : decode cL_isTold 902 = .ok (.irem, 1) := by decide +kernel
theorem dL_isTold_903 : decode cL_isTold 903 = .ok (.bipush 12, 2) := by decide +kernel
theorem dL_isTold_905 : decode cL_isTold 905 = .ok (.if_icmp .ne 9, 3) := by decide +kernel
theorem dL_isTold_908 : decode cL_isTold 908 = .ok (.sipush 10001, 3) := by decide +kernel
theorem dL_isTold_911 : decode cL_isTold 911 = .ok (.goto 8, 3) := by decide +kernel
theorem dL_isTold_914 : decode cL_isTold 914 = .ok (.iload 8, 2) := by decide +kernel
theorem dL_isTold_916 : decode cL_isTold 916 = .ok (.bipush 80, 2) := by decide +kernel
theorem dL_isTold_918 : decode cL_isTold 918 = .ok (.irem, 1) := by decide +kernel
theorem dL_isTold_919 : decode cL_isTold 919 = .ok (.istore 12, 2) := by decide +kernel
theorem dL_isTold_921 : decode cL_isTold 921 = .ok (.iload 11, 2) := by decide +kernel
theorem dL_isTold_923 : decode cL_isTold 923 = .ok (.ifCond .le 23, 3) := by decide +kernel
theorem dL_isTold_926 : decode cL_isTold 926 = .ok (.iload 11, 2) := by decide +kernel
theorem dL_isTold_928 : decode cL_isTold 928 = .ok (.sipush 501, 3) := by decide +kernel
theorem dL_isTold_931 : decode cL_isTold 931 = .ok (.if_icmp .ge 15, 3) := by decide +kernel
theorem dL_isTold_934 : decode cL_isTold 934 = .ok (.iload 12, 2) := by decide +kernel
theorem dL_isTold_936 : decode cL_isTold 936 = .ok (.sipush 10001, 3) := by decide +kernel
theorem dL_isTold_939 : decode cL_isTold 939 = .ok (.if_icmp .ge 7, 3) := by decide +kernel
theorem dL_isTold_942 : decode cL_isTold 942 = .ok (.iconst 1, 1) := by decide +kernel
theorem dL_isTold_943 : decode cL_isTold 943 = .ok (.goto 4, 3) := by decide +kernel
theorem dL_isTold_946 : decode cL_isTold 946 = .ok (.iconst 0, 1) := by decide +kernel
theorem dL_isTold_947 : decode cL_isTold 947 = .ok (.istore 13, 2) := by decide +kernel
theorem dL_isTold_949 : decode cL_isTold 949 = .ok (.iload 13, 2) := by decide +kernel
theorem dL_isTold_951 : decode cL_isTold 951 = .ok (.ifCond .eq 33, 3) := by decide +kernel
theorem dL_isTold_954 : decode cL_isTold 954 = .ok (.aload_n 3, 1) := by decide +kernel
theorem dL_isTold_955 : decode cL_isTold 955 = .ok (.iconst 4, 1) := by decide +kernel
theorem dL_isTold_956 : decode cL_isTold 956 = .ok (.aload 5, 2) := by decide +kernel
theorem dL_isTold_958 : decode cL_isTold 958 = .ok (.iconst 2, 1) := by decide +kernel
theorem dL_isTold_959 : decode cL_isTold 959 = .ok (.iaload, 1) := by decide +kernel
theorem dL_isTold_960 : decode cL_isTold 960 = .ok (.imul, 1) := by decide +kernel
theorem dL_isTold_961 : decode cL_isTold 961 = .ok (.iload 11, 2) := by decide +kernel
theorem dL_isTold_963 : decode cL_isTold 963 = .ok (.iastore, 1) := by decide +kernel
theorem dL_isTold_964 : decode cL_isTold 964 = .ok (.aload_n 3, 1) := by decide +kernel
theorem dL_isTold_965 : decode cL_isTold 965 = .ok (.iconst 4, 1) := by decide +kernel
theorem dL_isTold_966 : decode cL_isTold 966 = .ok (.aload 5, 2) := by decide +kernel
theorem dL_isTold_968 : decode cL_isTold 968 = .ok (.iconst 2, 1) := by decide +kernel
theorem dL_isTold_969 : decode cL_isTold 969 = .ok (.iaload, 1) := by decide +kernel
theorem dL_isTold_970 : decode cL_isTold 970 = .ok (.imul, 1) := by decide +kernel
theorem dL_isTold_971 : decode cL_isTold 971 = .ok (.iconst 1, 1) := by decide +kernel
theorem dL_isTold_972 : decode cL_isTold 972 = .ok (.iadd, 1) := by decide +kernel
theorem dL_isTold_973 : decode cL_isTold 973 = .ok (.iload 12, 2) := by decide +kernel
theorem dL_isTold_975 : decode cL_isTold 975 = .ok (.iastore, 1) := by decide +kernel
theorem dL_isTold_976 : decode cL_isTold 976 = .ok (.aload 5, 2) := by decide +kernel
theorem dL_isTold_978 : decode cL_isTold 978 = .ok (.iconst 2, 1) := by decide +kernel
theorem dL_isTold_979 : decode cL_isTold 979 = .ok (.dup2, 1) := by decide +kernel
theorem dL_isTold_980 : decode cL_isTold 980 = .ok (.iaload, 1) := by decide +kernel
theorem dL_isTold_981 : decode cL_isTold 981 = .ok (.iconst 1, 1) := by decide +kernel
theorem dL_isTold_982 : decode cL_isTold 982 = .ok (.iadd, 1) := by decide +kernel
theorem dL_isTold_983 : decode cL_isTold 983 = .ok (.iastore, 1) := by decide +kernel
theorem dL_isTold_984 : decode cL_isTold 984 = .ok (.aload_n 0, 1) := by decide +kernel
theorem dL_isTold_985 : decode cL_isTold 985 = .ok (.iconst 5, 1) := by decide +kernel
theorem dL_isTold_986 : decode cL_isTold 986 = .ok (.iload 11, 2) := by decide +kernel
theorem dL_isTold_988 : decode cL_isTold 988 = .ok (.iload 12, 2) := by decide +kernel
theorem dL_isTold_990 : decode cL_isTold 990 = .ok (.iconst 0, 1) := by decide +kernel
theorem dL_isTold_991 : decode cL_isTold 991 = .ok (.iconst 0, 1) := by decide +kernel
theorem dL_isTold_992 : decode cL_isTold 992 = .ok (.iconst 0, 1) := by decide +kernel
theorem dL_isTold_993 : decode cL_isTold 993 = .ok (.invokestatic 155, 3) := by decide +kernel
theorem dL_isTold_996 : decode cL_isTold 996 = .ok (.iload 13, 2) := by decide +kernel
theorem dL_isTold_998 : decode cL_isTold 998 = .ok (.ifCond .eq 12, 3) := by decide +kernel
theorem dL_isTold_1001 : decode cL_isTold 1001 = .ok (.aload 5, 2) := by decide +kernel
theorem dL_isTold_1003 : decode cL_isTold 1003 = .ok (.iconst 2, 1) := by decide +kernel
theorem dL_isTold_1004 : decode cL_isTold 1004 = .ok (.iaload, 1) := by decide +kernel
theorem dL_isTold_1005 : decode cL_isTold 1005 = .ok (.iconst 1, 1) := by decide +kernel
theorem dL_isTold_1006 : decode cL_isTold 1006 = .ok (.isub, 1) := by decide +kernel
theorem dL_isTold_1007 : decode cL_isTold 1007 = .ok (.goto 5, 3) := by decide +kernel
theorem dL_isTold_1010 : decode cL_isTold 1010 = .ok (.ldc 80, 2) := by decide +kernel
theorem dL_isTold_1012 : decode cL_isTold 1012 = .ok (.if_icmp .ne 7, 3) := by decide +kernel
theorem dL_isTold_1015 : decode cL_isTold 1015 = .ok (.iconst 1, 1) := by decide +kernel
theorem dL_isTold_1016 : decode cL_isTold 1016 = .ok (.goto 4, 3) := by decide +kernel
theorem dL_isTold_1019 : decode cL_isTold 1019 = .ok (.iconst 0, 1) := by decide +kernel
theorem dL_isTold_1020 : decode cL_isTold 1020 = .ok (.ireturn, 1) := by decide +kernel
theorem dL_isLit_0 : decode cL_isLit 0 = .ok (.iload 7, 2) := by decide +kernel
theorem dL_isLit_2 : decode cL_isLit 2 = .ok (.ifCond .ne 312, 3) := by decide +kernel
theorem dL_isLit_5 : decode cL_isLit 5 = .ok (.aload 6, 2) := by decide +kernel
theorem dL_isLit_7 : decode cL_isLit 7 = .ok (.iconst 3, 1) := by decide +kernel
theorem dL_isLit_8 : decode cL_isLit 8 = .ok (.iaload, 1) := by decide +kernel
theorem dL_isLit_9 : decode cL_isLit 9 = .ok (.bipush 10, 2) := by decide +kernel
theorem dL_isLit_11 : decode cL_isLit 11 = .ok (.if_icmp .ne 5, 3) := by decide +kernel
theorem dL_isLit_14 : decode cL_isLit 14 = .ok (.iconst 1, 1) := by decide +kernel
theorem dL_isLit_15 : decode cL_isLit 15 = .ok (.ireturn, 1) := by decide +kernel
theorem dL_isLit_16 : decode cL_isLit 16 = .ok (.iload 8, 2) := by decide +kernel
theorem dL_isLit_18 : decode cL_isLit 18 = .ok (.aload 6, 2) := by decide +kernel
theorem dL_isLit_20 : decode cL_isLit 20 = .ok (.iconst 2, 1) := by decide +kernel
theorem dL_isLit_21 : decode cL_isLit 21 = .ok (.iaload, 1) := by decide +kernel
theorem dL_isLit_22 : decode cL_isLit 22 = .ok (.iconst 1, 1) := by decide +kernel
theorem dL_isLit_23 : decode cL_isLit 23 = .ok (.iadd, 1) := by decide +kernel
theorem dL_isLit_24 : decode cL_isLit 24 = .ok (.irem, 1) := by decide +kernel
theorem dL_isLit_25 : decode cL_isLit 25 = .ok (.istore 10, 2) := by decide +kernel
theorem dL_isLit_27 : decode cL_isLit 27 = .ok (.iload 9, 2) := by decide +kernel
theorem dL_isLit_29 : decode cL_isLit 29 = .ok (.bipush 29, 2) := by decide +kernel
theorem dL_isLit_31 : decode cL_isLit 31 = .ok (.irem, 1) := by decide +kernel
theorem dL_isLit_32 : decode cL_isLit 32 = .ok (.bipush 28, 2) := by decide +kernel
theorem dL_isLit_34 : decode cL_isLit 34 = .ok (.if_icmp .ne 8, 3) := by decide +kernel
theorem dL_isLit_37 : decode cL_isLit 37 = .ok (.bipush 64, 2) := by decide +kernel
theorem dL_isLit_39 : decode cL_isLit 39 = .ok (.goto 11, 3) := by decide +kernel
theorem dL_isLit_42 : decode cL_isLit 42 = .ok (.bipush 16, 2) := by decide +kernel
theorem dL_isLit_44 : decode cL_isLit 44 = .ok (.iload 9, 2) := by decide +kernel
theorem dL_isLit_46 : decode cL_isLit 46 = .ok (.bipush 24, 2) := by decide +kernel
theorem dL_isLit_48 : decode cL_isLit 48 = .ok (.irem, 1) := by decide +kernel
theorem dL_isLit_49 : decode cL_isLit 49 = .ok (.iadd, 1) := by decide +kernel
theorem dL_isLit_50 : decode cL_isLit 50 = .ok (.istore 11, 2) := by decide +kernel
theorem dL_isLit_52 : decode cL_isLit 52 = .ok (.iload 8, 2) := by decide +kernel
theorem dL_isLit_54 : decode cL_isLit 54 = .ok (.iconst 3, 1) := by decide +kernel
theorem dL_isLit_55 : decode cL_isLit 55 = .ok (.idiv, 1) := by decide +kernel
theorem dL_isLit_56 : decode cL_isLit 56 = .ok (.bipush 13, 2) := by decide +kernel
theorem dL_isLit_58 : decode cL_isLit 58 = .ok (.irem, 1) := by decide +kernel
theorem dL_isLit_59 : decode cL_isLit 59 = .ok (.bipush 12, 2) := by decide +kernel
theorem dL_isLit_61 : decode cL_isLit 61 = .ok (.if_icmp .ne 9, 3) := by decide +kernel
theorem dL_isLit_64 : decode cL_isLit 64 = .ok (.sipush 10001, 3) := by decide +kernel
theorem dL_isLit_67 : decode cL_isLit 67 = .ok (.goto 13, 3) := by decide +kernel
theorem dL_isLit_70 : decode cL_isLit 70 = .ok (.iconst 1, 1) := by decide +kernel
theorem dL_isLit_71 : decode cL_isLit 71 = .ok (.iload 8, 2) := by decide +kernel
theorem dL_isLit_73 : decode cL_isLit 73 = .ok (.iconst 3, 1) := by decide +kernel
theorem dL_isLit_74 : decode cL_isLit 74 = .ok (.idiv, 1) := by decide +kernel
theorem dL_isLit_75 : decode cL_isLit 75 = .ok (.sipush 2000, 3) := by decide +kernel
theorem dL_isLit_78 : decode cL_isLit 78 = .ok (.irem, 1) := by decide +kernel
theorem dL_isLit_79 : decode cL_isLit 79 = .ok (.iadd, 1) := by decide +kernel
theorem dL_isLit_80 : decode cL_isLit 80 = .ok (.istore 12, 2) := by decide +kernel
theorem dL_isLit_82 : decode cL_isLit 82 = .ok (.iload 9, 2) := by decide +kernel
theorem dL_isLit_84 : decode cL_isLit 84 = .ok (.bipush 29, 2) := by decide +kernel
theorem dL_isLit_86 : decode cL_isLit 86 = .ok (.idiv, 1) := by decide +kernel
theorem dL_isLit_87 : decode cL_isLit 87 = .ok (.bipush 13, 2) := by decide +kernel
theorem dL_isLit_89 : decode cL_isLit 89 = .ok (.irem, 1) := by decide +kernel
theorem dL_isLit_90 : decode cL_isLit 90 = .ok (.bipush 12, 2) := by decide +kernel
theorem dL_isLit_92 : decode cL_isLit 92 = .ok (.if_icmp .ne 7, 3) := by decide +kernel
theorem dL_isLit_95 : decode cL_isLit 95 = .ok (.iconst 3, 1) := by decide +kernel
theorem dL_isLit_96 : decode cL_isLit 96 = .ok (.goto 10, 3) := by decide +kernel
theorem dL_isLit_99 : decode cL_isLit 99 = .ok (.iload 9, 2) := by decide +kernel
theorem dL_isLit_101 : decode cL_isLit 101 = .ok (.bipush 29, 2) := by decide +kernel
theorem dL_isLit_103 : decode cL_isLit 103 = .ok (.idiv, 1) := by decide +kernel
theorem dL_isLit_104 : decode cL_isLit 104 = .ok (.iconst 3, 1) := by decide +kernel
theorem dL_isLit_105 : decode cL_isLit 105 = .ok (.irem, 1) := by decide +kernel
theorem dL_isLit_106 : decode cL_isLit 106 = .ok (.istore 13, 2) := by decide +kernel
theorem dL_isLit_108 : decode cL_isLit 108 = .ok (.iload 9, 2) := by decide +kernel
theorem dL_isLit_110 : decode cL_isLit 110 = .ok (.bipush 87, 2) := by decide +kernel
theorem dL_isLit_112 : decode cL_isLit 112 = .ok (.idiv, 1) := by decide +kernel
theorem dL_isLit_113 : decode cL_isLit 113 = .ok (.bipush 12, 2) := by decide +kernel
theorem dL_isLit_115 : decode cL_isLit 115 = .ok (.irem, 1) := by decide +kernel
theorem dL_isLit_116 : decode cL_isLit 116 = .ok (.istore 14, 2) := by decide +kernel
theorem dL_isLit_118 : decode cL_isLit 118 = .ok (.iload 10, 2) := by decide +kernel
theorem dL_isLit_120 : decode cL_isLit 120 = .ok (.aload 6, 2) := by decide +kernel
theorem dL_isLit_122 : decode cL_isLit 122 = .ok (.iconst 2, 1) := by decide +kernel
theorem dL_isLit_123 : decode cL_isLit 123 = .ok (.iaload, 1) := by decide +kernel
theorem dL_isLit_124 : decode cL_isLit 124 = .ok (.if_icmp .ge 14, 3) := by decide +kernel
theorem dL_isLit_127 : decode cL_isLit 127 = .ok (.iload 11, 2) := by decide +kernel
theorem dL_isLit_129 : decode cL_isLit 129 = .ok (.bipush 64, 2) := by decide +kernel
theorem dL_isLit_131 : decode cL_isLit 131 = .ok (.if_icmp .ge 7, 3) := by decide +kernel
theorem dL_isLit_134 : decode cL_isLit 134 = .ok (.iconst 1, 1) := by decide +kernel
theorem dL_isLit_135 : decode cL_isLit 135 = .ok (.goto 4, 3) := by decide +kernel
theorem dL_isLit_138 : decode cL_isLit 138 = .ok (.iconst 0, 1) := by decide +kernel
theorem dL_isLit_139 : decode cL_isLit 139 = .ok (.istore 15, 2) := by decide +kernel
theorem dL_isLit_141 : decode cL_isLit 141 = .ok (.iload 12, 2) := by decide +kernel
theorem dL_isLit_143 : decode cL_isLit 143 = .ok (.sipush 10001, 3) := by decide +kernel
theorem dL_isLit_146 : decode cL_isLit 146 = .ok (.if_icmp .ge 20, 3) := by decide +kernel
theorem dL_isLit_149 : decode cL_isLit 149 = .ok (.iload 13, 2) := by decide +kernel
theorem dL_isLit_151 : decode cL_isLit 151 = .ok (.iconst 3, 1) := by decide +kernel
theorem dL_isLit_152 : decode cL_isLit 152 = .ok (.if_icmp .ge 14, 3) := by decide +kernel
theorem dL_isLit_155 : decode cL_isLit 155 = .ok (.iload 14, 2) := by decide +kernel
theorem dL_isLit_157 : decode cL_isLit 157 = .ok (.bipush 11, 2) := by decide +kernel
theorem dL_isLit_159 : decode cL_isLit 159 = .ok (.if_icmp .ge 7, 3) := by decide +kernel
theorem dL_isLit_162 : decode cL_isLit 162 = .ok (.iconst 1, 1) := by decide +kernel
theorem dL_isLit_163 : decode cL_isLit 163 = .ok (.goto 4, 3) := by decide +kernel
theorem dL_isLit_166 : decode cL_isLit 166 = .ok (.iconst 0, 1) := by decide +kernel
