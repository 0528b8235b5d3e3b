theorem dL_law_526 : decode code 526 = .ok (.iconst 3, 1) := by decide +kernel
theorem dL_law_527 : decode code 527 = .ok (.iadd, 1) := by decide +kernel
theorem dL_law_528 : decode code 528 = .ok (.iaload, 1) := by decide +kernel
theorem dL_law_529 : decode code 529 = .ok (.i2l, 1) := by decide +kernel
theorem dL_law_530 : decode code 530 = .ok (.bipush 32, 2) := by decide +kernel
theorem dL_law_532 : decode code 532 = .ok (.lshl, 1) := by decide +kernel
theorem dL_law_533 : decode code 533 = .ok (.aload_n 0, 1) := by decide +kernel
theorem dL_law_534 : decode code 534 = .ok (.iload_n 3, 1) := by decide +kernel
theorem dL_law_535 : decode code 535 = .ok (.iconst 4, 1) := by decide +kernel
theorem dL_law_536 : decode code 536 = .ok (.iadd, 1) := by decide +kernel
theorem dL_law_537 : decode code 537 = .ok (.iaload, 1) := by decide +kernel
theorem dL_law_538 : decode code 538 = .ok (.i2l, 1) := by decide +kernel
theorem dL_law_539 : decode code 539 = .ok (.ldc2_w 39, 3) := by decide +kernel
theorem dL_law_542 : decode code 542 = .ok (.land, 1) := by decide +kernel
theorem dL_law_543 : decode code 543 = .ok (.lor, 1) := by decide +kernel
theorem dL_law_544 : decode code 544 = .ok (.invokevirtual 80, 3) := by decide +kernel
theorem dL_law_547 : decode code 547 = .ok (.aload_n 2, 1) := by decide +kernel
theorem dL_law_548 : decode code 548 = .ok (.aload_n 0, 1) := by decide +kernel
theorem dL_law_549 : decode code 549 = .ok (.iload_n 3, 1) := by decide +kernel
theorem dL_law_550 : decode code 550 = .ok (.iconst 1, 1) := by decide +kernel
theorem dL_law_551 : decode code 551 = .ok (.iadd, 1) := by decide +kernel
theorem dL_law_552 : decode code 552 = .ok (.iaload, 1) := by decide +kernel
theorem dL_law_553 : decode code 553 = .ok (.i2l, 1) := by decide +kernel
theorem dL_law_554 : decode code 554 = .ok (.bipush 32, 2) := by decide +kernel
theorem dL_law_556 : decode code 556 = .ok (.lshl, 1) := by decide +kernel
theorem dL_law_557 : decode code 557 = .ok (.aload_n 0, 1) := by decide +kernel
theorem dL_law_558 : decode code 558 = .ok (.iload_n 3, 1) := by decide +kernel
theorem dL_law_559 : decode code 559 = .ok (.iconst 2, 1) := by decide +kernel
theorem dL_law_560 : decode code 560 = .ok (.iadd, 1) := by decide +kernel
theorem dL_law_561 : decode code 561 = .ok (.iaload, 1) := by decide +kernel
theorem dL_law_562 : decode code 562 = .ok (.i2l, 1) := by decide +kernel
theorem dL_law_563 : decode code 563 = .ok (.ldc2_w 39, 3) := by decide +kernel
theorem dL_law_566 : decode code 566 = .ok (.land, 1) := by decide +kernel
theorem dL_law_567 : decode code 567 = .ok (.lor, 1) := by decide +kernel
theorem dL_law_568 : decode code 568 = .ok (.aload_n 0, 1) := by decide +kernel
theorem dL_law_569 : decode code 569 = .ok (.iload_n 3, 1) := by decide +kernel
theorem dL_law_570 : decode code 570 = .ok (.iconst 3, 1) := by decide +kernel
theorem dL_law_571 : decode code 571 = .ok (.iadd, 1) := by decide +kernel
theorem dL_law_572 : decode code 572 = .ok (.iaload, 1) := by decide +kernel
theorem dL_law_573 : decode code 573 = .ok (.i2l, 1) := by decide +kernel
theorem dL_law_574 : decode code 574 = .ok (.bipush 32, 2) := by decide +kernel
theorem dL_law_576 : decode code 576 = .ok (.lshl, 1) := by decide +kernel
theorem dL_law_577 : decode code 577 = .ok (.aload_n 0, 1) := by decide +kernel
theorem dL_law_578 : decode code 578 = .ok (.iload_n 3, 1) := by decide +kernel
theorem dL_law_579 : decode code 579 = .ok (.iconst 4, 1) := by decide +kernel
theorem dL_law_580 : decode code 580 = .ok (.iadd, 1) := by decide +kernel
theorem dL_law_581 : decode code 581 = .ok (.iaload, 1) := by decide +kernel
theorem dL_law_582 : decode code 582 = .ok (.i2l, 1) := by decide +kernel
theorem dL_law_583 : decode code 583 = .ok (.ldc2_w 39, 3) := by decide +kernel
theorem dL_law_586 : decode code 586 = .ok (.land, 1) := by decide +kernel
theorem dL_law_587 : decode code 587 = .ok (.lor, 1) := by decide +kernel
theorem dL_law_588 : decode code 588 = .ok (.invokevirtual 84, 3) := by decide +kernel
theorem dL_law_591 : decode code 591 = .ok (.if_icmp .eq 137, 3) := by decide +kernel
theorem dL_law_594 : decode code 594 = .ok (.iconst 0, 1) := by decide +kernel
theorem dL_law_595 : decode code 595 = .ok (.ireturn, 1) := by decide +kernel
theorem dL_law_596 : decode code 596 = .ok (.aload_n 1, 1) := by decide +kernel
theorem dL_law_597 : decode code 597 = .ok (.aload_n 0, 1) := by decide +kernel
theorem dL_law_598 : decode code 598 = .ok (.iload_n 3, 1) := by decide +kernel
theorem dL_law_599 : decode code 599 = .ok (.iconst 1, 1) := by decide +kernel
theorem dL_law_600 : decode code 600 = .ok (.iadd, 1) := by decide +kernel
theorem dL_law_601 : decode code 601 = .ok (.iaload, 1) := by decide +kernel
theorem dL_law_602 : decode code 602 = .ok (.aload_n 0, 1) := by decide +kernel
theorem dL_law_603 : decode code 603 = .ok (.iload_n 3, 1) := by decide +kernel
theorem dL_law_604 : decode code 604 = .ok (.iconst 2, 1) := by decide +kernel
theorem dL_law_605 : decode code 605 = .ok (.iadd, 1) := by decide +kernel
theorem dL_law_606 : decode code 606 = .ok (.iaload, 1) := by decide +kernel
theorem dL_law_607 : decode code 607 = .ok (.invokevirtual 85, 3) := by decide +kernel
theorem dL_law_610 : decode code 610 = .ok (.aload_n 2, 1) := by decide +kernel
theorem dL_law_611 : decode code 611 = .ok (.aload_n 0, 1) := by decide +kernel
theorem dL_law_612 : decode code 612 = .ok (.iload_n 3, 1) := by decide +kernel
theorem dL_law_613 : decode code 613 = .ok (.iconst 1, 1) := by decide +kernel
theorem dL_law_614 : decode code 614 = .ok (.iadd, 1) := by decide +kernel
theorem dL_law_615 : decode code 615 = .ok (.iaload, 1) := by decide +kernel
theorem dL_law_616 : decode code 616 = .ok (.aload_n 0, 1) := by decide +kernel
theorem dL_law_617 : decode code 617 = .ok (.iload_n 3, 1) := by decide +kernel
theorem dL_law_618 : decode code 618 = .ok (.iconst 2, 1) := by decide +kernel
theorem dL_law_619 : decode code 619 = .ok (.iadd, 1) := by decide +kernel
theorem dL_law_620 : decode code 620 = .ok (.iaload, 1) := by decide +kernel
theorem dL_law_621 : decode code 621 = .ok (.invokevirtual 88, 3) := by decide +kernel
theorem dL_law_624 : decode code 624 = .ok (.if_icmp .eq 104, 3) := by decide +kernel
theorem dL_law_627 : decode code 627 = .ok (.iconst 0, 1) := by decide +kernel
theorem dL_law_628 : decode code 628 = .ok (.ireturn, 1) := by decide +kernel
theorem dL_law_629 : decode code 629 = .ok (.aload_n 1, 1) := by decide +kernel
theorem dL_law_630 : decode code 630 = .ok (.aload_n 0, 1) := by decide +kernel
theorem dL_law_631 : decode code 631 = .ok (.iload_n 3, 1) := by decide +kernel
theorem dL_law_632 : decode code 632 = .ok (.iconst 1, 1) := by decide +kernel
theorem dL_law_633 : decode code 633 = .ok (.iadd, 1) := by decide +kernel
theorem dL_law_634 : decode code 634 = .ok (.iaload, 1) := by decide +kernel
theorem dL_law_635 : decode code 635 = .ok (.aload_n 0, 1) := by decide +kernel
theorem dL_law_636 : decode code 636 = .ok (.iload_n 3, 1) := by decide +kernel
theorem dL_law_637 : decode code 637 = .ok (.iconst 2, 1) := by decide +kernel
theorem dL_law_638 : decode code 638 = .ok (.iadd, 1) := by decide +kernel
theorem dL_law_639 : decode code 639 = .ok (.iaload, 1) := by decide +kernel
theorem dL_law_640 : decode code 640 = .ok (.aload_n 0, 1) := by decide +kernel
theorem dL_law_641 : decode code 641 = .ok (.iload_n 3, 1) := by decide +kernel
theorem dL_law_642 : decode code 642 = .ok (.iconst 3, 1) := by decide +kernel
theorem dL_law_643 : decode code 643 = .ok (.iadd, 1) := by decide +kernel
theorem dL_law_644 : decode code 644 = .ok (.iaload, 1) := by decide +kernel
theorem dL_law_645 : decode code 645 = .ok (.invokevirtual 89, 3) := by decide +kernel
theorem dL_law_648 : decode code 648 = .ok (.aload_n 2, 1) := by decide +kernel
theorem dL_law_649 : decode code 649 = .ok (.aload_n 0, 1) := by decide +kernel
theorem dL_law_650 : decode code 650 = .ok (.iload_n 3, 1) := by decide +kernel
theorem dL_law_651 : decode code 651 = .ok (.iconst 1, 1) := by decide +kernel
theorem dL_law_652 : decode code 652 = .ok (.iadd, 1) := by decide +kernel
theorem dL_law_653 : decode code 653 = .ok (.iaload, 1) := by decide +kernel
theorem dL_law_654 : decode code 654 = .ok (.aload_n 0, 1) := by decide +kernel
theorem dL_law_655 : decode code 655 = .ok (.iload_n 3, 1) := by decide +kernel
theorem dL_law_656 : decode code 656 = .ok (.iconst 2, 1) := by decide +kernel
theorem dL_law_657 : decode code 657 = .ok (.iadd, 1) := by decide +kernel
theorem dL_law_658 : decode code 658 = .ok (.iaload, 1) := by decide +kernel
theorem dL_law_659 : decode code 659 = .ok (.aload_n 0, 1) := by decide +kernel
theorem dL_law_660 : decode code 660 = .ok (.iload_n 3, 1) := by decide +kernel
theorem dL_law_661 : decode code 661 = .ok (.iconst 3, 1) := by decide +kernel
theorem dL_law_662 : decode code 662 = .ok (.iadd, 1) := by decide +kernel
theorem dL_law_663 : decode code 663 = .ok (.iaload, 1) := by decide +kernel
theorem dL_law_664 : decode code 664 = .ok (.invokevirtual 93, 3) := by decide +kernel
theorem dL_law_667 : decode code 667 = .ok (.if_icmp .eq 61, 3) := by decide +kernel
theorem dL_law_670 : decode code 670 = .ok (.iconst 0, 1) := by decide +kernel
theorem dL_law_671 : decode code 671 = .ok (.ireturn, 1) := by decide +kernel
theorem dL_law_672 : decode code 672 = .ok (.aload_n 1, 1) := by decide +kernel
theorem dL_law_673 : decode code 673 = .ok (.aload_n 0, 1) := by decide +kernel
theorem dL_law_674 : decode code 674 = .ok (.iload_n 3, 1) := by decide +kernel
theorem dL_law_675 : decode code 675 = .ok (.iconst 1, 1) := by decide +kernel
theorem dL_law_676 : decode code 676 = .ok (.iadd, 1) := by decide +kernel
theorem dL_law_677 : decode code 677 = .ok (.iaload, 1) := by decide +kernel
theorem dL_law_678 : decode code 678 = .ok (.invokevirtual 94, 3) := by decide +kernel
theorem dL_law_681 : decode code 681 = .ok (.aload_n 2, 1) := by decide +kernel
theorem dL_law_682 : decode code 682 = .ok (.aload_n 0, 1) := by decide +kernel
theorem dL_law_683 : decode code 683 = .ok (.iload_n 3, 1) := by decide +kernel
theorem dL_law_684 : decode code 684 = .ok (.iconst 1, 1) := by decide +kernel
theorem dL_law_685 : decode code 685 = .ok (.iadd, 1) := by decide +kernel
theorem dL_law_686 : decode code 686 = .ok (.iaload, 1) := by decide +kernel
theorem dL_law_687 : decode code 687 = .ok (.invokevirtual 97, 3) := by decide +kernel
theorem dL_law_690 : decode code 690 = .ok (.if_icmp .eq 38, 3) := by decide +kernel
theorem dL_law_693 : decode code 693 = .ok (.iconst 0, 1) := by decide +kernel
theorem dL_law_694 : decode code 694 = .ok (.ireturn, 1) := by decide +kernel
theorem dL_law_695 : decode code 695 = .ok (.aload_n 1, 1) := by decide +kernel
theorem dL_law_696 : decode code 696 = .ok (.aload_n 0, 1) := by decide +kernel
theorem dL_law_697 : decode code 697 = .ok (.iload_n 3, 1) := by decide +kernel
theorem dL_law_698 : decode code 698 = .ok (.iconst 1, 1) := by decide +kernel
theorem dL_law_699 : decode code 699 = .ok (.iadd, 1) := by decide +kernel
theorem dL_law_700 : decode code 700 = .ok (.iaload, 1) := by decide +kernel
theorem dL_law_701 : decode code 701 = .ok (.aload_n 0, 1) := by decide +kernel
theorem dL_law_702 : decode code 702 = .ok (.iload_n 3, 1) := by decide +kernel
theorem dL_law_703 : decode code 703 = .ok (.iconst 2, 1) := by decide +kernel
theorem dL_law_704 : decode code 704 = .ok (.iadd, 1) := by decide +kernel
theorem dL_law_705 : decode code 705 = .ok (.iaload, 1) := by decide +kernel
theorem dL_law_706 : decode code 706 = .ok (.invokevirtual 98, 3) := by decide +kernel
theorem dL_law_709 : decode code 709 = .ok (.aload_n 2, 1) := by decide +kernel
theorem dL_law_710 : decode code 710 = .ok (.aload_n 0, 1) := by decide +kernel
theorem dL_law_711 : decode code 711 = .ok (.iload_n 3, 1) := by decide +kernel
theorem dL_law_712 : decode code 712 = .ok (.iconst 1, 1) := by decide +kernel
theorem dL_law_713 : decode code 713 = .ok (.iadd, 1) := by decide +kernel
theorem dL_law_714 : decode code 714 = .ok (.iaload, 1) := by decide +kernel
theorem dL_law_715 : decode code 715 = .ok (.aload_n 0, 1) := by decide +kernel
theorem dL_law_716 : decode code 716 = .ok (.iload_n 3, 1) := by decide +kernel
theorem dL_law_717 : decode code 717 = .ok (.iconst 2, 1) := by decide +kernel
theorem dL_law_718 : decode code 718 = .ok (.iadd, 1) := by decide +kernel
theorem dL_law_719 : decode code 719 = .ok (.iaload, 1) := by decide +kernel
theorem dL_law_720 : decode code 720 = .ok (.invokevirtual 101, 3) := by decide +kernel
theorem dL_law_723 : decode code 723 = .ok (.if_icmp .eq 5, 3) := by decide +kernel
theorem dL_law_726 : decode code 726 = .ok (.iconst 0, 1) := by decide +kernel
theorem dL_law_727 : decode code 727 = .ok (.ireturn, 1) := by decide +kernel
theorem dL_law_728 : decode code 728 = .ok (.iinc 3 5, 3) := by decide +kernel
theorem dL_law_731 : decode code 731 = .ok (.goto (-703), 3) := by decide +kernel
theorem dL_law_734 : decode code 734 = .ok (.iconst 1, 1) := by decide +kernel
theorem dL_law_735 : decode code 735 = .ok (.ireturn, 1) := by decide +kernel
theorem dL_law_42 : decode code 42 = .ok (.tableswitch 686 0 16 #[82, 125, 148, 171, 194, 247, 280, 313, 376, 399, 423, 447, 461, 554, 587, 630, 653], 82) := by decide +kernel
