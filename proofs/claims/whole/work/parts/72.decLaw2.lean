theorem d_Lw_law_560 : decode code 560 = .ok (.iaload, 1) := by decide +kernel
theorem d_Lw_law_561 : decode code 561 = .ok (.ifCond .eq 7, 3) := by decide +kernel
theorem d_Lw_law_564 : decode code 564 = .ok (.iconst 1, 1) := by decide +kernel
theorem d_Lw_law_565 : decode code 565 = .ok (.goto 4, 3) := by decide +kernel
theorem d_Lw_law_568 : decode code 568 = .ok (.iconst 0, 1) := by decide +kernel
theorem d_Lw_law_569 : decode code 569 = .ok (.aload_n 3, 1) := by decide +kernel
theorem d_Lw_law_570 : decode code 570 = .ok (.invokestatic 118, 3) := by decide +kernel
theorem d_Lw_law_573 : decode code 573 = .ok (.istore 5, 2) := by decide +kernel
theorem d_Lw_law_575 : decode code 575 = .ok (.aload_n 2, 1) := by decide +kernel
theorem d_Lw_law_576 : decode code 576 = .ok (.aload_n 0, 1) := by decide +kernel
theorem d_Lw_law_577 : decode code 577 = .ok (.iload 4, 2) := by decide +kernel
theorem d_Lw_law_579 : decode code 579 = .ok (.iconst 1, 1) := by decide +kernel
theorem d_Lw_law_580 : decode code 580 = .ok (.iadd, 1) := by decide +kernel
theorem d_Lw_law_581 : decode code 581 = .ok (.iaload, 1) := by decide +kernel
theorem d_Lw_law_582 : decode code 582 = .ok (.aload_n 0, 1) := by decide +kernel
theorem d_Lw_law_583 : decode code 583 = .ok (.iload 4, 2) := by decide +kernel
theorem d_Lw_law_585 : decode code 585 = .ok (.iconst 2, 1) := by decide +kernel
theorem d_Lw_law_586 : decode code 586 = .ok (.iadd, 1) := by decide +kernel
theorem d_Lw_law_587 : decode code 587 = .ok (.iaload, 1) := by decide +kernel
theorem d_Lw_law_588 : decode code 588 = .ok (.ifCond .eq 7, 3) := by decide +kernel
theorem d_Lw_law_591 : decode code 591 = .ok (.iconst 1, 1) := by decide +kernel
theorem d_Lw_law_592 : decode code 592 = .ok (.goto 4, 3) := by decide +kernel
theorem d_Lw_law_595 : decode code 595 = .ok (.iconst 0, 1) := by decide +kernel
theorem d_Lw_law_596 : decode code 596 = .ok (.invokevirtual 121, 3) := by decide +kernel
theorem d_Lw_law_599 : decode code 599 = .ok (.istore 6, 2) := by decide +kernel
theorem d_Lw_law_601 : decode code 601 = .ok (.aload_n 2, 1) := by decide +kernel
theorem d_Lw_law_602 : decode code 602 = .ok (.invokevirtual 96, 3) := by decide +kernel
theorem d_Lw_law_605 : decode code 605 = .ok (.iload 5, 2) := by decide +kernel
theorem d_Lw_law_607 : decode code 607 = .ok (.if_icmp .eq 5, 3) := by decide +kernel
theorem d_Lw_law_610 : decode code 610 = .ok (.iconst 0, 1) := by decide +kernel
theorem d_Lw_law_611 : decode code 611 = .ok (.ireturn, 1) := by decide +kernel
theorem d_Lw_law_612 : decode code 612 = .ok (.iload 5, 2) := by decide +kernel
theorem d_Lw_law_614 : decode code 614 = .ok (.ifCond .ne 15, 3) := by decide +kernel
theorem d_Lw_law_617 : decode code 617 = .ok (.aload_n 3, 1) := by decide +kernel
theorem d_Lw_law_618 : decode code 618 = .ok (.iconst 0, 1) := by decide +kernel
theorem d_Lw_law_619 : decode code 619 = .ok (.laload, 1) := by decide +kernel
theorem d_Lw_law_620 : decode code 620 = .ok (.iload 6, 2) := by decide +kernel
theorem d_Lw_law_622 : decode code 622 = .ok (.i2l, 1) := by decide +kernel
theorem d_Lw_law_623 : decode code 623 = .ok (.lcmp, 1) := by decide +kernel
theorem d_Lw_law_624 : decode code 624 = .ok (.ifCond .eq 5, 3) := by decide +kernel
theorem d_Lw_law_627 : decode code 627 = .ok (.iconst 0, 1) := by decide +kernel
theorem d_Lw_law_628 : decode code 628 = .ok (.ireturn, 1) := by decide +kernel
theorem d_Lw_law_629 : decode code 629 = .ok (.goto 904, 3) := by decide +kernel
theorem d_Lw_law_632 : decode code 632 = .ok (.aload_n 1, 1) := by decide +kernel
theorem d_Lw_law_633 : decode code 633 = .ok (.aload_n 0, 1) := by decide +kernel
theorem d_Lw_law_634 : decode code 634 = .ok (.iload 4, 2) := by decide +kernel
theorem d_Lw_law_636 : decode code 636 = .ok (.iconst 1, 1) := by decide +kernel
theorem d_Lw_law_637 : decode code 637 = .ok (.iadd, 1) := by decide +kernel
theorem d_Lw_law_638 : decode code 638 = .ok (.iaload, 1) := by decide +kernel
theorem d_Lw_law_639 : decode code 639 = .ok (.aload_n 0, 1) := by decide +kernel
theorem d_Lw_law_640 : decode code 640 = .ok (.iload 4, 2) := by decide +kernel
theorem d_Lw_law_642 : decode code 642 = .ok (.iconst 2, 1) := by decide +kernel
theorem d_Lw_law_643 : decode code 643 = .ok (.iadd, 1) := by decide +kernel
theorem d_Lw_law_644 : decode code 644 = .ok (.iaload, 1) := by decide +kernel
theorem d_Lw_law_645 : decode code 645 = .ok (.aload_n 3, 1) := by decide +kernel
theorem d_Lw_law_646 : decode code 646 = .ok (.invokestatic 122, 3) := by decide +kernel
theorem d_Lw_law_649 : decode code 649 = .ok (.istore 5, 2) := by decide +kernel
theorem d_Lw_law_651 : decode code 651 = .ok (.aload_n 2, 1) := by decide +kernel
theorem d_Lw_law_652 : decode code 652 = .ok (.aload_n 0, 1) := by decide +kernel
theorem d_Lw_law_653 : decode code 653 = .ok (.iload 4, 2) := by decide +kernel
theorem d_Lw_law_655 : decode code 655 = .ok (.iconst 1, 1) := by decide +kernel
theorem d_Lw_law_656 : decode code 656 = .ok (.iadd, 1) := by decide +kernel
theorem d_Lw_law_657 : decode code 657 = .ok (.iaload, 1) := by decide +kernel
theorem d_Lw_law_658 : decode code 658 = .ok (.aload_n 0, 1) := by decide +kernel
theorem d_Lw_law_659 : decode code 659 = .ok (.iload 4, 2) := by decide +kernel
theorem d_Lw_law_661 : decode code 661 = .ok (.iconst 2, 1) := by decide +kernel
theorem d_Lw_law_662 : decode code 662 = .ok (.iadd, 1) := by decide +kernel
theorem d_Lw_law_663 : decode code 663 = .ok (.iaload, 1) := by decide +kernel
theorem d_Lw_law_664 : decode code 664 = .ok (.invokevirtual 125, 3) := by decide +kernel
theorem d_Lw_law_667 : decode code 667 = .ok (.istore 6, 2) := by decide +kernel
theorem d_Lw_law_669 : decode code 669 = .ok (.aload_n 2, 1) := by decide +kernel
theorem d_Lw_law_670 : decode code 670 = .ok (.invokevirtual 96, 3) := by decide +kernel
theorem d_Lw_law_673 : decode code 673 = .ok (.iload 5, 2) := by decide +kernel
theorem d_Lw_law_675 : decode code 675 = .ok (.if_icmp .eq 5, 3) := by decide +kernel
theorem d_Lw_law_678 : decode code 678 = .ok (.iconst 0, 1) := by decide +kernel
theorem d_Lw_law_679 : decode code 679 = .ok (.ireturn, 1) := by decide +kernel
theorem d_Lw_law_680 : decode code 680 = .ok (.iload 5, 2) := by decide +kernel
theorem d_Lw_law_682 : decode code 682 = .ok (.ifCond .ne 15, 3) := by decide +kernel
theorem d_Lw_law_685 : decode code 685 = .ok (.aload_n 3, 1) := by decide +kernel
theorem d_Lw_law_686 : decode code 686 = .ok (.iconst 0, 1) := by decide +kernel
theorem d_Lw_law_687 : decode code 687 = .ok (.laload, 1) := by decide +kernel
theorem d_Lw_law_688 : decode code 688 = .ok (.iload 6, 2) := by decide +kernel
theorem d_Lw_law_690 : decode code 690 = .ok (.i2l, 1) := by decide +kernel
theorem d_Lw_law_691 : decode code 691 = .ok (.lcmp, 1) := by decide +kernel
theorem d_Lw_law_692 : decode code 692 = .ok (.ifCond .eq 5, 3) := by decide +kernel
theorem d_Lw_law_695 : decode code 695 = .ok (.iconst 0, 1) := by decide +kernel
theorem d_Lw_law_696 : decode code 696 = .ok (.ireturn, 1) := by decide +kernel
theorem d_Lw_law_697 : decode code 697 = .ok (.goto 836, 3) := by decide +kernel
theorem d_Lw_law_700 : decode code 700 = .ok (.aload_n 1, 1) := by decide +kernel
theorem d_Lw_law_701 : decode code 701 = .ok (.aload_n 0, 1) := by decide +kernel
theorem d_Lw_law_702 : decode code 702 = .ok (.iload 4, 2) := by decide +kernel
theorem d_Lw_law_704 : decode code 704 = .ok (.iconst 1, 1) := by decide +kernel
theorem d_Lw_law_705 : decode code 705 = .ok (.iadd, 1) := by decide +kernel
theorem d_Lw_law_706 : decode code 706 = .ok (.iaload, 1) := by decide +kernel
theorem d_Lw_law_707 : decode code 707 = .ok (.aload_n 0, 1) := by decide +kernel
theorem d_Lw_law_708 : decode code 708 = .ok (.iload 4, 2) := by decide +kernel
theorem d_Lw_law_710 : decode code 710 = .ok (.iconst 2, 1) := by decide +kernel
theorem d_Lw_law_711 : decode code 711 = .ok (.iadd, 1) := by decide +kernel
theorem d_Lw_law_712 : decode code 712 = .ok (.iaload, 1) := by decide +kernel
theorem d_Lw_law_713 : decode code 713 = .ok (.invokestatic 126, 3) := by decide +kernel
theorem d_Lw_law_716 : decode code 716 = .ok (.istore 5, 2) := by decide +kernel
theorem d_Lw_law_718 : decode code 718 = .ok (.aload_n 2, 1) := by decide +kernel
theorem d_Lw_law_719 : decode code 719 = .ok (.aload_n 0, 1) := by decide +kernel
theorem d_Lw_law_720 : decode code 720 = .ok (.iload 4, 2) := by decide +kernel
theorem d_Lw_law_722 : decode code 722 = .ok (.iconst 1, 1) := by decide +kernel
theorem d_Lw_law_723 : decode code 723 = .ok (.iadd, 1) := by decide +kernel
theorem d_Lw_law_724 : decode code 724 = .ok (.iaload, 1) := by decide +kernel
theorem d_Lw_law_725 : decode code 725 = .ok (.aload_n 0, 1) := by decide +kernel
theorem d_Lw_law_726 : decode code 726 = .ok (.iload 4, 2) := by decide +kernel
theorem d_Lw_law_728 : decode code 728 = .ok (.iconst 2, 1) := by decide +kernel
theorem d_Lw_law_729 : decode code 729 = .ok (.iadd, 1) := by decide +kernel
theorem d_Lw_law_730 : decode code 730 = .ok (.iaload, 1) := by decide +kernel
theorem d_Lw_law_731 : decode code 731 = .ok (.invokevirtual 129, 3) := by decide +kernel
theorem d_Lw_law_734 : decode code 734 = .ok (.aload_n 2, 1) := by decide +kernel
theorem d_Lw_law_735 : decode code 735 = .ok (.invokevirtual 96, 3) := by decide +kernel
theorem d_Lw_law_738 : decode code 738 = .ok (.iload 5, 2) := by decide +kernel
theorem d_Lw_law_740 : decode code 740 = .ok (.if_icmp .eq 5, 3) := by decide +kernel
theorem d_Lw_law_743 : decode code 743 = .ok (.iconst 0, 1) := by decide +kernel
theorem d_Lw_law_744 : decode code 744 = .ok (.ireturn, 1) := by decide +kernel
theorem d_Lw_law_745 : decode code 745 = .ok (.goto 788, 3) := by decide +kernel
theorem d_Lw_law_748 : decode code 748 = .ok (.aload_n 1, 1) := by decide +kernel
theorem d_Lw_law_749 : decode code 749 = .ok (.aload_n 0, 1) := by decide +kernel
theorem d_Lw_law_750 : decode code 750 = .ok (.iload 4, 2) := by decide +kernel
theorem d_Lw_law_752 : decode code 752 = .ok (.iconst 1, 1) := by decide +kernel
theorem d_Lw_law_753 : decode code 753 = .ok (.iadd, 1) := by decide +kernel
theorem d_Lw_law_754 : decode code 754 = .ok (.iaload, 1) := by decide +kernel
theorem d_Lw_law_755 : decode code 755 = .ok (.aload_n 3, 1) := by decide +kernel
theorem d_Lw_law_756 : decode code 756 = .ok (.invokestatic 130, 3) := by decide +kernel
theorem d_Lw_law_759 : decode code 759 = .ok (.istore 5, 2) := by decide +kernel
theorem d_Lw_law_761 : decode code 761 = .ok (.aload_n 2, 1) := by decide +kernel
theorem d_Lw_law_762 : decode code 762 = .ok (.aload_n 0, 1) := by decide +kernel
theorem d_Lw_law_763 : decode code 763 = .ok (.iload 4, 2) := by decide +kernel
theorem d_Lw_law_765 : decode code 765 = .ok (.iconst 1, 1) := by decide +kernel
theorem d_Lw_law_766 : decode code 766 = .ok (.iadd, 1) := by decide +kernel
theorem d_Lw_law_767 : decode code 767 = .ok (.iaload, 1) := by decide +kernel
theorem d_Lw_law_768 : decode code 768 = .ok (.invokevirtual 132, 3) := by decide +kernel
theorem d_Lw_law_771 : decode code 771 = .ok (.istore 6, 2) := by decide +kernel
theorem d_Lw_law_773 : decode code 773 = .ok (.aload_n 2, 1) := by decide +kernel
theorem d_Lw_law_774 : decode code 774 = .ok (.invokevirtual 96, 3) := by decide +kernel
theorem d_Lw_law_777 : decode code 777 = .ok (.iload 5, 2) := by decide +kernel
theorem d_Lw_law_779 : decode code 779 = .ok (.if_icmp .eq 5, 3) := by decide +kernel
theorem d_Lw_law_782 : decode code 782 = .ok (.iconst 0, 1) := by decide +kernel
theorem d_Lw_law_783 : decode code 783 = .ok (.ireturn, 1) := by decide +kernel
theorem d_Lw_law_784 : decode code 784 = .ok (.iload 5, 2) := by decide +kernel
theorem d_Lw_law_786 : decode code 786 = .ok (.ifCond .ne 15, 3) := by decide +kernel
theorem d_Lw_law_789 : decode code 789 = .ok (.aload_n 3, 1) := by decide +kernel
theorem d_Lw_law_790 : decode code 790 = .ok (.iconst 0, 1) := by decide +kernel
theorem d_Lw_law_791 : decode code 791 = .ok (.laload, 1) := by decide +kernel
theorem d_Lw_law_792 : decode code 792 = .ok (.iload 6, 2) := by decide +kernel
theorem d_Lw_law_794 : decode code 794 = .ok (.i2l, 1) := by decide +kernel
