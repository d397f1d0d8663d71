theorem d_L_law_632 : decode code 632 = .ok (.ldc2_w 67, 3) := by decide +kernel
theorem d_L_law_635 : decode code 635 = .ok (.land, 1) := by decide +kernel
theorem d_L_law_636 : decode code 636 = .ok (.lor, 1) := by decide +kernel
theorem d_L_law_637 : decode code 637 = .ok (.aload_n 3, 1) := by decide +kernel
theorem d_L_law_638 : decode code 638 = .ok (.invokestatic 95, 3) := by decide +kernel
theorem d_L_law_641 : decode code 641 = .ok (.istore 5, 2) := by decide +kernel
theorem d_L_law_643 : decode code 643 = .ok (.aload_n 2, 1) := by decide +kernel
theorem d_L_law_644 : decode code 644 = .ok (.aload_n 0, 1) := by decide +kernel
theorem d_L_law_645 : decode code 645 = .ok (.iload 4, 2) := by decide +kernel
theorem d_L_law_647 : decode code 647 = .ok (.iconst 1, 1) := by decide +kernel
theorem d_L_law_648 : decode code 648 = .ok (.iadd, 1) := by decide +kernel
theorem d_L_law_649 : decode code 649 = .ok (.iaload, 1) := by decide +kernel
theorem d_L_law_650 : decode code 650 = .ok (.aload_n 0, 1) := by decide +kernel
theorem d_L_law_651 : decode code 651 = .ok (.iload 4, 2) := by decide +kernel
theorem d_L_law_653 : decode code 653 = .ok (.iconst 2, 1) := by decide +kernel
theorem d_L_law_654 : decode code 654 = .ok (.iadd, 1) := by decide +kernel
theorem d_L_law_655 : decode code 655 = .ok (.iaload, 1) := by decide +kernel
theorem d_L_law_656 : decode code 656 = .ok (.i2l, 1) := by decide +kernel
theorem d_L_law_657 : decode code 657 = .ok (.bipush 32, 2) := by decide +kernel
theorem d_L_law_659 : decode code 659 = .ok (.lshl, 1) := by decide +kernel
theorem d_L_law_660 : decode code 660 = .ok (.aload_n 0, 1) := by decide +kernel
theorem d_L_law_661 : decode code 661 = .ok (.iload 4, 2) := by decide +kernel
theorem d_L_law_663 : decode code 663 = .ok (.iconst 3, 1) := by decide +kernel
theorem d_L_law_664 : decode code 664 = .ok (.iadd, 1) := by decide +kernel
theorem d_L_law_665 : decode code 665 = .ok (.iaload, 1) := by decide +kernel
theorem d_L_law_666 : decode code 666 = .ok (.i2l, 1) := by decide +kernel
theorem d_L_law_667 : decode code 667 = .ok (.ldc2_w 67, 3) := by decide +kernel
theorem d_L_law_670 : decode code 670 = .ok (.land, 1) := by decide +kernel
theorem d_L_law_671 : decode code 671 = .ok (.lor, 1) := by decide +kernel
theorem d_L_law_672 : decode code 672 = .ok (.invokevirtual 97, 3) := by decide +kernel
theorem d_L_law_675 : decode code 675 = .ok (.istore 6, 2) := by decide +kernel
theorem d_L_law_677 : decode code 677 = .ok (.aload_n 2, 1) := by decide +kernel
theorem d_L_law_678 : decode code 678 = .ok (.invokevirtual 80, 3) := by decide +kernel
theorem d_L_law_681 : decode code 681 = .ok (.iload 5, 2) := by decide +kernel
theorem d_L_law_683 : decode code 683 = .ok (.if_icmp .eq 5, 3) := by decide +kernel
theorem d_L_law_686 : decode code 686 = .ok (.iconst 0, 1) := by decide +kernel
theorem d_L_law_687 : decode code 687 = .ok (.ireturn, 1) := by decide +kernel
theorem d_L_law_688 : decode code 688 = .ok (.iload 5, 2) := by decide +kernel
theorem d_L_law_690 : decode code 690 = .ok (.ifCond .ne 22, 3) := by decide +kernel
theorem d_L_law_693 : decode code 693 = .ok (.aload_n 3, 1) := by decide +kernel
theorem d_L_law_694 : decode code 694 = .ok (.iconst 0, 1) := by decide +kernel
theorem d_L_law_695 : decode code 695 = .ok (.laload, 1) := by decide +kernel
theorem d_L_law_696 : decode code 696 = .ok (.iload 6, 2) := by decide +kernel
theorem d_L_law_698 : decode code 698 = .ok (.ifCond .eq 7, 3) := by decide +kernel
theorem d_L_law_701 : decode code 701 = .ok (.lconst 1, 1) := by decide +kernel
theorem d_L_law_702 : decode code 702 = .ok (.goto 4, 3) := by decide +kernel
theorem d_L_law_705 : decode code 705 = .ok (.lconst 0, 1) := by decide +kernel
theorem d_L_law_706 : decode code 706 = .ok (.lcmp, 1) := by decide +kernel
theorem d_L_law_707 : decode code 707 = .ok (.ifCond .eq 5, 3) := by decide +kernel
theorem d_L_law_710 : decode code 710 = .ok (.iconst 0, 1) := by decide +kernel
theorem d_L_law_711 : decode code 711 = .ok (.ireturn, 1) := by decide +kernel
theorem d_L_law_712 : decode code 712 = .ok (.goto 608, 3) := by decide +kernel
theorem d_L_law_715 : decode code 715 = .ok (.aload_n 1, 1) := by decide +kernel
theorem d_L_law_716 : decode code 716 = .ok (.aload_n 0, 1) := by decide +kernel
theorem d_L_law_717 : decode code 717 = .ok (.iload 4, 2) := by decide +kernel
theorem d_L_law_719 : decode code 719 = .ok (.iconst 1, 1) := by decide +kernel
theorem d_L_law_720 : decode code 720 = .ok (.iadd, 1) := by decide +kernel
theorem d_L_law_721 : decode code 721 = .ok (.iaload, 1) := by decide +kernel
theorem d_L_law_722 : decode code 722 = .ok (.aload_n 0, 1) := by decide +kernel
theorem d_L_law_723 : decode code 723 = .ok (.iload 4, 2) := by decide +kernel
theorem d_L_law_725 : decode code 725 = .ok (.iconst 2, 1) := by decide +kernel
theorem d_L_law_726 : decode code 726 = .ok (.iadd, 1) := by decide +kernel
theorem d_L_law_727 : decode code 727 = .ok (.iaload, 1) := by decide +kernel
theorem d_L_law_728 : decode code 728 = .ok (.i2l, 1) := by decide +kernel
theorem d_L_law_729 : decode code 729 = .ok (.bipush 32, 2) := by decide +kernel
theorem d_L_law_731 : decode code 731 = .ok (.lshl, 1) := by decide +kernel
theorem d_L_law_732 : decode code 732 = .ok (.aload_n 0, 1) := by decide +kernel
theorem d_L_law_733 : decode code 733 = .ok (.iload 4, 2) := by decide +kernel
theorem d_L_law_735 : decode code 735 = .ok (.iconst 3, 1) := by decide +kernel
theorem d_L_law_736 : decode code 736 = .ok (.iadd, 1) := by decide +kernel
theorem d_L_law_737 : decode code 737 = .ok (.iaload, 1) := by decide +kernel
theorem d_L_law_738 : decode code 738 = .ok (.i2l, 1) := by decide +kernel
theorem d_L_law_739 : decode code 739 = .ok (.ldc2_w 67, 3) := by decide +kernel
theorem d_L_law_742 : decode code 742 = .ok (.land, 1) := by decide +kernel
theorem d_L_law_743 : decode code 743 = .ok (.lor, 1) := by decide +kernel
theorem d_L_law_744 : decode code 744 = .ok (.aload_n 0, 1) := by decide +kernel
theorem d_L_law_745 : decode code 745 = .ok (.iload 4, 2) := by decide +kernel
theorem d_L_law_747 : decode code 747 = .ok (.iconst 4, 1) := by decide +kernel
theorem d_L_law_748 : decode code 748 = .ok (.iadd, 1) := by decide +kernel
theorem d_L_law_749 : decode code 749 = .ok (.iaload, 1) := by decide +kernel
theorem d_L_law_750 : decode code 750 = .ok (.i2l, 1) := by decide +kernel
theorem d_L_law_751 : decode code 751 = .ok (.bipush 32, 2) := by decide +kernel
theorem d_L_law_753 : decode code 753 = .ok (.lshl, 1) := by decide +kernel
theorem d_L_law_754 : decode code 754 = .ok (.aload_n 0, 1) := by decide +kernel
theorem d_L_law_755 : decode code 755 = .ok (.iload 4, 2) := by decide +kernel
theorem d_L_law_757 : decode code 757 = .ok (.iconst 5, 1) := by decide +kernel
theorem d_L_law_758 : decode code 758 = .ok (.iadd, 1) := by decide +kernel
theorem d_L_law_759 : decode code 759 = .ok (.iaload, 1) := by decide +kernel
theorem d_L_law_760 : decode code 760 = .ok (.i2l, 1) := by decide +kernel
theorem d_L_law_761 : decode code 761 = .ok (.ldc2_w 67, 3) := by decide +kernel
theorem d_L_law_764 : decode code 764 = .ok (.land, 1) := by decide +kernel
theorem d_L_law_765 : decode code 765 = .ok (.lor, 1) := by decide +kernel
theorem d_L_law_766 : decode code 766 = .ok (.aload_n 0, 1) := by decide +kernel
theorem d_L_law_767 : decode code 767 = .ok (.iload 4, 2) := by decide +kernel
theorem d_L_law_769 : decode code 769 = .ok (.bipush 6, 2) := by decide +kernel
theorem d_L_law_771 : decode code 771 = .ok (.iadd, 1) := by decide +kernel
theorem d_L_law_772 : decode code 772 = .ok (.iaload, 1) := by decide +kernel
theorem d_L_law_773 : decode code 773 = .ok (.aload_n 3, 1) := by decide +kernel
theorem d_L_law_774 : decode code 774 = .ok (.invokestatic 98, 3) := by decide +kernel
theorem d_L_law_777 : decode code 777 = .ok (.istore 5, 2) := by decide +kernel
