theorem dc_L_law_676 : decode bc_L_law 676 = .ok (.iaload, 1) := by decide +kernel
theorem dc_L_law_677 : decode bc_L_law 677 = .ok (.aload_n 0, 1) := by decide +kernel
theorem dc_L_law_678 : decode bc_L_law 678 = .ok (.iload 4, 2) := by decide +kernel
theorem dc_L_law_680 : decode bc_L_law 680 = .ok (.iconst 3, 1) := by decide +kernel
theorem dc_L_law_681 : decode bc_L_law 681 = .ok (.iadd, 1) := by decide +kernel
theorem dc_L_law_682 : decode bc_L_law 682 = .ok (.iaload, 1) := by decide +kernel
theorem dc_L_law_683 : decode bc_L_law 683 = .ok (.i2l, 1) := by decide +kernel
theorem dc_L_law_684 : decode bc_L_law 684 = .ok (.bipush 32, 2) := by decide +kernel
theorem dc_L_law_686 : decode bc_L_law 686 = .ok (.lshl, 1) := by decide +kernel
theorem dc_L_law_687 : decode bc_L_law 687 = .ok (.aload_n 0, 1) := by decide +kernel
theorem dc_L_law_688 : decode bc_L_law 688 = .ok (.iload 4, 2) := by decide +kernel
theorem dc_L_law_690 : decode bc_L_law 690 = .ok (.iconst 4, 1) := by decide +kernel
theorem dc_L_law_691 : decode bc_L_law 691 = .ok (.iadd, 1) := by decide +kernel
theorem dc_L_law_692 : decode bc_L_law 692 = .ok (.iaload, 1) := by decide +kernel
theorem dc_L_law_693 : decode bc_L_law 693 = .ok (.i2l, 1) := by decide +kernel
theorem dc_L_law_694 : decode bc_L_law 694 = .ok (.ldc2_w 113, 3) := by decide +kernel
theorem dc_L_law_697 : decode bc_L_law 697 = .ok (.land, 1) := by decide +kernel
theorem dc_L_law_698 : decode bc_L_law 698 = .ok (.lor, 1) := by decide +kernel
theorem dc_L_law_699 : decode bc_L_law 699 = .ok (.aload_n 3, 1) := by decide +kernel
theorem dc_L_law_700 : decode bc_L_law 700 = .ok (.invokestatic 115, 3) := by decide +kernel
theorem dc_L_law_703 : decode bc_L_law 703 = .ok (.istore 5, 2) := by decide +kernel
theorem dc_L_law_705 : decode bc_L_law 705 = .ok (.aload_n 2, 1) := by decide +kernel
theorem dc_L_law_706 : decode bc_L_law 706 = .ok (.aload_n 0, 1) := by decide +kernel
theorem dc_L_law_707 : decode bc_L_law 707 = .ok (.iload 4, 2) := by decide +kernel
theorem dc_L_law_709 : decode bc_L_law 709 = .ok (.iconst 1, 1) := by decide +kernel
theorem dc_L_law_710 : decode bc_L_law 710 = .ok (.iadd, 1) := by decide +kernel
theorem dc_L_law_711 : decode bc_L_law 711 = .ok (.iaload, 1) := by decide +kernel
theorem dc_L_law_712 : decode bc_L_law 712 = .ok (.aload_n 0, 1) := by decide +kernel
theorem dc_L_law_713 : decode bc_L_law 713 = .ok (.iload 4, 2) := by decide +kernel
theorem dc_L_law_715 : decode bc_L_law 715 = .ok (.iconst 2, 1) := by decide +kernel
theorem dc_L_law_716 : decode bc_L_law 716 = .ok (.iadd, 1) := by decide +kernel
theorem dc_L_law_717 : decode bc_L_law 717 = .ok (.iaload, 1) := by decide +kernel
theorem dc_L_law_718 : decode bc_L_law 718 = .ok (.aload_n 0, 1) := by decide +kernel
theorem dc_L_law_719 : decode bc_L_law 719 = .ok (.iload 4, 2) := by decide +kernel
theorem dc_L_law_721 : decode bc_L_law 721 = .ok (.iconst 3, 1) := by decide +kernel
theorem dc_L_law_722 : decode bc_L_law 722 = .ok (.iadd, 1) := by decide +kernel
theorem dc_L_law_723 : decode bc_L_law 723 = .ok (.iaload, 1) := by decide +kernel
theorem dc_L_law_724 : decode bc_L_law 724 = .ok (.i2l, 1) := by decide +kernel
theorem dc_L_law_725 : decode bc_L_law 725 = .ok (.bipush 32, 2) := by decide +kernel
theorem dc_L_law_727 : decode bc_L_law 727 = .ok (.lshl, 1) := by decide +kernel
theorem dc_L_law_728 : decode bc_L_law 728 = .ok (.aload_n 0, 1) := by decide +kernel
theorem dc_L_law_729 : decode bc_L_law 729 = .ok (.iload 4, 2) := by decide +kernel
theorem dc_L_law_731 : decode bc_L_law 731 = .ok (.iconst 4, 1) := by decide +kernel
theorem dc_L_law_732 : decode bc_L_law 732 = .ok (.iadd, 1) := by decide +kernel
theorem dc_L_law_733 : decode bc_L_law 733 = .ok (.iaload, 1) := by decide +kernel
theorem dc_L_law_734 : decode bc_L_law 734 = .ok (.i2l, 1) := by decide +kernel
theorem dc_L_law_735 : decode bc_L_law 735 = .ok (.ldc2_w 113, 3) := by decide +kernel
theorem dc_L_law_738 : decode bc_L_law 738 = .ok (.land, 1) := by decide +kernel
theorem dc_L_law_739 : decode bc_L_law 739 = .ok (.lor, 1) := by decide +kernel
theorem dc_L_law_740 : decode bc_L_law 740 = .ok (.invokevirtual 118, 3) := by decide +kernel
theorem dc_L_law_743 : decode bc_L_law 743 = .ok (.istore 6, 2) := by decide +kernel
theorem dc_L_law_745 : decode bc_L_law 745 = .ok (.aload_n 2, 1) := by decide +kernel
theorem dc_L_law_746 : decode bc_L_law 746 = .ok (.invokevirtual 83, 3) := by decide +kernel
theorem dc_L_law_749 : decode bc_L_law 749 = .ok (.iload 5, 2) := by decide +kernel
theorem dc_L_law_751 : decode bc_L_law 751 = .ok (.if_icmp .eq 5, 3) := by decide +kernel
theorem dc_L_law_754 : decode bc_L_law 754 = .ok (.iconst 0, 1) := by decide +kernel
theorem dc_L_law_755 : decode bc_L_law 755 = .ok (.ireturn, 1) := by decide +kernel
theorem dc_L_law_756 : decode bc_L_law 756 = .ok (.iload 5, 2) := by decide +kernel
theorem dc_L_law_758 : decode bc_L_law 758 = .ok (.ifCond .ne 22, 3) := by decide +kernel
theorem dc_L_law_761 : decode bc_L_law 761 = .ok (.aload_n 3, 1) := by decide +kernel
theorem dc_L_law_762 : decode bc_L_law 762 = .ok (.iconst 0, 1) := by decide +kernel
theorem dc_L_law_763 : decode bc_L_law 763 = .ok (.laload, 1) := by decide +kernel
theorem dc_L_law_764 : decode bc_L_law 764 = .ok (.iload 6, 2) := by decide +kernel
theorem dc_L_law_766 : decode bc_L_law 766 = .ok (.ifCond .eq 7, 3) := by decide +kernel
theorem dc_L_law_769 : decode bc_L_law 769 = .ok (.lconst 1, 1) := by decide +kernel
theorem dc_L_law_770 : decode bc_L_law 770 = .ok (.goto 4, 3) := by decide +kernel
theorem dc_L_law_773 : decode bc_L_law 773 = .ok (.lconst 0, 1) := by decide +kernel
theorem dc_L_law_774 : decode bc_L_law 774 = .ok (.lcmp, 1) := by decide +kernel
theorem dc_L_law_775 : decode bc_L_law 775 = .ok (.ifCond .eq 5, 3) := by decide +kernel
theorem dc_L_law_778 : decode bc_L_law 778 = .ok (.iconst 0, 1) := by decide +kernel
theorem dc_L_law_779 : decode bc_L_law 779 = .ok (.ireturn, 1) := by decide +kernel
theorem dc_L_law_780 : decode bc_L_law 780 = .ok (.goto 469, 3) := by decide +kernel
theorem dc_L_law_783 : decode bc_L_law 783 = .ok (.aload_n 1, 1) := by decide +kernel
theorem dc_L_law_784 : decode bc_L_law 784 = .ok (.aload_n 0, 1) := by decide +kernel
theorem dc_L_law_785 : decode bc_L_law 785 = .ok (.iload 4, 2) := by decide +kernel
theorem dc_L_law_787 : decode bc_L_law 787 = .ok (.iconst 1, 1) := by decide +kernel
theorem dc_L_law_788 : decode bc_L_law 788 = .ok (.iadd, 1) := by decide +kernel
theorem dc_L_law_789 : decode bc_L_law 789 = .ok (.iaload, 1) := by decide +kernel
theorem dc_L_law_790 : decode bc_L_law 790 = .ok (.aload_n 0, 1) := by decide +kernel
theorem dc_L_law_791 : decode bc_L_law 791 = .ok (.iload 4, 2) := by decide +kernel
theorem dc_L_law_793 : decode bc_L_law 793 = .ok (.iconst 2, 1) := by decide +kernel
theorem dc_L_law_794 : decode bc_L_law 794 = .ok (.iadd, 1) := by decide +kernel
theorem dc_L_law_795 : decode bc_L_law 795 = .ok (.iaload, 1) := by decide +kernel
theorem dc_L_law_796 : decode bc_L_law 796 = .ok (.aload_n 3, 1) := by decide +kernel
theorem dc_L_law_797 : decode bc_L_law 797 = .ok (.invokestatic 119, 3) := by decide +kernel
theorem dc_L_law_800 : decode bc_L_law 800 = .ok (.istore 5, 2) := by decide +kernel
theorem dc_L_law_802 : decode bc_L_law 802 = .ok (.aload_n 2, 1) := by decide +kernel
theorem dc_L_law_803 : decode bc_L_law 803 = .ok (.aload_n 0, 1) := by decide +kernel
theorem dc_L_law_804 : decode bc_L_law 804 = .ok (.iload 4, 2) := by decide +kernel
theorem dc_L_law_806 : decode bc_L_law 806 = .ok (.iconst 1, 1) := by decide +kernel
theorem dc_L_law_807 : decode bc_L_law 807 = .ok (.iadd, 1) := by decide +kernel
theorem dc_L_law_808 : decode bc_L_law 808 = .ok (.iaload, 1) := by decide +kernel
theorem dc_L_law_809 : decode bc_L_law 809 = .ok (.aload_n 0, 1) := by decide +kernel
theorem dc_L_law_810 : decode bc_L_law 810 = .ok (.iload 4, 2) := by decide +kernel
theorem dc_L_law_812 : decode bc_L_law 812 = .ok (.iconst 2, 1) := by decide +kernel
