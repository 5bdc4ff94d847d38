theorem d_Law_law_722 : decode b_Law_law 722 = .ok (.aload_n 0, 1) := by decide +kernel
theorem d_Law_law_723 : decode b_Law_law 723 = .ok (.iload 4, 2) := by decide +kernel
theorem d_Law_law_725 : decode b_Law_law 725 = .ok (.iconst 1, 1) := by decide +kernel
theorem d_Law_law_726 : decode b_Law_law 726 = .ok (.iadd, 1) := by decide +kernel
theorem d_Law_law_727 : decode b_Law_law 727 = .ok (.iaload, 1) := by decide +kernel
theorem d_Law_law_728 : decode b_Law_law 728 = .ok (.aload_n 0, 1) := by decide +kernel
theorem d_Law_law_729 : decode b_Law_law 729 = .ok (.iload 4, 2) := by decide +kernel
theorem d_Law_law_731 : decode b_Law_law 731 = .ok (.iconst 2, 1) := by decide +kernel
theorem d_Law_law_732 : decode b_Law_law 732 = .ok (.iadd, 1) := by decide +kernel
theorem d_Law_law_733 : decode b_Law_law 733 = .ok (.iaload, 1) := by decide +kernel
theorem d_Law_law_734 : decode b_Law_law 734 = .ok (.aload_n 3, 1) := by decide +kernel
theorem d_Law_law_735 : decode b_Law_law 735 = .ok (.invokestatic 104, 3) := by decide +kernel
theorem d_Law_law_738 : decode b_Law_law 738 = .ok (.istore 5, 2) := by decide +kernel
theorem d_Law_law_740 : decode b_Law_law 740 = .ok (.aload_n 2, 1) := by decide +kernel
theorem d_Law_law_741 : decode b_Law_law 741 = .ok (.aload_n 0, 1) := by decide +kernel
theorem d_Law_law_742 : decode b_Law_law 742 = .ok (.iload 4, 2) := by decide +kernel
theorem d_Law_law_744 : decode b_Law_law 744 = .ok (.iconst 1, 1) := by decide +kernel
theorem d_Law_law_745 : decode b_Law_law 745 = .ok (.iadd, 1) := by decide +kernel
theorem d_Law_law_746 : decode b_Law_law 746 = .ok (.iaload, 1) := by decide +kernel
theorem d_Law_law_747 : decode b_Law_law 747 = .ok (.aload_n 0, 1) := by decide +kernel
theorem d_Law_law_748 : decode b_Law_law 748 = .ok (.iload 4, 2) := by decide +kernel
theorem d_Law_law_750 : decode b_Law_law 750 = .ok (.iconst 2, 1) := by decide +kernel
theorem d_Law_law_751 : decode b_Law_law 751 = .ok (.iadd, 1) := by decide +kernel
theorem d_Law_law_752 : decode b_Law_law 752 = .ok (.iaload, 1) := by decide +kernel
theorem d_Law_law_753 : decode b_Law_law 753 = .ok (.invokevirtual 106, 3) := by decide +kernel
theorem d_Law_law_756 : decode b_Law_law 756 = .ok (.istore 6, 2) := by decide +kernel
theorem d_Law_law_758 : decode b_Law_law 758 = .ok (.aload_n 2, 1) := by decide +kernel
theorem d_Law_law_759 : decode b_Law_law 759 = .ok (.invokevirtual 67, 3) := by decide +kernel
theorem d_Law_law_762 : decode b_Law_law 762 = .ok (.iload 5, 2) := by decide +kernel
theorem d_Law_law_764 : decode b_Law_law 764 = .ok (.if_icmp .eq 5, 3) := by decide +kernel
theorem d_Law_law_767 : decode b_Law_law 767 = .ok (.iconst 0, 1) := by decide +kernel
theorem d_Law_law_768 : decode b_Law_law 768 = .ok (.ireturn, 1) := by decide +kernel
theorem d_Law_law_769 : decode b_Law_law 769 = .ok (.iload 5, 2) := by decide +kernel
theorem d_Law_law_771 : decode b_Law_law 771 = .ok (.ifCond .ne 22, 3) := by decide +kernel
theorem d_Law_law_774 : decode b_Law_law 774 = .ok (.aload_n 3, 1) := by decide +kernel
theorem d_Law_law_775 : decode b_Law_law 775 = .ok (.iconst 0, 1) := by decide +kernel
theorem d_Law_law_776 : decode b_Law_law 776 = .ok (.laload, 1) := by decide +kernel
theorem d_Law_law_777 : decode b_Law_law 777 = .ok (.iload 6, 2) := by decide +kernel
theorem d_Law_law_779 : decode b_Law_law 779 = .ok (.ifCond .eq 7, 3) := by decide +kernel
theorem d_Law_law_782 : decode b_Law_law 782 = .ok (.lconst 1, 1) := by decide +kernel
theorem d_Law_law_783 : decode b_Law_law 783 = .ok (.goto 4, 3) := by decide +kernel
theorem d_Law_law_786 : decode b_Law_law 786 = .ok (.lconst 0, 1) := by decide +kernel
theorem d_Law_law_787 : decode b_Law_law 787 = .ok (.lcmp, 1) := by decide +kernel
theorem d_Law_law_788 : decode b_Law_law 788 = .ok (.ifCond .eq 5, 3) := by decide +kernel
theorem d_Law_law_791 : decode b_Law_law 791 = .ok (.iconst 0, 1) := by decide +kernel
theorem d_Law_law_792 : decode b_Law_law 792 = .ok (.ireturn, 1) := by decide +kernel
theorem d_Law_law_793 : decode b_Law_law 793 = .ok (.goto 351, 3) := by decide +kernel
theorem d_Law_law_796 : decode b_Law_law 796 = .ok (.aload_n 1, 1) := by decide +kernel
theorem d_Law_law_797 : decode b_Law_law 797 = .ok (.aload_n 0, 1) := by decide +kernel
theorem d_Law_law_798 : decode b_Law_law 798 = .ok (.iload 4, 2) := by decide +kernel
theorem d_Law_law_800 : decode b_Law_law 800 = .ok (.iconst 1, 1) := by decide +kernel
theorem d_Law_law_801 : decode b_Law_law 801 = .ok (.iadd, 1) := by decide +kernel
theorem d_Law_law_802 : decode b_Law_law 802 = .ok (.iaload, 1) := by decide +kernel
theorem d_Law_law_803 : decode b_Law_law 803 = .ok (.aload_n 3, 1) := by decide +kernel
theorem d_Law_law_804 : decode b_Law_law 804 = .ok (.invokestatic 107, 3) := by decide +kernel
theorem d_Law_law_807 : decode b_Law_law 807 = .ok (.istore 5, 2) := by decide +kernel
theorem d_Law_law_809 : decode b_Law_law 809 = .ok (.aload_n 2, 1) := by decide +kernel
theorem d_Law_law_810 : decode b_Law_law 810 = .ok (.aload_n 0, 1) := by decide +kernel
theorem d_Law_law_811 : decode b_Law_law 811 = .ok (.iload 4, 2) := by decide +kernel
theorem d_Law_law_813 : decode b_Law_law 813 = .ok (.iconst 1, 1) := by decide +kernel
