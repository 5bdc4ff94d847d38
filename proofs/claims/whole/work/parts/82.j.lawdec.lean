theorem d_Law_law_814 : decode b_Law_law 814 = .ok (.iadd, 1) := by decide +kernel
theorem d_Law_law_815 : decode b_Law_law 815 = .ok (.iaload, 1) := by decide +kernel
theorem d_Law_law_816 : decode b_Law_law 816 = .ok (.invokevirtual 109, 3) := by decide +kernel
theorem d_Law_law_819 : decode b_Law_law 819 = .ok (.istore 6, 2) := by decide +kernel
theorem d_Law_law_821 : decode b_Law_law 821 = .ok (.aload_n 2, 1) := by decide +kernel
theorem d_Law_law_822 : decode b_Law_law 822 = .ok (.invokevirtual 67, 3) := by decide +kernel
theorem d_Law_law_825 : decode b_Law_law 825 = .ok (.iload 5, 2) := by decide +kernel
theorem d_Law_law_827 : decode b_Law_law 827 = .ok (.if_icmp .eq 5, 3) := by decide +kernel
theorem d_Law_law_830 : decode b_Law_law 830 = .ok (.iconst 0, 1) := by decide +kernel
theorem d_Law_law_831 : decode b_Law_law 831 = .ok (.ireturn, 1) := by decide +kernel
theorem d_Law_law_832 : decode b_Law_law 832 = .ok (.iload 5, 2) := by decide +kernel
theorem d_Law_law_834 : decode b_Law_law 834 = .ok (.ifCond .ne 15, 3) := by decide +kernel
theorem d_Law_law_837 : decode b_Law_law 837 = .ok (.aload_n 3, 1) := by decide +kernel
theorem d_Law_law_838 : decode b_Law_law 838 = .ok (.iconst 0, 1) := by decide +kernel
theorem d_Law_law_839 : decode b_Law_law 839 = .ok (.laload, 1) := by decide +kernel
theorem d_Law_law_840 : decode b_Law_law 840 = .ok (.iload 6, 2) := by decide +kernel
theorem d_Law_law_842 : decode b_Law_law 842 = .ok (.i2l, 1) := by decide +kernel
theorem d_Law_law_843 : decode b_Law_law 843 = .ok (.lcmp, 1) := by decide +kernel
theorem d_Law_law_844 : decode b_Law_law 844 = .ok (.ifCond .eq 5, 3) := by decide +kernel
theorem d_Law_law_847 : decode b_Law_law 847 = .ok (.iconst 0, 1) := by decide +kernel
theorem d_Law_law_848 : decode b_Law_law 848 = .ok (.ireturn, 1) := by decide +kernel
theorem d_Law_law_849 : decode b_Law_law 849 = .ok (.goto 295, 3) := by decide +kernel
theorem d_Law_law_852 : decode b_Law_law 852 = .ok (.aload_n 1, 1) := by decide +kernel
theorem d_Law_law_853 : decode b_Law_law 853 = .ok (.aload_n 0, 1) := by decide +kernel
theorem d_Law_law_854 : decode b_Law_law 854 = .ok (.iload 4, 2) := by decide +kernel
theorem d_Law_law_856 : decode b_Law_law 856 = .ok (.iconst 1, 1) := by decide +kernel
theorem d_Law_law_857 : decode b_Law_law 857 = .ok (.iadd, 1) := by decide +kernel
theorem d_Law_law_858 : decode b_Law_law 858 = .ok (.iaload, 1) := by decide +kernel
theorem d_Law_law_859 : decode b_Law_law 859 = .ok (.aload_n 0, 1) := by decide +kernel
theorem d_Law_law_860 : decode b_Law_law 860 = .ok (.iload 4, 2) := by decide +kernel
theorem d_Law_law_862 : decode b_Law_law 862 = .ok (.iconst 2, 1) := by decide +kernel
theorem d_Law_law_863 : decode b_Law_law 863 = .ok (.iadd, 1) := by decide +kernel
theorem d_Law_law_864 : decode b_Law_law 864 = .ok (.iaload, 1) := by decide +kernel
theorem d_Law_law_865 : decode b_Law_law 865 = .ok (.aload_n 3, 1) := by decide +kernel
theorem d_Law_law_866 : decode b_Law_law 866 = .ok (.invokestatic 110, 3) := by decide +kernel
theorem d_Law_law_869 : decode b_Law_law 869 = .ok (.istore 5, 2) := by decide +kernel
theorem d_Law_law_871 : decode b_Law_law 871 = .ok (.aload_n 2, 1) := by decide +kernel
theorem d_Law_law_872 : decode b_Law_law 872 = .ok (.aload_n 0, 1) := by decide +kernel
theorem d_Law_law_873 : decode b_Law_law 873 = .ok (.iload 4, 2) := by decide +kernel
theorem d_Law_law_875 : decode b_Law_law 875 = .ok (.iconst 1, 1) := by decide +kernel
theorem d_Law_law_876 : decode b_Law_law 876 = .ok (.iadd, 1) := by decide +kernel
theorem d_Law_law_877 : decode b_Law_law 877 = .ok (.iaload, 1) := by decide +kernel
theorem d_Law_law_878 : decode b_Law_law 878 = .ok (.aload_n 0, 1) := by decide +kernel
theorem d_Law_law_879 : decode b_Law_law 879 = .ok (.iload 4, 2) := by decide +kernel
theorem d_Law_law_881 : decode b_Law_law 881 = .ok (.iconst 2, 1) := by decide +kernel
theorem d_Law_law_882 : decode b_Law_law 882 = .ok (.iadd, 1) := by decide +kernel
theorem d_Law_law_883 : decode b_Law_law 883 = .ok (.iaload, 1) := by decide +kernel
theorem d_Law_law_884 : decode b_Law_law 884 = .ok (.invokevirtual 112, 3) := by decide +kernel
theorem d_Law_law_887 : decode b_Law_law 887 = .ok (.lstore 6, 2) := by decide +kernel
theorem d_Law_law_889 : decode b_Law_law 889 = .ok (.aload_n 2, 1) := by decide +kernel
theorem d_Law_law_890 : decode b_Law_law 890 = .ok (.invokevirtual 67, 3) := by decide +kernel
theorem d_Law_law_893 : decode b_Law_law 893 = .ok (.iload 5, 2) := by decide +kernel
theorem d_Law_law_895 : decode b_Law_law 895 = .ok (.if_icmp .eq 5, 3) := by decide +kernel
theorem d_Law_law_898 : decode b_Law_law 898 = .ok (.iconst 0, 1) := by decide +kernel
theorem d_Law_law_899 : decode b_Law_law 899 = .ok (.ireturn, 1) := by decide +kernel
theorem d_Law_law_900 : decode b_Law_law 900 = .ok (.iload 5, 2) := by decide +kernel
theorem d_Law_law_902 : decode b_Law_law 902 = .ok (.ifCond .ne 14, 3) := by decide +kernel
theorem d_Law_law_905 : decode b_Law_law 905 = .ok (.aload_n 3, 1) := by decide +kernel
theorem d_Law_law_906 : decode b_Law_law 906 = .ok (.iconst 0, 1) := by decide +kernel
theorem d_Law_law_907 : decode b_Law_law 907 = .ok (.laload, 1) := by decide +kernel
