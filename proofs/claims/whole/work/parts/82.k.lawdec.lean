theorem d_Law_law_908 : decode b_Law_law 908 = .ok (.lload 6, 2) := by decide +kernel
theorem d_Law_law_910 : decode b_Law_law 910 = .ok (.lcmp, 1) := by decide +kernel
theorem d_Law_law_911 : decode b_Law_law 911 = .ok (.ifCond .eq 5, 3) := by decide +kernel
theorem d_Law_law_914 : decode b_Law_law 914 = .ok (.iconst 0, 1) := by decide +kernel
theorem d_Law_law_915 : decode b_Law_law 915 = .ok (.ireturn, 1) := by decide +kernel
theorem d_Law_law_916 : decode b_Law_law 916 = .ok (.goto 228, 3) := by decide +kernel
theorem d_Law_law_919 : decode b_Law_law 919 = .ok (.aload_n 1, 1) := by decide +kernel
theorem d_Law_law_920 : decode b_Law_law 920 = .ok (.aload_n 3, 1) := by decide +kernel
theorem d_Law_law_921 : decode b_Law_law 921 = .ok (.invokestatic 113, 3) := by decide +kernel
theorem d_Law_law_924 : decode b_Law_law 924 = .ok (.istore 5, 2) := by decide +kernel
theorem d_Law_law_926 : decode b_Law_law 926 = .ok (.aload_n 2, 1) := by decide +kernel
theorem d_Law_law_927 : decode b_Law_law 927 = .ok (.invokevirtual 115, 3) := by decide +kernel
theorem d_Law_law_930 : decode b_Law_law 930 = .ok (.istore 6, 2) := by decide +kernel
theorem d_Law_law_932 : decode b_Law_law 932 = .ok (.aload_n 2, 1) := by decide +kernel
theorem d_Law_law_933 : decode b_Law_law 933 = .ok (.invokevirtual 67, 3) := by decide +kernel
theorem d_Law_law_936 : decode b_Law_law 936 = .ok (.iload 5, 2) := by decide +kernel
theorem d_Law_law_938 : decode b_Law_law 938 = .ok (.if_icmp .eq 5, 3) := by decide +kernel
theorem d_Law_law_941 : decode b_Law_law 941 = .ok (.iconst 0, 1) := by decide +kernel
theorem d_Law_law_942 : decode b_Law_law 942 = .ok (.ireturn, 1) := by decide +kernel
theorem d_Law_law_943 : decode b_Law_law 943 = .ok (.iload 5, 2) := by decide +kernel
theorem d_Law_law_945 : decode b_Law_law 945 = .ok (.ifCond .ne 15, 3) := by decide +kernel
theorem d_Law_law_948 : decode b_Law_law 948 = .ok (.aload_n 3, 1) := by decide +kernel
theorem d_Law_law_949 : decode b_Law_law 949 = .ok (.iconst 0, 1) := by decide +kernel
theorem d_Law_law_950 : decode b_Law_law 950 = .ok (.laload, 1) := by decide +kernel
theorem d_Law_law_951 : decode b_Law_law 951 = .ok (.iload 6, 2) := by decide +kernel
theorem d_Law_law_953 : decode b_Law_law 953 = .ok (.i2l, 1) := by decide +kernel
theorem d_Law_law_954 : decode b_Law_law 954 = .ok (.lcmp, 1) := by decide +kernel
theorem d_Law_law_955 : decode b_Law_law 955 = .ok (.ifCond .eq 5, 3) := by decide +kernel
theorem d_Law_law_958 : decode b_Law_law 958 = .ok (.iconst 0, 1) := by decide +kernel
theorem d_Law_law_959 : decode b_Law_law 959 = .ok (.ireturn, 1) := by decide +kernel
theorem d_Law_law_960 : decode b_Law_law 960 = .ok (.goto 184, 3) := by decide +kernel
theorem d_Law_law_963 : decode b_Law_law 963 = .ok (.aload_n 1, 1) := by decide +kernel
theorem d_Law_law_964 : decode b_Law_law 964 = .ok (.aload_n 0, 1) := by decide +kernel
theorem d_Law_law_965 : decode b_Law_law 965 = .ok (.iload 4, 2) := by decide +kernel
theorem d_Law_law_967 : decode b_Law_law 967 = .ok (.iconst 1, 1) := by decide +kernel
theorem d_Law_law_968 : decode b_Law_law 968 = .ok (.iadd, 1) := by decide +kernel
theorem d_Law_law_969 : decode b_Law_law 969 = .ok (.iaload, 1) := by decide +kernel
theorem d_Law_law_970 : decode b_Law_law 970 = .ok (.aload_n 0, 1) := by decide +kernel
theorem d_Law_law_971 : decode b_Law_law 971 = .ok (.iload 4, 2) := by decide +kernel
theorem d_Law_law_973 : decode b_Law_law 973 = .ok (.iconst 2, 1) := by decide +kernel
theorem d_Law_law_974 : decode b_Law_law 974 = .ok (.iadd, 1) := by decide +kernel
theorem d_Law_law_975 : decode b_Law_law 975 = .ok (.iaload, 1) := by decide +kernel
theorem d_Law_law_976 : decode b_Law_law 976 = .ok (.aload_n 0, 1) := by decide +kernel
theorem d_Law_law_977 : decode b_Law_law 977 = .ok (.iload 4, 2) := by decide +kernel
theorem d_Law_law_979 : decode b_Law_law 979 = .ok (.iconst 3, 1) := by decide +kernel
theorem d_Law_law_980 : decode b_Law_law 980 = .ok (.iadd, 1) := by decide +kernel
theorem d_Law_law_981 : decode b_Law_law 981 = .ok (.iaload, 1) := by decide +kernel
theorem d_Law_law_982 : decode b_Law_law 982 = .ok (.aload_n 3, 1) := by decide +kernel
theorem d_Law_law_983 : decode b_Law_law 983 = .ok (.invokestatic 116, 3) := by decide +kernel
theorem d_Law_law_986 : decode b_Law_law 986 = .ok (.istore 5, 2) := by decide +kernel
theorem d_Law_law_988 : decode b_Law_law 988 = .ok (.aload_n 2, 1) := by decide +kernel
theorem d_Law_law_989 : decode b_Law_law 989 = .ok (.aload_n 0, 1) := by decide +kernel
theorem d_Law_law_990 : decode b_Law_law 990 = .ok (.iload 4, 2) := by decide +kernel
theorem d_Law_law_992 : decode b_Law_law 992 = .ok (.iconst 1, 1) := by decide +kernel
theorem d_Law_law_993 : decode b_Law_law 993 = .ok (.iadd, 1) := by decide +kernel
theorem d_Law_law_994 : decode b_Law_law 994 = .ok (.iaload, 1) := by decide +kernel
theorem d_Law_law_995 : decode b_Law_law 995 = .ok (.aload_n 0, 1) := by decide +kernel
theorem d_Law_law_996 : decode b_Law_law 996 = .ok (.iload 4, 2) := by decide +kernel
theorem d_Law_law_998 : decode b_Law_law 998 = .ok (.iconst 2, 1) := by decide +kernel
theorem d_Law_law_999 : decode b_Law_law 999 = .ok (.iadd, 1) := by decide +kernel
