theorem d_Law_law_1000 : decode b_Law_law 1000 = .ok (.iaload, 1) := by decide +kernel
theorem d_Law_law_1001 : decode b_Law_law 1001 = .ok (.aload_n 0, 1) := by decide +kernel
theorem d_Law_law_1002 : decode b_Law_law 1002 = .ok (.iload 4, 2) := by decide +kernel
theorem d_Law_law_1004 : decode b_Law_law 1004 = .ok (.iconst 3, 1) := by decide +kernel
theorem d_Law_law_1005 : decode b_Law_law 1005 = .ok (.iadd, 1) := by decide +kernel
theorem d_Law_law_1006 : decode b_Law_law 1006 = .ok (.iaload, 1) := by decide +kernel
theorem d_Law_law_1007 : decode b_Law_law 1007 = .ok (.invokevirtual 118, 3) := by decide +kernel
theorem d_Law_law_1010 : decode b_Law_law 1010 = .ok (.istore 6, 2) := by decide +kernel
theorem d_Law_law_1012 : decode b_Law_law 1012 = .ok (.aload_n 2, 1) := by decide +kernel
theorem d_Law_law_1013 : decode b_Law_law 1013 = .ok (.invokevirtual 67, 3) := by decide +kernel
theorem d_Law_law_1016 : decode b_Law_law 1016 = .ok (.iload 5, 2) := by decide +kernel
theorem d_Law_law_1018 : decode b_Law_law 1018 = .ok (.if_icmp .eq 5, 3) := by decide +kernel
theorem d_Law_law_1021 : decode b_Law_law 1021 = .ok (.iconst 0, 1) := by decide +kernel
theorem d_Law_law_1022 : decode b_Law_law 1022 = .ok (.ireturn, 1) := by decide +kernel
theorem d_Law_law_1023 : decode b_Law_law 1023 = .ok (.iload 5, 2) := by decide +kernel
theorem d_Law_law_1025 : decode b_Law_law 1025 = .ok (.ifCond .ne 15, 3) := by decide +kernel
theorem d_Law_law_1028 : decode b_Law_law 1028 = .ok (.aload_n 3, 1) := by decide +kernel
theorem d_Law_law_1029 : decode b_Law_law 1029 = .ok (.iconst 0, 1) := by decide +kernel
theorem d_Law_law_1030 : decode b_Law_law 1030 = .ok (.laload, 1) := by decide +kernel
theorem d_Law_law_1031 : decode b_Law_law 1031 = .ok (.iload 6, 2) := by decide +kernel
theorem d_Law_law_1033 : decode b_Law_law 1033 = .ok (.i2l, 1) := by decide +kernel
theorem d_Law_law_1034 : decode b_Law_law 1034 = .ok (.lcmp, 1) := by decide +kernel
theorem d_Law_law_1035 : decode b_Law_law 1035 = .ok (.ifCond .eq 5, 3) := by decide +kernel
theorem d_Law_law_1038 : decode b_Law_law 1038 = .ok (.iconst 0, 1) := by decide +kernel
theorem d_Law_law_1039 : decode b_Law_law 1039 = .ok (.ireturn, 1) := by decide +kernel
theorem d_Law_law_1040 : decode b_Law_law 1040 = .ok (.goto 104, 3) := by decide +kernel
theorem d_Law_law_1043 : decode b_Law_law 1043 = .ok (.aload_n 1, 1) := by decide +kernel
theorem d_Law_law_1044 : decode b_Law_law 1044 = .ok (.invokevirtual 119, 3) := by decide +kernel
theorem d_Law_law_1047 : decode b_Law_law 1047 = .ok (.aload_n 2, 1) := by decide +kernel
theorem d_Law_law_1048 : decode b_Law_law 1048 = .ok (.invokevirtual 123, 3) := by decide +kernel
theorem d_Law_law_1051 : decode b_Law_law 1051 = .ok (.if_icmp .eq 93, 3) := by decide +kernel
theorem d_Law_law_1054 : decode b_Law_law 1054 = .ok (.iconst 0, 1) := by decide +kernel
theorem d_Law_law_1055 : decode b_Law_law 1055 = .ok (.ireturn, 1) := by decide +kernel
theorem d_Law_law_1056 : decode b_Law_law 1056 = .ok (.aload_n 1, 1) := by decide +kernel
theorem d_Law_law_1057 : decode b_Law_law 1057 = .ok (.aload_n 0, 1) := by decide +kernel
theorem d_Law_law_1058 : decode b_Law_law 1058 = .ok (.iload 4, 2) := by decide +kernel
theorem d_Law_law_1060 : decode b_Law_law 1060 = .ok (.iconst 1, 1) := by decide +kernel
theorem d_Law_law_1061 : decode b_Law_law 1061 = .ok (.iadd, 1) := by decide +kernel
theorem d_Law_law_1062 : decode b_Law_law 1062 = .ok (.iaload, 1) := by decide +kernel
theorem d_Law_law_1063 : decode b_Law_law 1063 = .ok (.invokevirtual 124, 3) := by decide +kernel
theorem d_Law_law_1066 : decode b_Law_law 1066 = .ok (.aload_n 2, 1) := by decide +kernel
theorem d_Law_law_1067 : decode b_Law_law 1067 = .ok (.aload_n 0, 1) := by decide +kernel
theorem d_Law_law_1068 : decode b_Law_law 1068 = .ok (.iload 4, 2) := by decide +kernel
theorem d_Law_law_1070 : decode b_Law_law 1070 = .ok (.iconst 1, 1) := by decide +kernel
theorem d_Law_law_1071 : decode b_Law_law 1071 = .ok (.iadd, 1) := by decide +kernel
theorem d_Law_law_1072 : decode b_Law_law 1072 = .ok (.iaload, 1) := by decide +kernel
theorem d_Law_law_1073 : decode b_Law_law 1073 = .ok (.invokevirtual 127, 3) := by decide +kernel
theorem d_Law_law_1076 : decode b_Law_law 1076 = .ok (.if_icmp .eq 68, 3) := by decide +kernel
theorem d_Law_law_1079 : decode b_Law_law 1079 = .ok (.iconst 0, 1) := by decide +kernel
theorem d_Law_law_1080 : decode b_Law_law 1080 = .ok (.ireturn, 1) := by decide +kernel
theorem d_Law_law_1081 : decode b_Law_law 1081 = .ok (.aload_n 1, 1) := by decide +kernel
theorem d_Law_law_1082 : decode b_Law_law 1082 = .ok (.aload_n 0, 1) := by decide +kernel
theorem d_Law_law_1083 : decode b_Law_law 1083 = .ok (.iload 4, 2) := by decide +kernel
theorem d_Law_law_1085 : decode b_Law_law 1085 = .ok (.iconst 1, 1) := by decide +kernel
theorem d_Law_law_1086 : decode b_Law_law 1086 = .ok (.iadd, 1) := by decide +kernel
theorem d_Law_law_1087 : decode b_Law_law 1087 = .ok (.iaload, 1) := by decide +kernel
theorem d_Law_law_1088 : decode b_Law_law 1088 = .ok (.invokevirtual 128, 3) := by decide +kernel
theorem d_Law_law_1091 : decode b_Law_law 1091 = .ok (.aload_n 2, 1) := by decide +kernel
theorem d_Law_law_1092 : decode b_Law_law 1092 = .ok (.aload_n 0, 1) := by decide +kernel
theorem d_Law_law_1093 : decode b_Law_law 1093 = .ok (.iload 4, 2) := by decide +kernel
