theorem d_Law_law_1095 : decode b_Law_law 1095 = .ok (.iconst 1, 1) := by decide +kernel
theorem d_Law_law_1096 : decode b_Law_law 1096 = .ok (.iadd, 1) := by decide +kernel
theorem d_Law_law_1097 : decode b_Law_law 1097 = .ok (.iaload, 1) := by decide +kernel
theorem d_Law_law_1098 : decode b_Law_law 1098 = .ok (.invokevirtual 132, 3) := by decide +kernel
theorem d_Law_law_1101 : decode b_Law_law 1101 = .ok (.if_icmp .eq 43, 3) := by decide +kernel
theorem d_Law_law_1104 : decode b_Law_law 1104 = .ok (.iconst 0, 1) := by decide +kernel
theorem d_Law_law_1105 : decode b_Law_law 1105 = .ok (.ireturn, 1) := by decide +kernel
theorem d_Law_law_1106 : decode b_Law_law 1106 = .ok (.aload_n 1, 1) := by decide +kernel
theorem d_Law_law_1107 : decode b_Law_law 1107 = .ok (.invokevirtual 133, 3) := by decide +kernel
theorem d_Law_law_1110 : decode b_Law_law 1110 = .ok (.aload_n 2, 1) := by decide +kernel
theorem d_Law_law_1111 : decode b_Law_law 1111 = .ok (.invokevirtual 136, 3) := by decide +kernel
theorem d_Law_law_1114 : decode b_Law_law 1114 = .ok (.if_icmp .eq 30, 3) := by decide +kernel
theorem d_Law_law_1117 : decode b_Law_law 1117 = .ok (.iconst 0, 1) := by decide +kernel
theorem d_Law_law_1118 : decode b_Law_law 1118 = .ok (.ireturn, 1) := by decide +kernel
theorem d_Law_law_1119 : decode b_Law_law 1119 = .ok (.aload_n 1, 1) := by decide +kernel
theorem d_Law_law_1120 : decode b_Law_law 1120 = .ok (.aload_n 0, 1) := by decide +kernel
theorem d_Law_law_1121 : decode b_Law_law 1121 = .ok (.iload 4, 2) := by decide +kernel
theorem d_Law_law_1123 : decode b_Law_law 1123 = .ok (.iconst 1, 1) := by decide +kernel
theorem d_Law_law_1124 : decode b_Law_law 1124 = .ok (.iadd, 1) := by decide +kernel
theorem d_Law_law_1125 : decode b_Law_law 1125 = .ok (.iaload, 1) := by decide +kernel
theorem d_Law_law_1126 : decode b_Law_law 1126 = .ok (.invokevirtual 137, 3) := by decide +kernel
theorem d_Law_law_1129 : decode b_Law_law 1129 = .ok (.aload_n 2, 1) := by decide +kernel
theorem d_Law_law_1130 : decode b_Law_law 1130 = .ok (.aload_n 0, 1) := by decide +kernel
theorem d_Law_law_1131 : decode b_Law_law 1131 = .ok (.iload 4, 2) := by decide +kernel
theorem d_Law_law_1133 : decode b_Law_law 1133 = .ok (.iconst 1, 1) := by decide +kernel
theorem d_Law_law_1134 : decode b_Law_law 1134 = .ok (.iadd, 1) := by decide +kernel
theorem d_Law_law_1135 : decode b_Law_law 1135 = .ok (.iaload, 1) := by decide +kernel
theorem d_Law_law_1136 : decode b_Law_law 1136 = .ok (.invokevirtual 140, 3) := by decide +kernel
theorem d_Law_law_1139 : decode b_Law_law 1139 = .ok (.if_icmp .eq 5, 3) := by decide +kernel
theorem d_Law_law_1142 : decode b_Law_law 1142 = .ok (.iconst 0, 1) := by decide +kernel
theorem d_Law_law_1143 : decode b_Law_law 1143 = .ok (.ireturn, 1) := by decide +kernel
theorem d_Law_law_1144 : decode b_Law_law 1144 = .ok (.iinc 4 4, 3) := by decide +kernel
theorem d_Law_law_1147 : decode b_Law_law 1147 = .ok (.goto (-1124), 3) := by decide +kernel
theorem d_Law_law_1150 : decode b_Law_law 1150 = .ok (.iconst 1, 1) := by decide +kernel
theorem d_Law_law_1151 : decode b_Law_law 1151 = .ok (.ireturn, 1) := by decide +kernel
