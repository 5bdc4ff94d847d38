abbrev b_Law_law : ByteArray := code
theorem d_Law_law_0 : decode b_Law_law 0 = .ok (.new 8, 3) := by decide +kernel
theorem d_Law_law_3 : decode b_Law_law 3 = .ok (.dup, 1) := by decide +kernel
theorem d_Law_law_4 : decode b_Law_law 4 = .ok (.invokespecial 57, 3) := by decide +kernel
theorem d_Law_law_7 : decode b_Law_law 7 = .ok (.astore_n 1, 1) := by decide +kernel
theorem d_Law_law_8 : decode b_Law_law 8 = .ok (.new 58, 3) := by decide +kernel
theorem d_Law_law_11 : decode b_Law_law 11 = .ok (.dup, 1) := by decide +kernel
theorem d_Law_law_12 : decode b_Law_law 12 = .ok (.invokespecial 60, 3) := by decide +kernel
theorem d_Law_law_15 : decode b_Law_law 15 = .ok (.astore_n 2, 1) := by decide +kernel
theorem d_Law_law_16 : decode b_Law_law 16 = .ok (.iconst 1, 1) := by decide +kernel
theorem d_Law_law_17 : decode b_Law_law 17 = .ok (.newarray .long, 2) := by decide +kernel
theorem d_Law_law_19 : decode b_Law_law 19 = .ok (.astore_n 3, 1) := by decide +kernel
theorem d_Law_law_20 : decode b_Law_law 20 = .ok (.iconst 0, 1) := by decide +kernel
theorem d_Law_law_21 : decode b_Law_law 21 = .ok (.istore 4, 2) := by decide +kernel
theorem d_Law_law_23 : decode b_Law_law 23 = .ok (.iload 4, 2) := by decide +kernel
theorem d_Law_law_25 : decode b_Law_law 25 = .ok (.aload_n 0, 1) := by decide +kernel
theorem d_Law_law_26 : decode b_Law_law 26 = .ok (.arraylength, 1) := by decide +kernel
theorem d_Law_law_27 : decode b_Law_law 27 = .ok (.iconst 4, 1) := by decide +kernel
theorem d_Law_law_28 : decode b_Law_law 28 = .ok (.isub, 1) := by decide +kernel
theorem d_Law_law_29 : decode b_Law_law 29 = .ok (.if_icmp .gt 1121, 3) := by decide +kernel
theorem d_Law_law_32 : decode b_Law_law 32 = .ok (.aload_n 0, 1) := by decide +kernel
theorem d_Law_law_33 : decode b_Law_law 33 = .ok (.iload 4, 2) := by decide +kernel
theorem d_Law_law_35 : decode b_Law_law 35 = .ok (.iaload, 1) := by decide +kernel
theorem d_Law_law_36 : decode b_Law_law 36 = .ok (.bipush 31, 2) := by decide +kernel
theorem d_Law_law_38 : decode b_Law_law 38 = .ok (.iand, 1) := by decide +kernel
theorem d_Law_law_39 : decode b_Law_law 39 = .ok (.tableswitch 1105 0 18 #[89, 133, 189, 245, 341, 378, 458, 527, 607, 682, 757, 813, 880, 924, 1004, 1017, 1042, 1067, 1080], 89) := by decide +kernel
theorem d_Law_law_128 : decode b_Law_law 128 = .ok (.aload_n 1, 1) := by decide +kernel
theorem d_Law_law_129 : decode b_Law_law 129 = .ok (.aload_n 3, 1) := by decide +kernel
theorem d_Law_law_130 : decode b_Law_law 130 = .ok (.invokestatic 61, 3) := by decide +kernel
theorem d_Law_law_133 : decode b_Law_law 133 = .ok (.istore 5, 2) := by decide +kernel
theorem d_Law_law_135 : decode b_Law_law 135 = .ok (.aload_n 2, 1) := by decide +kernel
theorem d_Law_law_136 : decode b_Law_law 136 = .ok (.invokevirtual 66, 3) := by decide +kernel
theorem d_Law_law_139 : decode b_Law_law 139 = .ok (.istore 6, 2) := by decide +kernel
theorem d_Law_law_141 : decode b_Law_law 141 = .ok (.aload_n 2, 1) := by decide +kernel
theorem d_Law_law_142 : decode b_Law_law 142 = .ok (.invokevirtual 67, 3) := by decide +kernel
theorem d_Law_law_145 : decode b_Law_law 145 = .ok (.iload 5, 2) := by decide +kernel
theorem d_Law_law_147 : decode b_Law_law 147 = .ok (.if_icmp .eq 5, 3) := by decide +kernel
theorem d_Law_law_150 : decode b_Law_law 150 = .ok (.iconst 0, 1) := by decide +kernel
theorem d_Law_law_151 : decode b_Law_law 151 = .ok (.ireturn, 1) := by decide +kernel
theorem d_Law_law_152 : decode b_Law_law 152 = .ok (.iload 5, 2) := by decide +kernel
theorem d_Law_law_154 : decode b_Law_law 154 = .ok (.ifCond .ne 15, 3) := by decide +kernel
theorem d_Law_law_157 : decode b_Law_law 157 = .ok (.aload_n 3, 1) := by decide +kernel
theorem d_Law_law_158 : decode b_Law_law 158 = .ok (.iconst 0, 1) := by decide +kernel
theorem d_Law_law_159 : decode b_Law_law 159 = .ok (.laload, 1) := by decide +kernel
theorem d_Law_law_160 : decode b_Law_law 160 = .ok (.iload 6, 2) := by decide +kernel
theorem d_Law_law_162 : decode b_Law_law 162 = .ok (.i2l, 1) := by decide +kernel
theorem d_Law_law_163 : decode b_Law_law 163 = .ok (.lcmp, 1) := by decide +kernel
theorem d_Law_law_164 : decode b_Law_law 164 = .ok (.ifCond .eq 5, 3) := by decide +kernel
theorem d_Law_law_167 : decode b_Law_law 167 = .ok (.iconst 0, 1) := by decide +kernel
theorem d_Law_law_168 : decode b_Law_law 168 = .ok (.ireturn, 1) := by decide +kernel
theorem d_Law_law_169 : decode b_Law_law 169 = .ok (.goto 975, 3) := by decide +kernel
theorem d_Law_law_172 : decode b_Law_law 172 = .ok (.aload_n 1, 1) := by decide +kernel
theorem d_Law_law_173 : decode b_Law_law 173 = .ok (.aload_n 0, 1) := by decide +kernel
theorem d_Law_law_174 : decode b_Law_law 174 = .ok (.iload 4, 2) := by decide +kernel
theorem d_Law_law_176 : decode b_Law_law 176 = .ok (.iconst 1, 1) := by decide +kernel
theorem d_Law_law_177 : decode b_Law_law 177 = .ok (.iadd, 1) := by decide +kernel
theorem d_Law_law_178 : decode b_Law_law 178 = .ok (.iaload, 1) := by decide +kernel
theorem d_Law_law_179 : decode b_Law_law 179 = .ok (.aload_n 3, 1) := by decide +kernel
theorem d_Law_law_180 : decode b_Law_law 180 = .ok (.invokestatic 70, 3) := by decide +kernel
theorem d_Law_law_183 : decode b_Law_law 183 = .ok (.istore 5, 2) := by decide +kernel
theorem d_Law_law_185 : decode b_Law_law 185 = .ok (.aload_n 2, 1) := by decide +kernel
