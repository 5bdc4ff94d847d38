theorem d_Mo_init_0 : decode b_Mo_init 0 = .ok (.aload_n 0, 1) := by decide +kernel
theorem d_Mo_init_1 : decode b_Mo_init 1 = .ok (.invokespecial 1, 3) := by decide +kernel
theorem d_Mo_init_4 : decode b_Mo_init 4 = .ok (.aload_n 0, 1) := by decide +kernel
theorem d_Mo_init_5 : decode b_Mo_init 5 = .ok (.bipush 120, 2) := by decide +kernel
theorem d_Mo_init_7 : decode b_Mo_init 7 = .ok (.newarray .int, 2) := by decide +kernel
theorem d_Mo_init_9 : decode b_Mo_init 9 = .ok (.putfield 7, 3) := by decide +kernel
theorem d_Mo_init_12 : decode b_Mo_init 12 = .ok (.aload_n 0, 1) := by decide +kernel
theorem d_Mo_init_13 : decode b_Mo_init 13 = .ok (.bipush 120, 2) := by decide +kernel
theorem d_Mo_init_15 : decode b_Mo_init 15 = .ok (.newarray .int, 2) := by decide +kernel
theorem d_Mo_init_17 : decode b_Mo_init 17 = .ok (.putfield 13, 3) := by decide +kernel
theorem d_Mo_init_20 : decode b_Mo_init 20 = .ok (.aload_n 0, 1) := by decide +kernel
theorem d_Mo_init_21 : decode b_Mo_init 21 = .ok (.bipush 120, 2) := by decide +kernel
theorem d_Mo_init_23 : decode b_Mo_init 23 = .ok (.newarray .int, 2) := by decide +kernel
theorem d_Mo_init_25 : decode b_Mo_init 25 = .ok (.putfield 16, 3) := by decide +kernel
theorem d_Mo_init_28 : decode b_Mo_init 28 = .ok (.aload_n 0, 1) := by decide +kernel
theorem d_Mo_init_29 : decode b_Mo_init 29 = .ok (.bipush 120, 2) := by decide +kernel
theorem d_Mo_init_31 : decode b_Mo_init 31 = .ok (.newarray .int, 2) := by decide +kernel
theorem d_Mo_init_33 : decode b_Mo_init 33 = .ok (.putfield 19, 3) := by decide +kernel
theorem d_Mo_init_36 : decode b_Mo_init 36 = .ok (.aload_n 0, 1) := by decide +kernel
theorem d_Mo_init_37 : decode b_Mo_init 37 = .ok (.iconst 5, 1) := by decide +kernel
theorem d_Mo_init_38 : decode b_Mo_init 38 = .ok (.newarray .int, 2) := by decide +kernel
theorem d_Mo_init_40 : decode b_Mo_init 40 = .ok (.putfield 22, 3) := by decide +kernel
theorem d_Mo_init_43 : decode b_Mo_init 43 = .ok (.aload_n 0, 1) := by decide +kernel
theorem d_Mo_init_44 : decode b_Mo_init 44 = .ok (.bipush 120, 2) := by decide +kernel
theorem d_Mo_init_46 : decode b_Mo_init 46 = .ok (.newarray .int, 2) := by decide +kernel
theorem d_Mo_init_48 : decode b_Mo_init 48 = .ok (.putfield 25, 3) := by decide +kernel
theorem d_Mo_init_51 : decode b_Mo_init 51 = .ok (.aload_n 0, 1) := by decide +kernel
theorem d_Mo_init_52 : decode b_Mo_init 52 = .ok (.bipush 120, 2) := by decide +kernel
theorem d_Mo_init_54 : decode b_Mo_init 54 = .ok (.newarray .int, 2) := by decide +kernel
theorem d_Mo_init_56 : decode b_Mo_init 56 = .ok (.putfield 28, 3) := by decide +kernel
theorem d_Mo_init_59 : decode b_Mo_init 59 = .ok (.aload_n 0, 1) := by decide +kernel
theorem d_Mo_init_60 : decode b_Mo_init 60 = .ok (.sipush 128, 3) := by decide +kernel
theorem d_Mo_init_63 : decode b_Mo_init 63 = .ok (.newarray .int, 2) := by decide +kernel
theorem d_Mo_init_65 : decode b_Mo_init 65 = .ok (.putfield 31, 3) := by decide +kernel
theorem d_Mo_init_68 : decode b_Mo_init 68 = .ok (.aload_n 0, 1) := by decide +kernel
theorem d_Mo_init_69 : decode b_Mo_init 69 = .ok (.bipush 30, 2) := by decide +kernel
theorem d_Mo_init_71 : decode b_Mo_init 71 = .ok (.newarray .int, 2) := by decide +kernel
theorem d_Mo_init_73 : decode b_Mo_init 73 = .ok (.putfield 34, 3) := by decide +kernel
theorem d_Mo_init_76 : decode b_Mo_init 76 = .ok (.aload_n 0, 1) := by decide +kernel
theorem d_Mo_init_77 : decode b_Mo_init 77 = .ok (.bipush 30, 2) := by decide +kernel
theorem d_Mo_init_79 : decode b_Mo_init 79 = .ok (.newarray .int, 2) := by decide +kernel
theorem d_Mo_init_81 : decode b_Mo_init 81 = .ok (.putfield 37, 3) := by decide +kernel
theorem d_Mo_init_84 : decode b_Mo_init 84 = .ok (.aload_n 0, 1) := by decide +kernel
theorem d_Mo_init_85 : decode b_Mo_init 85 = .ok (.bipush 30, 2) := by decide +kernel
theorem d_Mo_init_87 : decode b_Mo_init 87 = .ok (.newarray .int, 2) := by decide +kernel
theorem d_Mo_init_89 : decode b_Mo_init 89 = .ok (.putfield 40, 3) := by decide +kernel
theorem d_Mo_init_92 : decode b_Mo_init 92 = .ok (.aload_n 0, 1) := by decide +kernel
theorem d_Mo_init_93 : decode b_Mo_init 93 = .ok (.bipush 10, 2) := by decide +kernel
theorem d_Mo_init_95 : decode b_Mo_init 95 = .ok (.newarray .int, 2) := by decide +kernel
theorem d_Mo_init_97 : decode b_Mo_init 97 = .ok (.putfield 43, 3) := by decide +kernel
theorem d_Mo_init_100 : decode b_Mo_init 100 = .ok (.aload_n 0, 1) := by decide +kernel
theorem d_Mo_init_101 : decode b_Mo_init 101 = .ok (.bipush 30, 2) := by decide +kernel
theorem d_Mo_init_103 : decode b_Mo_init 103 = .ok (.newarray .boolean, 2) := by decide +kernel
theorem d_Mo_init_105 : decode b_Mo_init 105 = .ok (.putfield 46, 3) := by decide +kernel
theorem d_Mo_init_108 : decode b_Mo_init 108 = .ok (.return_, 1) := by decide +kernel
theorem d_Mo_thrown_0 : decode b_Mo_thrown 0 = .ok (.aload_n 0, 1) := by decide +kernel
theorem d_Mo_thrown_1 : decode b_Mo_thrown 1 = .ok (.getfield 50, 3) := by decide +kernel
theorem d_Mo_thrown_4 : decode b_Mo_thrown 4 = .ok (.ireturn, 1) := by decide +kernel
theorem d_Mo_zero_0 : decode b_Mo_zero 0 = .ok (.aload_n 0, 1) := by decide +kernel
theorem d_Mo_zero_1 : decode b_Mo_zero 1 = .ok (.iconst 0, 1) := by decide +kernel
theorem d_Mo_zero_2 : decode b_Mo_zero 2 = .ok (.iconst (-1), 1) := by decide +kernel
theorem d_Mo_zero_3 : decode b_Mo_zero 3 = .ok (.iconst (-1), 1) := by decide +kernel
theorem d_Mo_zero_4 : decode b_Mo_zero 4 = .ok (.iconst 1, 1) := by decide +kernel
theorem d_Mo_zero_5 : decode b_Mo_zero 5 = .ok (.invokevirtual 61, 3) := by decide +kernel
theorem d_Mo_zero_8 : decode b_Mo_zero 8 = .ok (.ireturn, 1) := by decide +kernel
theorem d_Mo_made_0 : decode b_Mo_made 0 = .ok (.aload_n 0, 1) := by decide +kernel
theorem d_Mo_made_1 : decode b_Mo_made 1 = .ok (.iload_n 1, 1) := by decide +kernel
theorem d_Mo_made_2 : decode b_Mo_made 2 = .ok (.iload_n 2, 1) := by decide +kernel
theorem d_Mo_made_3 : decode b_Mo_made 3 = .ok (.iload_n 3, 1) := by decide +kernel
theorem d_Mo_made_4 : decode b_Mo_made 4 = .ok (.invokevirtual 57, 3) := by decide +kernel
theorem d_Mo_made_7 : decode b_Mo_made 7 = .ok (.istore 5, 2) := by decide +kernel
theorem d_Mo_made_9 : decode b_Mo_made 9 = .ok (.aload_n 0, 1) := by decide +kernel
theorem d_Mo_made_10 : decode b_Mo_made 10 = .ok (.iload 5, 2) := by decide +kernel
theorem d_Mo_made_12 : decode b_Mo_made 12 = .ok (.iconst (-1), 1) := by decide +kernel
theorem d_Mo_made_13 : decode b_Mo_made 13 = .ok (.if_icmp .ne 8, 3) := by decide +kernel
theorem d_Mo_made_16 : decode b_Mo_made 16 = .ok (.iload 4, 2) := by decide +kernel
theorem d_Mo_made_18 : decode b_Mo_made 18 = .ok (.goto 4, 3) := by decide +kernel
theorem d_Mo_made_21 : decode b_Mo_made 21 = .ok (.iconst 0, 1) := by decide +kernel
theorem d_Mo_made_22 : decode b_Mo_made 22 = .ok (.putfield 50, 3) := by decide +kernel
theorem d_Mo_made_25 : decode b_Mo_made 25 = .ok (.iload 5, 2) := by decide +kernel
theorem d_Mo_made_27 : decode b_Mo_made 27 = .ok (.iconst (-1), 1) := by decide +kernel
theorem d_Mo_made_28 : decode b_Mo_made 28 = .ok (.if_icmp .ne 7, 3) := by decide +kernel
theorem d_Mo_made_31 : decode b_Mo_made 31 = .ok (.iconst 0, 1) := by decide +kernel
theorem d_Mo_made_32 : decode b_Mo_made 32 = .ok (.goto 5, 3) := by decide +kernel
theorem d_Mo_made_35 : decode b_Mo_made 35 = .ok (.iload 5, 2) := by decide +kernel
theorem d_Mo_made_37 : decode b_Mo_made 37 = .ok (.ireturn, 1) := by decide +kernel
theorem d_Mo_make_0 : decode b_Mo_make 0 = .ok (.iconst 0, 1) := by decide +kernel
theorem d_Mo_make_1 : decode b_Mo_make 1 = .ok (.istore 4, 2) := by decide +kernel
theorem d_Mo_make_3 : decode b_Mo_make 3 = .ok (.iload 4, 2) := by decide +kernel
theorem d_Mo_make_5 : decode b_Mo_make 5 = .ok (.aload_n 0, 1) := by decide +kernel
theorem d_Mo_make_6 : decode b_Mo_make 6 = .ok (.getfield 54, 3) := by decide +kernel
theorem d_Mo_make_9 : decode b_Mo_make 9 = .ok (.if_icmp .ge 45, 3) := by decide +kernel
theorem d_Mo_make_12 : decode b_Mo_make 12 = .ok (.aload_n 0, 1) := by decide +kernel
theorem d_Mo_make_13 : decode b_Mo_make 13 = .ok (.getfield 7, 3) := by decide +kernel
theorem d_Mo_make_16 : decode b_Mo_make 16 = .ok (.iload 4, 2) := by decide +kernel
theorem d_Mo_make_18 : decode b_Mo_make 18 = .ok (.iaload, 1) := by decide +kernel
theorem d_Mo_make_19 : decode b_Mo_make 19 = .ok (.iload_n 1, 1) := by decide +kernel
theorem d_Mo_make_20 : decode b_Mo_make 20 = .ok (.if_icmp .ne 28, 3) := by decide +kernel
theorem d_Mo_make_23 : decode b_Mo_make 23 = .ok (.aload_n 0, 1) := by decide +kernel
theorem d_Mo_make_24 : decode b_Mo_make 24 = .ok (.getfield 13, 3) := by decide +kernel
theorem d_Mo_make_27 : decode b_Mo_make 27 = .ok (.iload 4, 2) := by decide +kernel
theorem d_Mo_make_29 : decode b_Mo_make 29 = .ok (.iaload, 1) := by decide +kernel
theorem d_Mo_make_30 : decode b_Mo_make 30 = .ok (.iload_n 2, 1) := by decide +kernel
theorem d_Mo_make_31 : decode b_Mo_make 31 = .ok (.if_icmp .ne 17, 3) := by decide +kernel
theorem d_Mo_make_34 : decode b_Mo_make 34 = .ok (.aload_n 0, 1) := by decide +kernel
theorem d_Mo_make_35 : decode b_Mo_make 35 = .ok (.getfield 16, 3) := by decide +kernel
theorem d_Mo_make_38 : decode b_Mo_make 38 = .ok (.iload 4, 2) := by decide +kernel
theorem d_Mo_make_40 : decode b_Mo_make 40 = .ok (.iaload, 1) := by decide +kernel
theorem d_Mo_make_41 : decode b_Mo_make 41 = .ok (.iload_n 3, 1) := by decide +kernel
theorem d_Mo_make_42 : decode b_Mo_make 42 = .ok (.if_icmp .ne 6, 3) := by decide +kernel
theorem d_Mo_make_45 : decode b_Mo_make 45 = .ok (.iload 4, 2) := by decide +kernel
theorem d_Mo_make_47 : decode b_Mo_make 47 = .ok (.ireturn, 1) := by decide +kernel
theorem d_Mo_make_48 : decode b_Mo_make 48 = .ok (.iinc 4 1, 3) := by decide +kernel
theorem d_Mo_make_51 : decode b_Mo_make 51 = .ok (.goto (-48), 3) := by decide +kernel
theorem d_Mo_make_54 : decode b_Mo_make 54 = .ok (.aload_n 0, 1) := by decide +kernel
theorem d_Mo_make_55 : decode b_Mo_make 55 = .ok (.getfield 54, 3) := by decide +kernel
theorem d_Mo_make_58 : decode b_Mo_make 58 = .ok (.bipush 120, 2) := by decide +kernel
theorem d_Mo_make_60 : decode b_Mo_make 60 = .ok (.if_icmp .ne 5, 3) := by decide +kernel
theorem d_Mo_make_63 : decode b_Mo_make 63 = .ok (.iconst (-1), 1) := by decide +kernel
theorem d_Mo_make_64 : decode b_Mo_make 64 = .ok (.ireturn, 1) := by decide +kernel
theorem d_Mo_make_65 : decode b_Mo_make 65 = .ok (.iload_n 1, 1) := by decide +kernel
theorem d_Mo_make_66 : decode b_Mo_make 66 = .ok (.iconst 2, 1) := by decide +kernel
theorem d_Mo_make_67 : decode b_Mo_make 67 = .ok (.if_icmp .ge 7, 3) := by decide +kernel
theorem d_Mo_make_70 : decode b_Mo_make 70 = .ok (.iconst 0, 1) := by decide +kernel
theorem d_Mo_make_71 : decode b_Mo_make 71 = .ok (.goto 49, 3) := by decide +kernel
theorem d_Mo_make_74 : decode b_Mo_make 74 = .ok (.iload_n 1, 1) := by decide +kernel
theorem d_Mo_make_75 : decode b_Mo_make 75 = .ok (.iconst 2, 1) := by decide +kernel
theorem d_Mo_make_76 : decode b_Mo_make 76 = .ok (.if_icmp .ne 14, 3) := by decide +kernel
theorem d_Mo_make_79 : decode b_Mo_make 79 = .ok (.aload_n 0, 1) := by decide +kernel
theorem d_Mo_make_80 : decode b_Mo_make 80 = .ok (.getfield 19, 3) := by decide +kernel
theorem d_Mo_make_83 : decode b_Mo_make 83 = .ok (.iload_n 2, 1) := by decide +kernel
theorem d_Mo_make_84 : decode b_Mo_make 84 = .ok (.iaload, 1) := by decide +kernel
theorem d_Mo_make_85 : decode b_Mo_make 85 = .ok (.iconst 1, 1) := by decide +kernel
theorem d_Mo_make_86 : decode b_Mo_make 86 = .ok (.iadd, 1) := by decide +kernel
theorem d_Mo_make_87 : decode b_Mo_make 87 = .ok (.goto 33, 3) := by decide +kernel
theorem d_Mo_make_90 : decode b_Mo_make 90 = .ok (.aload_n 0, 1) := by decide +kernel
theorem d_Mo_make_91 : decode b_Mo_make 91 = .ok (.getfield 19, 3) := by decide +kernel
theorem d_Mo_make_94 : decode b_Mo_make 94 = .ok (.iload_n 2, 1) := by decide +kernel
theorem d_Mo_make_95 : decode b_Mo_make 95 = .ok (.iaload, 1) := by decide +kernel
theorem d_Mo_make_96 : decode b_Mo_make 96 = .ok (.aload_n 0, 1) := by decide +kernel
theorem d_Mo_make_97 : decode b_Mo_make 97 = .ok (.getfield 19, 3) := by decide +kernel
theorem d_Mo_make_100 : decode b_Mo_make 100 = .ok (.iload_n 3, 1) := by decide +kernel
theorem d_Mo_make_101 : decode b_Mo_make 101 = .ok (.iaload, 1) := by decide +kernel
theorem d_Mo_make_102 : decode b_Mo_make 102 = .ok (.if_icmp .le 12, 3) := by decide +kernel
theorem d_Mo_make_105 : decode b_Mo_make 105 = .ok (.aload_n 0, 1) := by decide +kernel
theorem d_Mo_make_106 : decode b_Mo_make 106 = .ok (.getfield 19, 3) := by decide +kernel
theorem d_Mo_make_109 : decode b_Mo_make 109 = .ok (.iload_n 2, 1) := by decide +kernel
theorem d_Mo_make_110 : decode b_Mo_make 110 = .ok (.iaload, 1) := by decide +kernel
theorem d_Mo_make_111 : decode b_Mo_make 111 = .ok (.goto 9, 3) := by decide +kernel
theorem d_Mo_make_114 : decode b_Mo_make 114 = .ok (.aload_n 0, 1) := by decide +kernel
theorem d_Mo_make_115 : decode b_Mo_make 115 = .ok (.getfield 19, 3) := by decide +kernel
theorem d_Mo_make_118 : decode b_Mo_make 118 = .ok (.iload_n 3, 1) := by decide +kernel
theorem d_Mo_make_119 : decode b_Mo_make 119 = .ok (.iaload, 1) := by decide +kernel
theorem d_Mo_make_120 : decode b_Mo_make 120 = .ok (.istore 4, 2) := by decide +kernel
theorem d_Mo_make_122 : decode b_Mo_make 122 = .ok (.aload_n 0, 1) := by decide +kernel
theorem d_Mo_make_123 : decode b_Mo_make 123 = .ok (.getfield 7, 3) := by decide +kernel
theorem d_Mo_make_126 : decode b_Mo_make 126 = .ok (.aload_n 0, 1) := by decide +kernel
theorem d_Mo_make_127 : decode b_Mo_make 127 = .ok (.getfield 54, 3) := by decide +kernel
theorem d_Mo_make_130 : decode b_Mo_make 130 = .ok (.iload_n 1, 1) := by decide +kernel
theorem d_Mo_make_131 : decode b_Mo_make 131 = .ok (.iastore, 1) := by decide +kernel
theorem d_Mo_make_132 : decode b_Mo_make 132 = .ok (.aload_n 0, 1) := by decide +kernel
theorem d_Mo_make_133 : decode b_Mo_make 133 = .ok (.getfield 13, 3) := by decide +kernel
theorem d_Mo_make_136 : decode b_Mo_make 136 = .ok (.aload_n 0, 1) := by decide +kernel
theorem d_Mo_make_137 : decode b_Mo_make 137 = .ok (.getfield 54, 3) := by decide +kernel
theorem d_Mo_make_140 : decode b_Mo_make 140 = .ok (.iload_n 2, 1) := by decide +kernel
theorem d_Mo_make_141 : decode b_Mo_make 141 = .ok (.iastore, 1) := by decide +kernel
theorem d_Mo_make_142 : decode b_Mo_make 142 = .ok (.aload_n 0, 1) := by decide +kernel
theorem d_Mo_make_143 : decode b_Mo_make 143 = .ok (.getfield 16, 3) := by decide +kernel
theorem d_Mo_make_146 : decode b_Mo_make 146 = .ok (.aload_n 0, 1) := by decide +kernel
theorem d_Mo_make_147 : decode b_Mo_make 147 = .ok (.getfield 54, 3) := by decide +kernel
theorem d_Mo_make_150 : decode b_Mo_make 150 = .ok (.iload_n 3, 1) := by decide +kernel
theorem d_Mo_make_151 : decode b_Mo_make 151 = .ok (.iastore, 1) := by decide +kernel
theorem d_Mo_make_152 : decode b_Mo_make 152 = .ok (.aload_n 0, 1) := by decide +kernel
theorem d_Mo_make_153 : decode b_Mo_make 153 = .ok (.getfield 19, 3) := by decide +kernel
theorem d_Mo_make_156 : decode b_Mo_make 156 = .ok (.aload_n 0, 1) := by decide +kernel
theorem d_Mo_make_157 : decode b_Mo_make 157 = .ok (.getfield 54, 3) := by decide +kernel
theorem d_Mo_make_160 : decode b_Mo_make 160 = .ok (.iload 4, 2) := by decide +kernel
theorem d_Mo_make_162 : decode b_Mo_make 162 = .ok (.iastore, 1) := by decide +kernel
theorem d_Mo_make_163 : decode b_Mo_make 163 = .ok (.aload_n 0, 1) := by decide +kernel
theorem d_Mo_make_164 : decode b_Mo_make 164 = .ok (.dup, 1) := by decide +kernel
theorem d_Mo_make_165 : decode b_Mo_make 165 = .ok (.getfield 54, 3) := by decide +kernel
theorem d_Mo_make_168 : decode b_Mo_make 168 = .ok (.iconst 1, 1) := by decide +kernel
theorem d_Mo_make_169 : decode b_Mo_make 169 = .ok (.iadd, 1) := by decide +kernel
theorem d_Mo_make_170 : decode b_Mo_make 170 = .ok (.putfield 54, 3) := by decide +kernel
theorem d_Mo_make_173 : decode b_Mo_make 173 = .ok (.aload_n 0, 1) := by decide +kernel
theorem d_Mo_make_174 : decode b_Mo_make 174 = .ok (.getfield 54, 3) := by decide +kernel
theorem d_Mo_make_177 : decode b_Mo_make 177 = .ok (.iconst 1, 1) := by decide +kernel
theorem d_Mo_make_178 : decode b_Mo_make 178 = .ok (.isub, 1) := by decide +kernel
theorem d_Mo_make_179 : decode b_Mo_make 179 = .ok (.ireturn, 1) := by decide +kernel
theorem d_Mo_parameter_0 : decode b_Mo_parameter 0 = .ok (.aload_n 0, 1) := by decide +kernel
theorem d_Mo_parameter_1 : decode b_Mo_parameter 1 = .ok (.iload_n 1, 1) := by decide +kernel
theorem d_Mo_parameter_2 : decode b_Mo_parameter 2 = .ok (.ifCond .lt 8, 3) := by decide +kernel
theorem d_Mo_parameter_5 : decode b_Mo_parameter 5 = .ok (.iload_n 1, 1) := by decide +kernel
theorem d_Mo_parameter_6 : decode b_Mo_parameter 6 = .ok (.iconst 5, 1) := by decide +kernel
theorem d_Mo_parameter_7 : decode b_Mo_parameter 7 = .ok (.if_icmp .lt 7, 3) := by decide +kernel
theorem d_Mo_parameter_10 : decode b_Mo_parameter 10 = .ok (.iconst 1, 1) := by decide +kernel
theorem d_Mo_parameter_11 : decode b_Mo_parameter 11 = .ok (.goto 4, 3) := by decide +kernel
theorem d_Mo_parameter_14 : decode b_Mo_parameter 14 = .ok (.iconst 0, 1) := by decide +kernel
theorem d_Mo_parameter_15 : decode b_Mo_parameter 15 = .ok (.invokevirtual 65, 3) := by decide +kernel
theorem d_Mo_parameter_18 : decode b_Mo_parameter 18 = .ok (.ifCond .eq 5, 3) := by decide +kernel
theorem d_Mo_parameter_21 : decode b_Mo_parameter 21 = .ok (.iconst 0, 1) := by decide +kernel
theorem d_Mo_parameter_22 : decode b_Mo_parameter 22 = .ok (.ireturn, 1) := by decide +kernel
theorem d_Mo_parameter_23 : decode b_Mo_parameter 23 = .ok (.aload_n 0, 1) := by decide +kernel
theorem d_Mo_parameter_24 : decode b_Mo_parameter 24 = .ok (.iconst 1, 1) := by decide +kernel
theorem d_Mo_parameter_25 : decode b_Mo_parameter 25 = .ok (.iload_n 1, 1) := by decide +kernel
theorem d_Mo_parameter_26 : decode b_Mo_parameter 26 = .ok (.iconst (-1), 1) := by decide +kernel
theorem d_Mo_parameter_27 : decode b_Mo_parameter 27 = .ok (.iconst 2, 1) := by decide +kernel
theorem d_Mo_parameter_28 : decode b_Mo_parameter 28 = .ok (.invokevirtual 61, 3) := by decide +kernel
theorem d_Mo_parameter_31 : decode b_Mo_parameter 31 = .ok (.ireturn, 1) := by decide +kernel
theorem d_Mo_refuses_0 : decode b_Mo_refuses 0 = .ok (.aload_n 0, 1) := by decide +kernel
theorem d_Mo_refuses_1 : decode b_Mo_refuses 1 = .ok (.iload_n 1, 1) := by decide +kernel
theorem d_Mo_refuses_2 : decode b_Mo_refuses 2 = .ok (.putfield 50, 3) := by decide +kernel
theorem d_Mo_refuses_5 : decode b_Mo_refuses 5 = .ok (.iload_n 1, 1) := by decide +kernel
theorem d_Mo_refuses_6 : decode b_Mo_refuses 6 = .ok (.ifCond .le 7, 3) := by decide +kernel
theorem d_Mo_refuses_9 : decode b_Mo_refuses 9 = .ok (.iconst 1, 1) := by decide +kernel
theorem d_Mo_refuses_10 : decode b_Mo_refuses 10 = .ok (.goto 4, 3) := by decide +kernel
theorem d_Mo_refuses_13 : decode b_Mo_refuses 13 = .ok (.iconst 0, 1) := by decide +kernel
theorem d_Mo_refuses_14 : decode b_Mo_refuses 14 = .ok (.ireturn, 1) := by decide +kernel
theorem d_Mo_next_0 : decode b_Mo_next 0 = .ok (.aload_n 0, 1) := by decide +kernel
theorem d_Mo_next_1 : decode b_Mo_next 1 = .ok (.aload_n 0, 1) := by decide +kernel
theorem d_Mo_next_2 : decode b_Mo_next 2 = .ok (.iload_n 1, 1) := by decide +kernel
theorem d_Mo_next_3 : decode b_Mo_next 3 = .ok (.invokevirtual 69, 3) := by decide +kernel
theorem d_Mo_next_6 : decode b_Mo_next 6 = .ok (.ifCond .ne 7, 3) := by decide +kernel
theorem d_Mo_next_9 : decode b_Mo_next 9 = .ok (.iconst 1, 1) := by decide +kernel
theorem d_Mo_next_10 : decode b_Mo_next 10 = .ok (.goto 19, 3) := by decide +kernel
theorem d_Mo_next_13 : decode b_Mo_next 13 = .ok (.aload_n 0, 1) := by decide +kernel
theorem d_Mo_next_14 : decode b_Mo_next 14 = .ok (.getfield 19, 3) := by decide +kernel
theorem d_Mo_next_17 : decode b_Mo_next 17 = .ok (.iload_n 1, 1) := by decide +kernel
theorem d_Mo_next_18 : decode b_Mo_next 18 = .ok (.iaload, 1) := by decide +kernel
theorem d_Mo_next_19 : decode b_Mo_next 19 = .ok (.bipush 60, 2) := by decide +kernel
theorem d_Mo_next_21 : decode b_Mo_next 21 = .ok (.if_icmp .ne 7, 3) := by decide +kernel
theorem d_Mo_next_24 : decode b_Mo_next 24 = .ok (.iconst 2, 1) := by decide +kernel
theorem d_Mo_next_25 : decode b_Mo_next 25 = .ok (.goto 4, 3) := by decide +kernel
theorem d_Mo_next_28 : decode b_Mo_next 28 = .ok (.iconst 0, 1) := by decide +kernel
theorem d_Mo_next_29 : decode b_Mo_next 29 = .ok (.invokevirtual 65, 3) := by decide +kernel
theorem d_Mo_next_32 : decode b_Mo_next 32 = .ok (.ifCond .eq 5, 3) := by decide +kernel
theorem d_Mo_next_35 : decode b_Mo_next 35 = .ok (.iconst 0, 1) := by decide +kernel
theorem d_Mo_next_36 : decode b_Mo_next 36 = .ok (.ireturn, 1) := by decide +kernel
theorem d_Mo_next_37 : decode b_Mo_next 37 = .ok (.aload_n 0, 1) := by decide +kernel
theorem d_Mo_next_38 : decode b_Mo_next 38 = .ok (.iconst 2, 1) := by decide +kernel
theorem d_Mo_next_39 : decode b_Mo_next 39 = .ok (.iload_n 1, 1) := by decide +kernel
theorem d_Mo_next_40 : decode b_Mo_next 40 = .ok (.iconst (-1), 1) := by decide +kernel
theorem d_Mo_next_41 : decode b_Mo_next 41 = .ok (.iconst 3, 1) := by decide +kernel
theorem d_Mo_next_42 : decode b_Mo_next 42 = .ok (.invokevirtual 61, 3) := by decide +kernel
theorem d_Mo_next_45 : decode b_Mo_next 45 = .ok (.ireturn, 1) := by decide +kernel
theorem d_Mo_isLevel_0 : decode b_Mo_isLevel 0 = .ok (.iload_n 1, 1) := by decide +kernel
theorem d_Mo_isLevel_1 : decode b_Mo_isLevel 1 = .ok (.ifCond .lt 15, 3) := by decide +kernel
theorem d_Mo_isLevel_4 : decode b_Mo_isLevel 4 = .ok (.iload_n 1, 1) := by decide +kernel
theorem d_Mo_isLevel_5 : decode b_Mo_isLevel 5 = .ok (.aload_n 0, 1) := by decide +kernel
theorem d_Mo_isLevel_6 : decode b_Mo_isLevel 6 = .ok (.getfield 54, 3) := by decide +kernel
theorem d_Mo_isLevel_9 : decode b_Mo_isLevel 9 = .ok (.if_icmp .ge 7, 3) := by decide +kernel
theorem d_Mo_isLevel_12 : decode b_Mo_isLevel 12 = .ok (.iconst 1, 1) := by decide +kernel
theorem d_Mo_isLevel_13 : decode b_Mo_isLevel 13 = .ok (.goto 4, 3) := by decide +kernel
theorem d_Mo_isLevel_16 : decode b_Mo_isLevel 16 = .ok (.iconst 0, 1) := by decide +kernel
theorem d_Mo_isLevel_17 : decode b_Mo_isLevel 17 = .ok (.ireturn, 1) := by decide +kernel
theorem d_Mo_join_0 : decode b_Mo_join 0 = .ok (.aload_n 0, 1) := by decide +kernel
theorem d_Mo_join_1 : decode b_Mo_join 1 = .ok (.aload_n 0, 1) := by decide +kernel
theorem d_Mo_join_2 : decode b_Mo_join 2 = .ok (.iload_n 1, 1) := by decide +kernel
theorem d_Mo_join_3 : decode b_Mo_join 3 = .ok (.invokevirtual 69, 3) := by decide +kernel
theorem d_Mo_join_6 : decode b_Mo_join 6 = .ok (.ifCond .eq 11, 3) := by decide +kernel
theorem d_Mo_join_9 : decode b_Mo_join 9 = .ok (.aload_n 0, 1) := by decide +kernel
theorem d_Mo_join_10 : decode b_Mo_join 10 = .ok (.iload_n 2, 1) := by decide +kernel
theorem d_Mo_join_11 : decode b_Mo_join 11 = .ok (.invokevirtual 69, 3) := by decide +kernel
theorem d_Mo_join_14 : decode b_Mo_join 14 = .ok (.ifCond .ne 7, 3) := by decide +kernel
theorem d_Mo_join_17 : decode b_Mo_join 17 = .ok (.iconst 1, 1) := by decide +kernel
theorem d_Mo_join_18 : decode b_Mo_join 18 = .ok (.goto 4, 3) := by decide +kernel
theorem d_Mo_join_21 : decode b_Mo_join 21 = .ok (.iconst 0, 1) := by decide +kernel
theorem d_Mo_join_22 : decode b_Mo_join 22 = .ok (.invokevirtual 65, 3) := by decide +kernel
theorem d_Mo_join_25 : decode b_Mo_join 25 = .ok (.ifCond .eq 5, 3) := by decide +kernel
theorem d_Mo_join_28 : decode b_Mo_join 28 = .ok (.iconst 0, 1) := by decide +kernel
theorem d_Mo_join_29 : decode b_Mo_join 29 = .ok (.ireturn, 1) := by decide +kernel
theorem d_Mo_join_30 : decode b_Mo_join 30 = .ok (.aload_n 0, 1) := by decide +kernel
theorem d_Mo_join_31 : decode b_Mo_join 31 = .ok (.iload_n 3, 1) := by decide +kernel
theorem d_Mo_join_32 : decode b_Mo_join 32 = .ok (.ifCond .eq 7, 3) := by decide +kernel
theorem d_Mo_join_35 : decode b_Mo_join 35 = .ok (.iconst 4, 1) := by decide +kernel
theorem d_Mo_join_36 : decode b_Mo_join 36 = .ok (.goto 4, 3) := by decide +kernel
theorem d_Mo_join_39 : decode b_Mo_join 39 = .ok (.iconst 3, 1) := by decide +kernel
theorem d_Mo_join_40 : decode b_Mo_join 40 = .ok (.iload_n 1, 1) := by decide +kernel
theorem d_Mo_join_41 : decode b_Mo_join 41 = .ok (.iload_n 2, 1) := by decide +kernel
theorem d_Mo_join_42 : decode b_Mo_join 42 = .ok (.iconst 2, 1) := by decide +kernel
theorem d_Mo_join_43 : decode b_Mo_join 43 = .ok (.invokevirtual 61, 3) := by decide +kernel
theorem d_Mo_join_46 : decode b_Mo_join 46 = .ok (.ireturn, 1) := by decide +kernel
theorem d_Mo_level_0 : decode b_Mo_level 0 = .ok (.aload_n 0, 1) := by decide +kernel
theorem d_Mo_level_1 : decode b_Mo_level 1 = .ok (.iconst 0, 1) := by decide +kernel
theorem d_Mo_level_2 : decode b_Mo_level 2 = .ok (.putfield 50, 3) := by decide +kernel
theorem d_Mo_level_5 : decode b_Mo_level 5 = .ok (.aload_n 0, 1) := by decide +kernel
theorem d_Mo_level_6 : decode b_Mo_level 6 = .ok (.iload_n 1, 1) := by decide +kernel
theorem d_Mo_level_7 : decode b_Mo_level 7 = .ok (.invokevirtual 69, 3) := by decide +kernel
theorem d_Mo_level_10 : decode b_Mo_level 10 = .ok (.ifCond .eq 12, 3) := by decide +kernel
theorem d_Mo_level_13 : decode b_Mo_level 13 = .ok (.iload_n 2, 1) := by decide +kernel
theorem d_Mo_level_14 : decode b_Mo_level 14 = .ok (.ifCond .lt 8, 3) := by decide +kernel
theorem d_Mo_level_17 : decode b_Mo_level 17 = .ok (.iload_n 2, 1) := by decide +kernel
theorem d_Mo_level_18 : decode b_Mo_level 18 = .ok (.iconst 2, 1) := by decide +kernel
theorem d_Mo_level_19 : decode b_Mo_level 19 = .ok (.if_icmp .le 5, 3) := by decide +kernel
theorem d_Mo_level_22 : decode b_Mo_level 22 = .ok (.iconst (-1), 1) := by decide +kernel
theorem d_Mo_level_23 : decode b_Mo_level 23 = .ok (.ireturn, 1) := by decide +kernel
theorem d_Mo_level_24 : decode b_Mo_level 24 = .ok (.iload_n 2, 1) := by decide +kernel
theorem d_Mo_level_25 : decode b_Mo_level 25 = .ok (.ifCond .ne 12, 3) := by decide +kernel
theorem d_Mo_level_28 : decode b_Mo_level 28 = .ok (.aload_n 0, 1) := by decide +kernel
theorem d_Mo_level_29 : decode b_Mo_level 29 = .ok (.getfield 7, 3) := by decide +kernel
theorem d_Mo_level_32 : decode b_Mo_level 32 = .ok (.iload_n 1, 1) := by decide +kernel
theorem d_Mo_level_33 : decode b_Mo_level 33 = .ok (.iaload, 1) := by decide +kernel
theorem d_Mo_level_34 : decode b_Mo_level 34 = .ok (.goto 23, 3) := by decide +kernel
theorem d_Mo_level_37 : decode b_Mo_level 37 = .ok (.iload_n 2, 1) := by decide +kernel
theorem d_Mo_level_38 : decode b_Mo_level 38 = .ok (.iconst 1, 1) := by decide +kernel
theorem d_Mo_level_39 : decode b_Mo_level 39 = .ok (.if_icmp .ne 12, 3) := by decide +kernel
theorem d_Mo_level_42 : decode b_Mo_level 42 = .ok (.aload_n 0, 1) := by decide +kernel
theorem d_Mo_level_43 : decode b_Mo_level 43 = .ok (.getfield 13, 3) := by decide +kernel
theorem d_Mo_level_46 : decode b_Mo_level 46 = .ok (.iload_n 1, 1) := by decide +kernel
theorem d_Mo_level_47 : decode b_Mo_level 47 = .ok (.iaload, 1) := by decide +kernel
theorem d_Mo_level_48 : decode b_Mo_level 48 = .ok (.goto 9, 3) := by decide +kernel
theorem d_Mo_level_51 : decode b_Mo_level 51 = .ok (.aload_n 0, 1) := by decide +kernel
theorem d_Mo_level_52 : decode b_Mo_level 52 = .ok (.getfield 16, 3) := by decide +kernel
theorem d_Mo_level_55 : decode b_Mo_level 55 = .ok (.iload_n 1, 1) := by decide +kernel
theorem d_Mo_level_56 : decode b_Mo_level 56 = .ok (.iaload, 1) := by decide +kernel
theorem d_Mo_level_57 : decode b_Mo_level 57 = .ok (.ireturn, 1) := by decide +kernel
theorem d_Mo_put_0 : decode b_Mo_put 0 = .ok (.aload_n 0, 1) := by decide +kernel
theorem d_Mo_put_1 : decode b_Mo_put 1 = .ok (.aload_n 0, 1) := by decide +kernel
theorem d_Mo_put_2 : decode b_Mo_put 2 = .ok (.iload_n 1, 1) := by decide +kernel
theorem d_Mo_put_3 : decode b_Mo_put 3 = .ok (.invokevirtual 69, 3) := by decide +kernel
theorem d_Mo_put_6 : decode b_Mo_put 6 = .ok (.ifCond .eq 20, 3) := by decide +kernel
theorem d_Mo_put_9 : decode b_Mo_put 9 = .ok (.aload_n 0, 1) := by decide +kernel
theorem d_Mo_put_10 : decode b_Mo_put 10 = .ok (.iload_n 3, 1) := by decide +kernel
theorem d_Mo_put_11 : decode b_Mo_put 11 = .ok (.invokevirtual 69, 3) := by decide +kernel
theorem d_Mo_put_14 : decode b_Mo_put 14 = .ok (.ifCond .eq 12, 3) := by decide +kernel
theorem d_Mo_put_17 : decode b_Mo_put 17 = .ok (.iload_n 2, 1) := by decide +kernel
theorem d_Mo_put_18 : decode b_Mo_put 18 = .ok (.ifCond .lt 8, 3) := by decide +kernel
theorem d_Mo_put_21 : decode b_Mo_put 21 = .ok (.iload_n 2, 1) := by decide +kernel
theorem d_Mo_put_22 : decode b_Mo_put 22 = .ok (.iconst 5, 1) := by decide +kernel
theorem d_Mo_put_23 : decode b_Mo_put 23 = .ok (.if_icmp .lt 7, 3) := by decide +kernel
theorem d_Mo_put_26 : decode b_Mo_put 26 = .ok (.iconst 1, 1) := by decide +kernel
theorem d_Mo_put_27 : decode b_Mo_put 27 = .ok (.goto 4, 3) := by decide +kernel
theorem d_Mo_put_30 : decode b_Mo_put 30 = .ok (.iconst 0, 1) := by decide +kernel
theorem d_Mo_put_31 : decode b_Mo_put 31 = .ok (.invokevirtual 65, 3) := by decide +kernel
theorem d_Mo_put_34 : decode b_Mo_put 34 = .ok (.ifCond .eq 5, 3) := by decide +kernel
theorem d_Mo_put_37 : decode b_Mo_put 37 = .ok (.iconst 0, 1) := by decide +kernel
theorem d_Mo_put_38 : decode b_Mo_put 38 = .ok (.ireturn, 1) := by decide +kernel
theorem d_Mo_put_39 : decode b_Mo_put 39 = .ok (.iconst 0, 1) := by decide +kernel
theorem d_Mo_put_40 : decode b_Mo_put 40 = .ok (.istore 4, 2) := by decide +kernel
theorem d_Mo_put_42 : decode b_Mo_put 42 = .ok (.iload 4, 2) := by decide +kernel
theorem d_Mo_put_44 : decode b_Mo_put 44 = .ok (.bipush 120, 2) := by decide +kernel
theorem d_Mo_put_46 : decode b_Mo_put 46 = .ok (.if_icmp .ge 17, 3) := by decide +kernel
theorem d_Mo_put_49 : decode b_Mo_put 49 = .ok (.aload_n 0, 1) := by decide +kernel
theorem d_Mo_put_50 : decode b_Mo_put 50 = .ok (.getfield 28, 3) := by decide +kernel
theorem d_Mo_put_53 : decode b_Mo_put 53 = .ok (.iload 4, 2) := by decide +kernel
theorem d_Mo_put_55 : decode b_Mo_put 55 = .ok (.iconst (-1), 1) := by decide +kernel
theorem d_Mo_put_56 : decode b_Mo_put 56 = .ok (.iastore, 1) := by decide +kernel
theorem d_Mo_put_57 : decode b_Mo_put 57 = .ok (.iinc 4 1, 3) := by decide +kernel
theorem d_Mo_put_60 : decode b_Mo_put 60 = .ok (.goto (-18), 3) := by decide +kernel
theorem d_Mo_put_63 : decode b_Mo_put 63 = .ok (.iconst 1, 1) := by decide +kernel
theorem d_Mo_put_64 : decode b_Mo_put 64 = .ok (.istore 4, 2) := by decide +kernel
theorem d_Mo_put_66 : decode b_Mo_put 66 = .ok (.aload_n 0, 1) := by decide +kernel
theorem d_Mo_put_67 : decode b_Mo_put 67 = .ok (.getfield 31, 3) := by decide +kernel
theorem d_Mo_put_70 : decode b_Mo_put 70 = .ok (.iconst 0, 1) := by decide +kernel
theorem d_Mo_put_71 : decode b_Mo_put 71 = .ok (.iload_n 1, 1) := by decide +kernel
theorem d_Mo_put_72 : decode b_Mo_put 72 = .ok (.iastore, 1) := by decide +kernel
theorem d_Mo_put_73 : decode b_Mo_put 73 = .ok (.iload 4, 2) := by decide +kernel
theorem d_Mo_put_75 : decode b_Mo_put 75 = .ok (.ifCond .le 158, 3) := by decide +kernel
theorem d_Mo_put_78 : decode b_Mo_put 78 = .ok (.aload_n 0, 1) := by decide +kernel
theorem d_Mo_put_79 : decode b_Mo_put 79 = .ok (.getfield 31, 3) := by decide +kernel
theorem d_Mo_put_82 : decode b_Mo_put 82 = .ok (.iload 4, 2) := by decide +kernel
theorem d_Mo_put_84 : decode b_Mo_put 84 = .ok (.iconst 1, 1) := by decide +kernel
theorem d_Mo_put_85 : decode b_Mo_put 85 = .ok (.isub, 1) := by decide +kernel
theorem d_Mo_put_86 : decode b_Mo_put 86 = .ok (.iaload, 1) := by decide +kernel
theorem d_Mo_put_87 : decode b_Mo_put 87 = .ok (.istore 5, 2) := by decide +kernel
theorem d_Mo_put_89 : decode b_Mo_put 89 = .ok (.aload_n 0, 1) := by decide +kernel
theorem d_Mo_put_90 : decode b_Mo_put 90 = .ok (.getfield 7, 3) := by decide +kernel
theorem d_Mo_put_93 : decode b_Mo_put 93 = .ok (.iload 5, 2) := by decide +kernel
theorem d_Mo_put_95 : decode b_Mo_put 95 = .ok (.iaload, 1) := by decide +kernel
theorem d_Mo_put_96 : decode b_Mo_put 96 = .ok (.iconst 2, 1) := by decide +kernel
theorem d_Mo_put_97 : decode b_Mo_put 97 = .ok (.if_icmp .ge 7, 3) := by decide +kernel
theorem d_Mo_put_100 : decode b_Mo_put 100 = .ok (.iconst (-1), 1) := by decide +kernel
theorem d_Mo_put_101 : decode b_Mo_put 101 = .ok (.goto 10, 3) := by decide +kernel
theorem d_Mo_put_104 : decode b_Mo_put 104 = .ok (.aload_n 0, 1) := by decide +kernel
theorem d_Mo_put_105 : decode b_Mo_put 105 = .ok (.getfield 13, 3) := by decide +kernel
theorem d_Mo_put_108 : decode b_Mo_put 108 = .ok (.iload 5, 2) := by decide +kernel
theorem d_Mo_put_110 : decode b_Mo_put 110 = .ok (.iaload, 1) := by decide +kernel
theorem d_Mo_put_111 : decode b_Mo_put 111 = .ok (.istore 6, 2) := by decide +kernel
theorem d_Mo_put_113 : decode b_Mo_put 113 = .ok (.aload_n 0, 1) := by decide +kernel
theorem d_Mo_put_114 : decode b_Mo_put 114 = .ok (.getfield 7, 3) := by decide +kernel
theorem d_Mo_put_117 : decode b_Mo_put 117 = .ok (.iload 5, 2) := by decide +kernel
theorem d_Mo_put_119 : decode b_Mo_put 119 = .ok (.iaload, 1) := by decide +kernel
theorem d_Mo_put_120 : decode b_Mo_put 120 = .ok (.iconst 3, 1) := by decide +kernel
theorem d_Mo_put_121 : decode b_Mo_put 121 = .ok (.if_icmp .ge 7, 3) := by decide +kernel
theorem d_Mo_put_124 : decode b_Mo_put 124 = .ok (.iconst (-1), 1) := by decide +kernel
theorem d_Mo_put_125 : decode b_Mo_put 125 = .ok (.goto 10, 3) := by decide +kernel
theorem d_Mo_put_128 : decode b_Mo_put 128 = .ok (.aload_n 0, 1) := by decide +kernel
theorem d_Mo_put_129 : decode b_Mo_put 129 = .ok (.getfield 16, 3) := by decide +kernel
theorem d_Mo_put_132 : decode b_Mo_put 132 = .ok (.iload 5, 2) := by decide +kernel
theorem d_Mo_put_134 : decode b_Mo_put 134 = .ok (.iaload, 1) := by decide +kernel
theorem d_Mo_put_135 : decode b_Mo_put 135 = .ok (.istore 7, 2) := by decide +kernel
theorem d_Mo_put_137 : decode b_Mo_put 137 = .ok (.iload 6, 2) := by decide +kernel
theorem d_Mo_put_139 : decode b_Mo_put 139 = .ok (.ifCond .lt 29, 3) := by decide +kernel
theorem d_Mo_put_142 : decode b_Mo_put 142 = .ok (.aload_n 0, 1) := by decide +kernel
theorem d_Mo_put_143 : decode b_Mo_put 143 = .ok (.getfield 28, 3) := by decide +kernel
theorem d_Mo_put_146 : decode b_Mo_put 146 = .ok (.iload 6, 2) := by decide +kernel
theorem d_Mo_put_148 : decode b_Mo_put 148 = .ok (.iaload, 1) := by decide +kernel
theorem d_Mo_put_149 : decode b_Mo_put 149 = .ok (.iconst (-1), 1) := by decide +kernel
theorem d_Mo_put_150 : decode b_Mo_put 150 = .ok (.if_icmp .ne 18, 3) := by decide +kernel
theorem d_Mo_put_153 : decode b_Mo_put 153 = .ok (.aload_n 0, 1) := by decide +kernel
theorem d_Mo_put_154 : decode b_Mo_put 154 = .ok (.getfield 31, 3) := by decide +kernel
theorem d_Mo_put_157 : decode b_Mo_put 157 = .ok (.iload 4, 2) := by decide +kernel
theorem d_Mo_put_159 : decode b_Mo_put 159 = .ok (.iload 6, 2) := by decide +kernel
theorem d_Mo_put_161 : decode b_Mo_put 161 = .ok (.iastore, 1) := by decide +kernel
theorem d_Mo_put_162 : decode b_Mo_put 162 = .ok (.iinc 4 1, 3) := by decide +kernel
theorem d_Mo_put_165 : decode b_Mo_put 165 = .ok (.goto 56, 3) := by decide +kernel
theorem d_Mo_put_168 : decode b_Mo_put 168 = .ok (.iload 7, 2) := by decide +kernel
theorem d_Mo_put_170 : decode b_Mo_put 170 = .ok (.ifCond .lt 29, 3) := by decide +kernel
theorem d_Mo_put_173 : decode b_Mo_put 173 = .ok (.aload_n 0, 1) := by decide +kernel
theorem d_Mo_put_174 : decode b_Mo_put 174 = .ok (.getfield 28, 3) := by decide +kernel
theorem d_Mo_put_177 : decode b_Mo_put 177 = .ok (.iload 7, 2) := by decide +kernel
theorem d_Mo_put_179 : decode b_Mo_put 179 = .ok (.iaload, 1) := by decide +kernel
theorem d_Mo_put_180 : decode b_Mo_put 180 = .ok (.iconst (-1), 1) := by decide +kernel
theorem d_Mo_put_181 : decode b_Mo_put 181 = .ok (.if_icmp .ne 18, 3) := by decide +kernel
theorem d_Mo_put_184 : decode b_Mo_put 184 = .ok (.aload_n 0, 1) := by decide +kernel
theorem d_Mo_put_185 : decode b_Mo_put 185 = .ok (.getfield 31, 3) := by decide +kernel
theorem d_Mo_put_188 : decode b_Mo_put 188 = .ok (.iload 4, 2) := by decide +kernel
theorem d_Mo_put_190 : decode b_Mo_put 190 = .ok (.iload 7, 2) := by decide +kernel
theorem d_Mo_put_192 : decode b_Mo_put 192 = .ok (.iastore, 1) := by decide +kernel
theorem d_Mo_put_193 : decode b_Mo_put 193 = .ok (.iinc 4 1, 3) := by decide +kernel
theorem d_Mo_put_196 : decode b_Mo_put 196 = .ok (.goto 25, 3) := by decide +kernel
theorem d_Mo_put_199 : decode b_Mo_put 199 = .ok (.aload_n 0, 1) := by decide +kernel
theorem d_Mo_put_200 : decode b_Mo_put 200 = .ok (.getfield 28, 3) := by decide +kernel
theorem d_Mo_put_203 : decode b_Mo_put 203 = .ok (.iload 5, 2) := by decide +kernel
theorem d_Mo_put_205 : decode b_Mo_put 205 = .ok (.aload_n 0, 1) := by decide +kernel
theorem d_Mo_put_206 : decode b_Mo_put 206 = .ok (.iload 5, 2) := by decide +kernel
theorem d_Mo_put_208 : decode b_Mo_put 208 = .ok (.iload 6, 2) := by decide +kernel
theorem d_Mo_put_210 : decode b_Mo_put 210 = .ok (.iload 7, 2) := by decide +kernel
theorem d_Mo_put_212 : decode b_Mo_put 212 = .ok (.iload_n 2, 1) := by decide +kernel
theorem d_Mo_put_213 : decode b_Mo_put 213 = .ok (.iload_n 3, 1) := by decide +kernel
theorem d_Mo_put_214 : decode b_Mo_put 214 = .ok (.invokevirtual 72, 3) := by decide +kernel
theorem d_Mo_put_217 : decode b_Mo_put 217 = .ok (.iastore, 1) := by decide +kernel
theorem d_Mo_put_218 : decode b_Mo_put 218 = .ok (.iinc 4 (-1), 3) := by decide +kernel
theorem d_Mo_put_221 : decode b_Mo_put 221 = .ok (.aload_n 0, 1) := by decide +kernel
theorem d_Mo_put_222 : decode b_Mo_put 222 = .ok (.getfield 50, 3) := by decide +kernel
theorem d_Mo_put_225 : decode b_Mo_put 225 = .ok (.ifCond .le 5, 3) := by decide +kernel
theorem d_Mo_put_228 : decode b_Mo_put 228 = .ok (.iconst 0, 1) := by decide +kernel
theorem d_Mo_put_229 : decode b_Mo_put 229 = .ok (.ireturn, 1) := by decide +kernel
theorem d_Mo_put_230 : decode b_Mo_put 230 = .ok (.goto (-157), 3) := by decide +kernel
theorem d_Mo_put_233 : decode b_Mo_put 233 = .ok (.aload_n 0, 1) := by decide +kernel
theorem d_Mo_put_234 : decode b_Mo_put 234 = .ok (.getfield 28, 3) := by decide +kernel
theorem d_Mo_put_237 : decode b_Mo_put 237 = .ok (.iload_n 1, 1) := by decide +kernel
theorem d_Mo_put_238 : decode b_Mo_put 238 = .ok (.iaload, 1) := by decide +kernel
theorem d_Mo_put_239 : decode b_Mo_put 239 = .ok (.ireturn, 1) := by decide +kernel
theorem d_Mo_changed_0 : decode b_Mo_changed 0 = .ok (.aload_n 0, 1) := by decide +kernel
theorem d_Mo_changed_1 : decode b_Mo_changed 1 = .ok (.getfield 7, 3) := by decide +kernel
theorem d_Mo_changed_4 : decode b_Mo_changed 4 = .ok (.iload_n 1, 1) := by decide +kernel
theorem d_Mo_changed_5 : decode b_Mo_changed 5 = .ok (.iaload, 1) := by decide +kernel
theorem d_Mo_changed_6 : decode b_Mo_changed 6 = .ok (.iconst 2, 1) := by decide +kernel
theorem d_Mo_changed_7 : decode b_Mo_changed 7 = .ok (.if_icmp .ge 31, 3) := by decide +kernel
theorem d_Mo_changed_10 : decode b_Mo_changed 10 = .ok (.aload_n 0, 1) := by decide +kernel
theorem d_Mo_changed_11 : decode b_Mo_changed 11 = .ok (.getfield 7, 3) := by decide +kernel
theorem d_Mo_changed_14 : decode b_Mo_changed 14 = .ok (.iload_n 1, 1) := by decide +kernel
theorem d_Mo_changed_15 : decode b_Mo_changed 15 = .ok (.iaload, 1) := by decide +kernel
theorem d_Mo_changed_16 : decode b_Mo_changed 16 = .ok (.iconst 1, 1) := by decide +kernel
theorem d_Mo_changed_17 : decode b_Mo_changed 17 = .ok (.if_icmp .ne 19, 3) := by decide +kernel
theorem d_Mo_changed_20 : decode b_Mo_changed 20 = .ok (.aload_n 0, 1) := by decide +kernel
theorem d_Mo_changed_21 : decode b_Mo_changed 21 = .ok (.getfield 13, 3) := by decide +kernel
theorem d_Mo_changed_24 : decode b_Mo_changed 24 = .ok (.iload_n 1, 1) := by decide +kernel
theorem d_Mo_changed_25 : decode b_Mo_changed 25 = .ok (.iaload, 1) := by decide +kernel
theorem d_Mo_changed_26 : decode b_Mo_changed 26 = .ok (.iload 4, 2) := by decide +kernel
theorem d_Mo_changed_28 : decode b_Mo_changed 28 = .ok (.if_icmp .ne 8, 3) := by decide +kernel
theorem d_Mo_changed_31 : decode b_Mo_changed 31 = .ok (.iload 5, 2) := by decide +kernel
theorem d_Mo_changed_33 : decode b_Mo_changed 33 = .ok (.goto 4, 3) := by decide +kernel
theorem d_Mo_changed_36 : decode b_Mo_changed 36 = .ok (.iload_n 1, 1) := by decide +kernel
theorem d_Mo_changed_37 : decode b_Mo_changed 37 = .ok (.ireturn, 1) := by decide +kernel
theorem d_Mo_changed_38 : decode b_Mo_changed 38 = .ok (.aload_n 0, 1) := by decide +kernel
theorem d_Mo_changed_39 : decode b_Mo_changed 39 = .ok (.getfield 28, 3) := by decide +kernel
theorem d_Mo_changed_42 : decode b_Mo_changed 42 = .ok (.iload_n 2, 1) := by decide +kernel
theorem d_Mo_changed_43 : decode b_Mo_changed 43 = .ok (.iaload, 1) := by decide +kernel
theorem d_Mo_changed_44 : decode b_Mo_changed 44 = .ok (.istore 6, 2) := by decide +kernel
theorem d_Mo_changed_46 : decode b_Mo_changed 46 = .ok (.iload_n 3, 1) := by decide +kernel
theorem d_Mo_changed_47 : decode b_Mo_changed 47 = .ok (.ifCond .ge 7, 3) := by decide +kernel
theorem d_Mo_changed_50 : decode b_Mo_changed 50 = .ok (.iconst (-1), 1) := by decide +kernel
theorem d_Mo_changed_51 : decode b_Mo_changed 51 = .ok (.goto 9, 3) := by decide +kernel
theorem d_Mo_changed_54 : decode b_Mo_changed 54 = .ok (.aload_n 0, 1) := by decide +kernel
theorem d_Mo_changed_55 : decode b_Mo_changed 55 = .ok (.getfield 28, 3) := by decide +kernel
theorem d_Mo_changed_58 : decode b_Mo_changed 58 = .ok (.iload_n 3, 1) := by decide +kernel
theorem d_Mo_changed_59 : decode b_Mo_changed 59 = .ok (.iaload, 1) := by decide +kernel
theorem d_Mo_changed_60 : decode b_Mo_changed 60 = .ok (.istore 7, 2) := by decide +kernel
theorem d_Mo_changed_62 : decode b_Mo_changed 62 = .ok (.iload 6, 2) := by decide +kernel
theorem d_Mo_changed_64 : decode b_Mo_changed 64 = .ok (.iload_n 2, 1) := by decide +kernel
theorem d_Mo_changed_65 : decode b_Mo_changed 65 = .ok (.if_icmp .ne 11, 3) := by decide +kernel
theorem d_Mo_changed_68 : decode b_Mo_changed 68 = .ok (.iload 7, 2) := by decide +kernel
theorem d_Mo_changed_70 : decode b_Mo_changed 70 = .ok (.iload_n 3, 1) := by decide +kernel
theorem d_Mo_changed_71 : decode b_Mo_changed 71 = .ok (.if_icmp .ne 5, 3) := by decide +kernel
theorem d_Mo_changed_74 : decode b_Mo_changed 74 = .ok (.iload_n 1, 1) := by decide +kernel
theorem d_Mo_changed_75 : decode b_Mo_changed 75 = .ok (.ireturn, 1) := by decide +kernel
theorem d_Mo_changed_76 : decode b_Mo_changed 76 = .ok (.aload_n 0, 1) := by decide +kernel
theorem d_Mo_changed_77 : decode b_Mo_changed 77 = .ok (.getfield 7, 3) := by decide +kernel
theorem d_Mo_changed_80 : decode b_Mo_changed 80 = .ok (.iload_n 1, 1) := by decide +kernel
theorem d_Mo_changed_81 : decode b_Mo_changed 81 = .ok (.iaload, 1) := by decide +kernel
theorem d_Mo_changed_82 : decode b_Mo_changed 82 = .ok (.iconst 2, 1) := by decide +kernel
theorem d_Mo_changed_83 : decode b_Mo_changed 83 = .ok (.if_icmp .ne 22, 3) := by decide +kernel
theorem d_Mo_changed_86 : decode b_Mo_changed 86 = .ok (.aload_n 0, 1) := by decide +kernel
theorem d_Mo_changed_87 : decode b_Mo_changed 87 = .ok (.getfield 19, 3) := by decide +kernel
theorem d_Mo_changed_90 : decode b_Mo_changed 90 = .ok (.iload 6, 2) := by decide +kernel
theorem d_Mo_changed_92 : decode b_Mo_changed 92 = .ok (.iaload, 1) := by decide +kernel
theorem d_Mo_changed_93 : decode b_Mo_changed 93 = .ok (.bipush 60, 2) := by decide +kernel
theorem d_Mo_changed_95 : decode b_Mo_changed 95 = .ok (.if_icmp .ne 10, 3) := by decide +kernel
theorem d_Mo_changed_98 : decode b_Mo_changed 98 = .ok (.aload_n 0, 1) := by decide +kernel
theorem d_Mo_changed_99 : decode b_Mo_changed 99 = .ok (.iconst 2, 1) := by decide +kernel
theorem d_Mo_changed_100 : decode b_Mo_changed 100 = .ok (.putfield 50, 3) := by decide +kernel
theorem d_Mo_changed_103 : decode b_Mo_changed 103 = .ok (.iconst 0, 1) := by decide +kernel
theorem d_Mo_changed_104 : decode b_Mo_changed 104 = .ok (.ireturn, 1) := by decide +kernel
theorem d_Mo_changed_105 : decode b_Mo_changed 105 = .ok (.aload_n 0, 1) := by decide +kernel
theorem d_Mo_changed_106 : decode b_Mo_changed 106 = .ok (.aload_n 0, 1) := by decide +kernel
theorem d_Mo_changed_107 : decode b_Mo_changed 107 = .ok (.getfield 7, 3) := by decide +kernel
theorem d_Mo_changed_110 : decode b_Mo_changed 110 = .ok (.iload_n 1, 1) := by decide +kernel
theorem d_Mo_changed_111 : decode b_Mo_changed 111 = .ok (.iaload, 1) := by decide +kernel
theorem d_Mo_changed_112 : decode b_Mo_changed 112 = .ok (.iload 6, 2) := by decide +kernel
theorem d_Mo_changed_114 : decode b_Mo_changed 114 = .ok (.iload 7, 2) := by decide +kernel
theorem d_Mo_changed_116 : decode b_Mo_changed 116 = .ok (.iconst 3, 1) := by decide +kernel
theorem d_Mo_changed_117 : decode b_Mo_changed 117 = .ok (.invokevirtual 61, 3) := by decide +kernel
theorem d_Mo_changed_120 : decode b_Mo_changed 120 = .ok (.ireturn, 1) := by decide +kernel
theorem d_Mo_value_0 : decode b_Mo_value 0 = .ok (.aload_n 0, 1) := by decide +kernel
theorem d_Mo_value_1 : decode b_Mo_value 1 = .ok (.iconst 0, 1) := by decide +kernel
theorem d_Mo_value_2 : decode b_Mo_value 2 = .ok (.putfield 50, 3) := by decide +kernel
theorem d_Mo_value_5 : decode b_Mo_value 5 = .ok (.aload_n 0, 1) := by decide +kernel
theorem d_Mo_value_6 : decode b_Mo_value 6 = .ok (.iload_n 1, 1) := by decide +kernel
theorem d_Mo_value_7 : decode b_Mo_value 7 = .ok (.invokevirtual 69, 3) := by decide +kernel
theorem d_Mo_value_10 : decode b_Mo_value 10 = .ok (.ifCond .ne 5, 3) := by decide +kernel
theorem d_Mo_value_13 : decode b_Mo_value 13 = .ok (.iconst (-1), 1) := by decide +kernel
theorem d_Mo_value_14 : decode b_Mo_value 14 = .ok (.ireturn, 1) := by decide +kernel
theorem d_Mo_value_15 : decode b_Mo_value 15 = .ok (.iconst 0, 1) := by decide +kernel
theorem d_Mo_value_16 : decode b_Mo_value 16 = .ok (.istore 4, 2) := by decide +kernel
theorem d_Mo_value_18 : decode b_Mo_value 18 = .ok (.iload 4, 2) := by decide +kernel
theorem d_Mo_value_20 : decode b_Mo_value 20 = .ok (.iconst 5, 1) := by decide +kernel
theorem d_Mo_value_21 : decode b_Mo_value 21 = .ok (.if_icmp .ge 28, 3) := by decide +kernel
theorem d_Mo_value_24 : decode b_Mo_value 24 = .ok (.aload_n 0, 1) := by decide +kernel
theorem d_Mo_value_25 : decode b_Mo_value 25 = .ok (.getfield 22, 3) := by decide +kernel
theorem d_Mo_value_28 : decode b_Mo_value 28 = .ok (.iload 4, 2) := by decide +kernel
theorem d_Mo_value_30 : decode b_Mo_value 30 = .ok (.lload_n 2, 1) := by decide +kernel
theorem d_Mo_value_31 : decode b_Mo_value 31 = .ok (.bipush 12, 2) := by decide +kernel
theorem d_Mo_value_33 : decode b_Mo_value 33 = .ok (.iload 4, 2) := by decide +kernel
theorem d_Mo_value_35 : decode b_Mo_value 35 = .ok (.imul, 1) := by decide +kernel
theorem d_Mo_value_36 : decode b_Mo_value 36 = .ok (.lushr, 1) := by decide +kernel
theorem d_Mo_value_37 : decode b_Mo_value 37 = .ok (.ldc2_w 76, 3) := by decide +kernel
theorem d_Mo_value_40 : decode b_Mo_value 40 = .ok (.land, 1) := by decide +kernel
theorem d_Mo_value_41 : decode b_Mo_value 41 = .ok (.l2i, 1) := by decide +kernel
theorem d_Mo_value_42 : decode b_Mo_value 42 = .ok (.iastore, 1) := by decide +kernel
theorem d_Mo_value_43 : decode b_Mo_value 43 = .ok (.iinc 4 1, 3) := by decide +kernel
theorem d_Mo_value_46 : decode b_Mo_value 46 = .ok (.goto (-28), 3) := by decide +kernel
theorem d_Mo_value_49 : decode b_Mo_value 49 = .ok (.aload_n 0, 1) := by decide +kernel
theorem d_Mo_value_50 : decode b_Mo_value 50 = .ok (.invokevirtual 78, 3) := by decide +kernel
theorem d_Mo_value_53 : decode b_Mo_value 53 = .ok (.aload_n 0, 1) := by decide +kernel
theorem d_Mo_value_54 : decode b_Mo_value 54 = .ok (.getfield 25, 3) := by decide +kernel
theorem d_Mo_value_57 : decode b_Mo_value 57 = .ok (.iload_n 1, 1) := by decide +kernel
theorem d_Mo_value_58 : decode b_Mo_value 58 = .ok (.iaload, 1) := by decide +kernel
theorem d_Mo_value_59 : decode b_Mo_value 59 = .ok (.ireturn, 1) := by decide +kernel
theorem d_Mo_reckon_0 : decode b_Mo_reckon 0 = .ok (.iconst 0, 1) := by decide +kernel
theorem d_Mo_reckon_1 : decode b_Mo_reckon 1 = .ok (.istore_n 1, 1) := by decide +kernel
theorem d_Mo_reckon_2 : decode b_Mo_reckon 2 = .ok (.iload_n 1, 1) := by decide +kernel
theorem d_Mo_reckon_3 : decode b_Mo_reckon 3 = .ok (.aload_n 0, 1) := by decide +kernel
theorem d_Mo_reckon_4 : decode b_Mo_reckon 4 = .ok (.getfield 54, 3) := by decide +kernel
theorem d_Mo_reckon_7 : decode b_Mo_reckon 7 = .ok (.if_icmp .ge 156, 3) := by decide +kernel
theorem d_Mo_reckon_10 : decode b_Mo_reckon 10 = .ok (.aload_n 0, 1) := by decide +kernel
theorem d_Mo_reckon_11 : decode b_Mo_reckon 11 = .ok (.getfield 13, 3) := by decide +kernel
theorem d_Mo_reckon_14 : decode b_Mo_reckon 14 = .ok (.iload_n 1, 1) := by decide +kernel
theorem d_Mo_reckon_15 : decode b_Mo_reckon 15 = .ok (.iaload, 1) := by decide +kernel
theorem d_Mo_reckon_16 : decode b_Mo_reckon 16 = .ok (.istore_n 2, 1) := by decide +kernel
theorem d_Mo_reckon_17 : decode b_Mo_reckon 17 = .ok (.aload_n 0, 1) := by decide +kernel
theorem d_Mo_reckon_18 : decode b_Mo_reckon 18 = .ok (.getfield 16, 3) := by decide +kernel
theorem d_Mo_reckon_21 : decode b_Mo_reckon 21 = .ok (.iload_n 1, 1) := by decide +kernel
theorem d_Mo_reckon_22 : decode b_Mo_reckon 22 = .ok (.iaload, 1) := by decide +kernel
theorem d_Mo_reckon_23 : decode b_Mo_reckon 23 = .ok (.istore_n 3, 1) := by decide +kernel
theorem d_Mo_reckon_24 : decode b_Mo_reckon 24 = .ok (.aload_n 0, 1) := by decide +kernel
theorem d_Mo_reckon_25 : decode b_Mo_reckon 25 = .ok (.getfield 7, 3) := by decide +kernel
theorem d_Mo_reckon_28 : decode b_Mo_reckon 28 = .ok (.iload_n 1, 1) := by decide +kernel
theorem d_Mo_reckon_29 : decode b_Mo_reckon 29 = .ok (.iaload, 1) := by decide +kernel
theorem d_Mo_reckon_30 : decode b_Mo_reckon 30 = .ok (.tableswitch 68 0 2 #[26, 36, 51], 26) := by decide +kernel
theorem d_Mo_reckon_56 : decode b_Mo_reckon 56 = .ok (.aload_n 0, 1) := by decide +kernel
theorem d_Mo_reckon_57 : decode b_Mo_reckon 57 = .ok (.getfield 25, 3) := by decide +kernel
theorem d_Mo_reckon_60 : decode b_Mo_reckon 60 = .ok (.iload_n 1, 1) := by decide +kernel
theorem d_Mo_reckon_61 : decode b_Mo_reckon 61 = .ok (.iconst 0, 1) := by decide +kernel
theorem d_Mo_reckon_62 : decode b_Mo_reckon 62 = .ok (.iastore, 1) := by decide +kernel
theorem d_Mo_reckon_63 : decode b_Mo_reckon 63 = .ok (.goto 94, 3) := by decide +kernel
theorem d_Mo_reckon_66 : decode b_Mo_reckon 66 = .ok (.aload_n 0, 1) := by decide +kernel
theorem d_Mo_reckon_67 : decode b_Mo_reckon 67 = .ok (.getfield 25, 3) := by decide +kernel
theorem d_Mo_reckon_70 : decode b_Mo_reckon 70 = .ok (.iload_n 1, 1) := by decide +kernel
theorem d_Mo_reckon_71 : decode b_Mo_reckon 71 = .ok (.aload_n 0, 1) := by decide +kernel
theorem d_Mo_reckon_72 : decode b_Mo_reckon 72 = .ok (.getfield 22, 3) := by decide +kernel
theorem d_Mo_reckon_75 : decode b_Mo_reckon 75 = .ok (.iload_n 2, 1) := by decide +kernel
theorem d_Mo_reckon_76 : decode b_Mo_reckon 76 = .ok (.iaload, 1) := by decide +kernel
theorem d_Mo_reckon_77 : decode b_Mo_reckon 77 = .ok (.iastore, 1) := by decide +kernel
theorem d_Mo_reckon_78 : decode b_Mo_reckon 78 = .ok (.goto 79, 3) := by decide +kernel
theorem d_Mo_reckon_81 : decode b_Mo_reckon 81 = .ok (.aload_n 0, 1) := by decide +kernel
theorem d_Mo_reckon_82 : decode b_Mo_reckon 82 = .ok (.getfield 25, 3) := by decide +kernel
theorem d_Mo_reckon_85 : decode b_Mo_reckon 85 = .ok (.iload_n 1, 1) := by decide +kernel
theorem d_Mo_reckon_86 : decode b_Mo_reckon 86 = .ok (.aload_n 0, 1) := by decide +kernel
theorem d_Mo_reckon_87 : decode b_Mo_reckon 87 = .ok (.getfield 25, 3) := by decide +kernel
theorem d_Mo_reckon_90 : decode b_Mo_reckon 90 = .ok (.iload_n 2, 1) := by decide +kernel
theorem d_Mo_reckon_91 : decode b_Mo_reckon 91 = .ok (.iaload, 1) := by decide +kernel
theorem d_Mo_reckon_92 : decode b_Mo_reckon 92 = .ok (.iconst 1, 1) := by decide +kernel
theorem d_Mo_reckon_93 : decode b_Mo_reckon 93 = .ok (.iadd, 1) := by decide +kernel
theorem d_Mo_reckon_94 : decode b_Mo_reckon 94 = .ok (.iastore, 1) := by decide +kernel
theorem d_Mo_reckon_95 : decode b_Mo_reckon 95 = .ok (.goto 62, 3) := by decide +kernel
theorem d_Mo_reckon_98 : decode b_Mo_reckon 98 = .ok (.aload_n 0, 1) := by decide +kernel
theorem d_Mo_reckon_99 : decode b_Mo_reckon 99 = .ok (.getfield 25, 3) := by decide +kernel
theorem d_Mo_reckon_102 : decode b_Mo_reckon 102 = .ok (.iload_n 1, 1) := by decide +kernel
theorem d_Mo_reckon_103 : decode b_Mo_reckon 103 = .ok (.aload_n 0, 1) := by decide +kernel
theorem d_Mo_reckon_104 : decode b_Mo_reckon 104 = .ok (.getfield 7, 3) := by decide +kernel
theorem d_Mo_reckon_107 : decode b_Mo_reckon 107 = .ok (.iload_n 1, 1) := by decide +kernel
theorem d_Mo_reckon_108 : decode b_Mo_reckon 108 = .ok (.iaload, 1) := by decide +kernel
theorem d_Mo_reckon_109 : decode b_Mo_reckon 109 = .ok (.iconst 4, 1) := by decide +kernel
theorem d_Mo_reckon_110 : decode b_Mo_reckon 110 = .ok (.if_icmp .ne 16, 3) := by decide +kernel
theorem d_Mo_reckon_113 : decode b_Mo_reckon 113 = .ok (.aload_n 0, 1) := by decide +kernel
theorem d_Mo_reckon_114 : decode b_Mo_reckon 114 = .ok (.getfield 25, 3) := by decide +kernel
theorem d_Mo_reckon_117 : decode b_Mo_reckon 117 = .ok (.iload_n 3, 1) := by decide +kernel
theorem d_Mo_reckon_118 : decode b_Mo_reckon 118 = .ok (.iaload, 1) := by decide +kernel
theorem d_Mo_reckon_119 : decode b_Mo_reckon 119 = .ok (.ifCond .ne 7, 3) := by decide +kernel
theorem d_Mo_reckon_122 : decode b_Mo_reckon 122 = .ok (.iconst 0, 1) := by decide +kernel
theorem d_Mo_reckon_123 : decode b_Mo_reckon 123 = .ok (.goto 33, 3) := by decide +kernel
theorem d_Mo_reckon_126 : decode b_Mo_reckon 126 = .ok (.aload_n 0, 1) := by decide +kernel
theorem d_Mo_reckon_127 : decode b_Mo_reckon 127 = .ok (.getfield 25, 3) := by decide +kernel
theorem d_Mo_reckon_130 : decode b_Mo_reckon 130 = .ok (.iload_n 2, 1) := by decide +kernel
theorem d_Mo_reckon_131 : decode b_Mo_reckon 131 = .ok (.iaload, 1) := by decide +kernel
theorem d_Mo_reckon_132 : decode b_Mo_reckon 132 = .ok (.aload_n 0, 1) := by decide +kernel
theorem d_Mo_reckon_133 : decode b_Mo_reckon 133 = .ok (.getfield 25, 3) := by decide +kernel
theorem d_Mo_reckon_136 : decode b_Mo_reckon 136 = .ok (.iload_n 3, 1) := by decide +kernel
theorem d_Mo_reckon_137 : decode b_Mo_reckon 137 = .ok (.iaload, 1) := by decide +kernel
theorem d_Mo_reckon_138 : decode b_Mo_reckon 138 = .ok (.if_icmp .le 12, 3) := by decide +kernel
theorem d_Mo_reckon_141 : decode b_Mo_reckon 141 = .ok (.aload_n 0, 1) := by decide +kernel
theorem d_Mo_reckon_142 : decode b_Mo_reckon 142 = .ok (.getfield 25, 3) := by decide +kernel
theorem d_Mo_reckon_145 : decode b_Mo_reckon 145 = .ok (.iload_n 2, 1) := by decide +kernel
theorem d_Mo_reckon_146 : decode b_Mo_reckon 146 = .ok (.iaload, 1) := by decide +kernel
theorem d_Mo_reckon_147 : decode b_Mo_reckon 147 = .ok (.goto 9, 3) := by decide +kernel
theorem d_Mo_reckon_150 : decode b_Mo_reckon 150 = .ok (.aload_n 0, 1) := by decide +kernel
theorem d_Mo_reckon_151 : decode b_Mo_reckon 151 = .ok (.getfield 25, 3) := by decide +kernel
theorem d_Mo_reckon_154 : decode b_Mo_reckon 154 = .ok (.iload_n 3, 1) := by decide +kernel
theorem d_Mo_reckon_155 : decode b_Mo_reckon 155 = .ok (.iaload, 1) := by decide +kernel
theorem d_Mo_reckon_156 : decode b_Mo_reckon 156 = .ok (.iastore, 1) := by decide +kernel
theorem d_Mo_reckon_157 : decode b_Mo_reckon 157 = .ok (.iinc 1 1, 3) := by decide +kernel
theorem d_Mo_reckon_160 : decode b_Mo_reckon 160 = .ok (.goto (-158), 3) := by decide +kernel
theorem d_Mo_reckon_163 : decode b_Mo_reckon 163 = .ok (.return_, 1) := by decide +kernel
theorem d_Mo_part_0 : decode b_Mo_part 0 = .ok (.aload_n 0, 1) := by decide +kernel
theorem d_Mo_part_1 : decode b_Mo_part 1 = .ok (.aload_n 0, 1) := by decide +kernel
theorem d_Mo_part_2 : decode b_Mo_part 2 = .ok (.iload_n 1, 1) := by decide +kernel
theorem d_Mo_part_3 : decode b_Mo_part 3 = .ok (.invokevirtual 69, 3) := by decide +kernel
theorem d_Mo_part_6 : decode b_Mo_part 6 = .ok (.ifCond .eq 23, 3) := by decide +kernel
theorem d_Mo_part_9 : decode b_Mo_part 9 = .ok (.iload_n 2, 1) := by decide +kernel
theorem d_Mo_part_10 : decode b_Mo_part 10 = .ok (.ifCond .lt 19, 3) := by decide +kernel
theorem d_Mo_part_13 : decode b_Mo_part 13 = .ok (.iload_n 2, 1) := by decide +kernel
theorem d_Mo_part_14 : decode b_Mo_part 14 = .ok (.bipush 31, 2) := by decide +kernel
theorem d_Mo_part_16 : decode b_Mo_part 16 = .ok (.if_icmp .gt 13, 3) := by decide +kernel
theorem d_Mo_part_19 : decode b_Mo_part 19 = .ok (.iload_n 3, 1) := by decide +kernel
theorem d_Mo_part_20 : decode b_Mo_part 20 = .ok (.iconst (-1), 1) := by decide +kernel
theorem d_Mo_part_21 : decode b_Mo_part 21 = .ok (.if_icmp .lt 8, 3) := by decide +kernel
theorem d_Mo_part_24 : decode b_Mo_part 24 = .ok (.iload_n 3, 1) := by decide +kernel
theorem d_Mo_part_25 : decode b_Mo_part 25 = .ok (.iconst 5, 1) := by decide +kernel
theorem d_Mo_part_26 : decode b_Mo_part 26 = .ok (.if_icmp .lt 7, 3) := by decide +kernel
theorem d_Mo_part_29 : decode b_Mo_part 29 = .ok (.iconst 1, 1) := by decide +kernel
theorem d_Mo_part_30 : decode b_Mo_part 30 = .ok (.goto 4, 3) := by decide +kernel
theorem d_Mo_part_33 : decode b_Mo_part 33 = .ok (.iconst 0, 1) := by decide +kernel
theorem d_Mo_part_34 : decode b_Mo_part 34 = .ok (.invokevirtual 65, 3) := by decide +kernel
theorem d_Mo_part_37 : decode b_Mo_part 37 = .ok (.ifCond .eq 5, 3) := by decide +kernel
theorem d_Mo_part_40 : decode b_Mo_part 40 = .ok (.iconst 0, 1) := by decide +kernel
theorem d_Mo_part_41 : decode b_Mo_part 41 = .ok (.ireturn, 1) := by decide +kernel
theorem d_Mo_part_42 : decode b_Mo_part 42 = .ok (.iload_n 3, 1) := by decide +kernel
theorem d_Mo_part_43 : decode b_Mo_part 43 = .ok (.ifCond .lt 11, 3) := by decide +kernel
theorem d_Mo_part_46 : decode b_Mo_part 46 = .ok (.aload_n 0, 1) := by decide +kernel
theorem d_Mo_part_47 : decode b_Mo_part 47 = .ok (.iload_n 1, 1) := by decide +kernel
theorem d_Mo_part_48 : decode b_Mo_part 48 = .ok (.iload_n 2, 1) := by decide +kernel
theorem d_Mo_part_49 : decode b_Mo_part 49 = .ok (.iload_n 3, 1) := by decide +kernel
theorem d_Mo_part_50 : decode b_Mo_part 50 = .ok (.invokevirtual 85, 3) := by decide +kernel
theorem d_Mo_part_53 : decode b_Mo_part 53 = .ok (.ireturn, 1) := by decide +kernel
theorem d_Mo_part_54 : decode b_Mo_part 54 = .ok (.iconst (-1), 1) := by decide +kernel
theorem d_Mo_part_55 : decode b_Mo_part 55 = .ok (.istore 4, 2) := by decide +kernel
theorem d_Mo_part_57 : decode b_Mo_part 57 = .ok (.iconst 0, 1) := by decide +kernel
theorem d_Mo_part_58 : decode b_Mo_part 58 = .ok (.istore 5, 2) := by decide +kernel
theorem d_Mo_part_60 : decode b_Mo_part 60 = .ok (.iload 5, 2) := by decide +kernel
theorem d_Mo_part_62 : decode b_Mo_part 62 = .ok (.iconst 5, 1) := by decide +kernel
theorem d_Mo_part_63 : decode b_Mo_part 63 = .ok (.if_icmp .ge 44, 3) := by decide +kernel
theorem d_Mo_part_66 : decode b_Mo_part 66 = .ok (.aload_n 0, 1) := by decide +kernel
theorem d_Mo_part_67 : decode b_Mo_part 67 = .ok (.iload_n 1, 1) := by decide +kernel
theorem d_Mo_part_68 : decode b_Mo_part 68 = .ok (.iload_n 2, 1) := by decide +kernel
theorem d_Mo_part_69 : decode b_Mo_part 69 = .ok (.iload 5, 2) := by decide +kernel
theorem d_Mo_part_71 : decode b_Mo_part 71 = .ok (.invokevirtual 85, 3) := by decide +kernel
theorem d_Mo_part_74 : decode b_Mo_part 74 = .ok (.istore 6, 2) := by decide +kernel
theorem d_Mo_part_76 : decode b_Mo_part 76 = .ok (.iload 6, 2) := by decide +kernel
theorem d_Mo_part_78 : decode b_Mo_part 78 = .ok (.ifCond .lt 19, 3) := by decide +kernel
theorem d_Mo_part_81 : decode b_Mo_part 81 = .ok (.iload 6, 2) := by decide +kernel
theorem d_Mo_part_83 : decode b_Mo_part 83 = .ok (.iconst 1, 1) := by decide +kernel
theorem d_Mo_part_84 : decode b_Mo_part 84 = .ok (.iadd, 1) := by decide +kernel
theorem d_Mo_part_85 : decode b_Mo_part 85 = .ok (.iload 4, 2) := by decide +kernel
theorem d_Mo_part_87 : decode b_Mo_part 87 = .ok (.if_icmp .le 10, 3) := by decide +kernel
theorem d_Mo_part_90 : decode b_Mo_part 90 = .ok (.iload 6, 2) := by decide +kernel
theorem d_Mo_part_92 : decode b_Mo_part 92 = .ok (.iconst 1, 1) := by decide +kernel
theorem d_Mo_part_93 : decode b_Mo_part 93 = .ok (.iadd, 1) := by decide +kernel
theorem d_Mo_part_94 : decode b_Mo_part 94 = .ok (.goto 5, 3) := by decide +kernel
theorem d_Mo_part_97 : decode b_Mo_part 97 = .ok (.iload 4, 2) := by decide +kernel
theorem d_Mo_part_99 : decode b_Mo_part 99 = .ok (.istore 4, 2) := by decide +kernel
theorem d_Mo_part_101 : decode b_Mo_part 101 = .ok (.iinc 5 1, 3) := by decide +kernel
theorem d_Mo_part_104 : decode b_Mo_part 104 = .ok (.goto (-44), 3) := by decide +kernel
theorem d_Mo_part_107 : decode b_Mo_part 107 = .ok (.aload_n 0, 1) := by decide +kernel
theorem d_Mo_part_108 : decode b_Mo_part 108 = .ok (.iload_n 2, 1) := by decide +kernel
theorem d_Mo_part_109 : decode b_Mo_part 109 = .ok (.iconst 0, 1) := by decide +kernel
theorem d_Mo_part_110 : decode b_Mo_part 110 = .ok (.iconst (-1), 1) := by decide +kernel
theorem d_Mo_part_111 : decode b_Mo_part 111 = .ok (.invokevirtual 81, 3) := by decide +kernel
theorem d_Mo_part_114 : decode b_Mo_part 114 = .ok (.aload_n 0, 1) := by decide +kernel
theorem d_Mo_part_115 : decode b_Mo_part 115 = .ok (.getfield 25, 3) := by decide +kernel
theorem d_Mo_part_118 : decode b_Mo_part 118 = .ok (.iload_n 1, 1) := by decide +kernel
theorem d_Mo_part_119 : decode b_Mo_part 119 = .ok (.iaload, 1) := by decide +kernel
theorem d_Mo_part_120 : decode b_Mo_part 120 = .ok (.iload 4, 2) := by decide +kernel
theorem d_Mo_part_122 : decode b_Mo_part 122 = .ok (.if_icmp .le 12, 3) := by decide +kernel
theorem d_Mo_part_125 : decode b_Mo_part 125 = .ok (.aload_n 0, 1) := by decide +kernel
theorem d_Mo_part_126 : decode b_Mo_part 126 = .ok (.getfield 25, 3) := by decide +kernel
theorem d_Mo_part_129 : decode b_Mo_part 129 = .ok (.iload_n 1, 1) := by decide +kernel
theorem d_Mo_part_130 : decode b_Mo_part 130 = .ok (.iaload, 1) := by decide +kernel
theorem d_Mo_part_131 : decode b_Mo_part 131 = .ok (.goto 4, 3) := by decide +kernel
theorem d_Mo_part_134 : decode b_Mo_part 134 = .ok (.iconst (-1), 1) := by decide +kernel
theorem d_Mo_part_135 : decode b_Mo_part 135 = .ok (.ireturn, 1) := by decide +kernel
theorem d_Mo_growth_0 : decode b_Mo_growth 0 = .ok (.iload_n 2, 1) := by decide +kernel
theorem d_Mo_growth_1 : decode b_Mo_growth 1 = .ok (.iload_n 3, 1) := by decide +kernel
theorem d_Mo_growth_2 : decode b_Mo_growth 2 = .ok (.ishr, 1) := by decide +kernel
theorem d_Mo_growth_3 : decode b_Mo_growth 3 = .ok (.iconst 1, 1) := by decide +kernel
theorem d_Mo_growth_4 : decode b_Mo_growth 4 = .ok (.iand, 1) := by decide +kernel
theorem d_Mo_growth_5 : decode b_Mo_growth 5 = .ok (.ifCond .ne 5, 3) := by decide +kernel
theorem d_Mo_growth_8 : decode b_Mo_growth 8 = .ok (.iconst (-1), 1) := by decide +kernel
theorem d_Mo_growth_9 : decode b_Mo_growth 9 = .ok (.ireturn, 1) := by decide +kernel
theorem d_Mo_growth_10 : decode b_Mo_growth 10 = .ok (.aload_n 0, 1) := by decide +kernel
theorem d_Mo_growth_11 : decode b_Mo_growth 11 = .ok (.iload_n 2, 1) := by decide +kernel
theorem d_Mo_growth_12 : decode b_Mo_growth 12 = .ok (.iconst 0, 1) := by decide +kernel
theorem d_Mo_growth_13 : decode b_Mo_growth 13 = .ok (.iload_n 3, 1) := by decide +kernel
theorem d_Mo_growth_14 : decode b_Mo_growth 14 = .ok (.invokevirtual 81, 3) := by decide +kernel
theorem d_Mo_growth_17 : decode b_Mo_growth 17 = .ok (.aload_n 0, 1) := by decide +kernel
theorem d_Mo_growth_18 : decode b_Mo_growth 18 = .ok (.getfield 25, 3) := by decide +kernel
theorem d_Mo_growth_21 : decode b_Mo_growth 21 = .ok (.iload_n 1, 1) := by decide +kernel
theorem d_Mo_growth_22 : decode b_Mo_growth 22 = .ok (.iaload, 1) := by decide +kernel
theorem d_Mo_growth_23 : decode b_Mo_growth 23 = .ok (.sipush 200, 3) := by decide +kernel
theorem d_Mo_growth_26 : decode b_Mo_growth 26 = .ok (.if_icmp .lt 16, 3) := by decide +kernel
theorem d_Mo_growth_29 : decode b_Mo_growth 29 = .ok (.aload_n 0, 1) := by decide +kernel
theorem d_Mo_growth_30 : decode b_Mo_growth 30 = .ok (.getfield 25, 3) := by decide +kernel
theorem d_Mo_growth_33 : decode b_Mo_growth 33 = .ok (.iload_n 1, 1) := by decide +kernel
theorem d_Mo_growth_34 : decode b_Mo_growth 34 = .ok (.iaload, 1) := by decide +kernel
theorem d_Mo_growth_35 : decode b_Mo_growth 35 = .ok (.sipush 200, 3) := by decide +kernel
theorem d_Mo_growth_38 : decode b_Mo_growth 38 = .ok (.isub, 1) := by decide +kernel
theorem d_Mo_growth_39 : decode b_Mo_growth 39 = .ok (.goto 4, 3) := by decide +kernel
theorem d_Mo_growth_42 : decode b_Mo_growth 42 = .ok (.iconst (-1), 1) := by decide +kernel
theorem d_Mo_growth_43 : decode b_Mo_growth 43 = .ok (.ireturn, 1) := by decide +kernel
theorem d_Mo_rest_0 : decode b_Mo_rest 0 = .ok (.iload_n 2, 1) := by decide +kernel
theorem d_Mo_rest_1 : decode b_Mo_rest 1 = .ok (.istore 4, 2) := by decide +kernel
theorem d_Mo_rest_3 : decode b_Mo_rest 3 = .ok (.iload 4, 2) := by decide +kernel
theorem d_Mo_rest_5 : decode b_Mo_rest 5 = .ok (.iconst 5, 1) := by decide +kernel
theorem d_Mo_rest_6 : decode b_Mo_rest 6 = .ok (.if_icmp .ge 42, 3) := by decide +kernel
theorem d_Mo_rest_9 : decode b_Mo_rest 9 = .ok (.aload_n 0, 1) := by decide +kernel
theorem d_Mo_rest_10 : decode b_Mo_rest 10 = .ok (.getfield 22, 3) := by decide +kernel
theorem d_Mo_rest_13 : decode b_Mo_rest 13 = .ok (.iload 4, 2) := by decide +kernel
theorem d_Mo_rest_15 : decode b_Mo_rest 15 = .ok (.iload_n 1, 1) := by decide +kernel
theorem d_Mo_rest_16 : decode b_Mo_rest 16 = .ok (.iload 4, 2) := by decide +kernel
theorem d_Mo_rest_18 : decode b_Mo_rest 18 = .ok (.ishr, 1) := by decide +kernel
theorem d_Mo_rest_19 : decode b_Mo_rest 19 = .ok (.iconst 1, 1) := by decide +kernel
theorem d_Mo_rest_20 : decode b_Mo_rest 20 = .ok (.iand, 1) := by decide +kernel
theorem d_Mo_rest_21 : decode b_Mo_rest 21 = .ok (.ifCond .ne 7, 3) := by decide +kernel
theorem d_Mo_rest_24 : decode b_Mo_rest 24 = .ok (.iconst 0, 1) := by decide +kernel
theorem d_Mo_rest_25 : decode b_Mo_rest 25 = .ok (.goto 16, 3) := by decide +kernel
theorem d_Mo_rest_28 : decode b_Mo_rest 28 = .ok (.iload 4, 2) := by decide +kernel
theorem d_Mo_rest_30 : decode b_Mo_rest 30 = .ok (.iload_n 3, 1) := by decide +kernel
theorem d_Mo_rest_31 : decode b_Mo_rest 31 = .ok (.if_icmp .ne 9, 3) := by decide +kernel
theorem d_Mo_rest_34 : decode b_Mo_rest 34 = .ok (.sipush 200, 3) := by decide +kernel
theorem d_Mo_rest_37 : decode b_Mo_rest 37 = .ok (.goto 4, 3) := by decide +kernel
theorem d_Mo_rest_40 : decode b_Mo_rest 40 = .ok (.iconst 1, 1) := by decide +kernel
theorem d_Mo_rest_41 : decode b_Mo_rest 41 = .ok (.iastore, 1) := by decide +kernel
theorem d_Mo_rest_42 : decode b_Mo_rest 42 = .ok (.iinc 4 1, 3) := by decide +kernel
theorem d_Mo_rest_45 : decode b_Mo_rest 45 = .ok (.goto (-42), 3) := by decide +kernel
theorem d_Mo_rest_48 : decode b_Mo_rest 48 = .ok (.aload_n 0, 1) := by decide +kernel
theorem d_Mo_rest_49 : decode b_Mo_rest 49 = .ok (.invokevirtual 78, 3) := by decide +kernel
theorem d_Mo_rest_52 : decode b_Mo_rest 52 = .ok (.return_, 1) := by decide +kernel
theorem d_Mo_isAtMost_0 : decode b_Mo_isAtMost 0 = .ok (.aload_n 0, 1) := by decide +kernel
theorem d_Mo_isAtMost_1 : decode b_Mo_isAtMost 1 = .ok (.aload_n 0, 1) := by decide +kernel
theorem d_Mo_isAtMost_2 : decode b_Mo_isAtMost 2 = .ok (.iload_n 1, 1) := by decide +kernel
theorem d_Mo_isAtMost_3 : decode b_Mo_isAtMost 3 = .ok (.invokevirtual 69, 3) := by decide +kernel
theorem d_Mo_isAtMost_6 : decode b_Mo_isAtMost 6 = .ok (.ifCond .eq 11, 3) := by decide +kernel
theorem d_Mo_isAtMost_9 : decode b_Mo_isAtMost 9 = .ok (.aload_n 0, 1) := by decide +kernel
theorem d_Mo_isAtMost_10 : decode b_Mo_isAtMost 10 = .ok (.iload_n 2, 1) := by decide +kernel
theorem d_Mo_isAtMost_11 : decode b_Mo_isAtMost 11 = .ok (.invokevirtual 69, 3) := by decide +kernel
theorem d_Mo_isAtMost_14 : decode b_Mo_isAtMost 14 = .ok (.ifCond .ne 7, 3) := by decide +kernel
theorem d_Mo_isAtMost_17 : decode b_Mo_isAtMost 17 = .ok (.iconst 1, 1) := by decide +kernel
theorem d_Mo_isAtMost_18 : decode b_Mo_isAtMost 18 = .ok (.goto 4, 3) := by decide +kernel
theorem d_Mo_isAtMost_21 : decode b_Mo_isAtMost 21 = .ok (.iconst 0, 1) := by decide +kernel
theorem d_Mo_isAtMost_22 : decode b_Mo_isAtMost 22 = .ok (.invokevirtual 65, 3) := by decide +kernel
theorem d_Mo_isAtMost_25 : decode b_Mo_isAtMost 25 = .ok (.ifCond .ne 17, 3) := by decide +kernel
theorem d_Mo_isAtMost_28 : decode b_Mo_isAtMost 28 = .ok (.aload_n 0, 1) := by decide +kernel
theorem d_Mo_isAtMost_29 : decode b_Mo_isAtMost 29 = .ok (.iload_n 1, 1) := by decide +kernel
theorem d_Mo_isAtMost_30 : decode b_Mo_isAtMost 30 = .ok (.iload_n 2, 1) := by decide +kernel
theorem d_Mo_isAtMost_31 : decode b_Mo_isAtMost 31 = .ok (.invokevirtual 92, 3) := by decide +kernel
theorem d_Mo_isAtMost_34 : decode b_Mo_isAtMost 34 = .ok (.iconst (-1), 1) := by decide +kernel
theorem d_Mo_isAtMost_35 : decode b_Mo_isAtMost 35 = .ok (.if_icmp .ne 7, 3) := by decide +kernel
theorem d_Mo_isAtMost_38 : decode b_Mo_isAtMost 38 = .ok (.iconst 1, 1) := by decide +kernel
theorem d_Mo_isAtMost_39 : decode b_Mo_isAtMost 39 = .ok (.goto 4, 3) := by decide +kernel
theorem d_Mo_isAtMost_42 : decode b_Mo_isAtMost 42 = .ok (.iconst 0, 1) := by decide +kernel
theorem d_Mo_isAtMost_43 : decode b_Mo_isAtMost 43 = .ok (.ireturn, 1) := by decide +kernel
theorem d_Mo_regionOf_0 : decode b_Mo_regionOf 0 = .ok (.iconst 0, 1) := by decide +kernel
theorem d_Mo_regionOf_1 : decode b_Mo_regionOf 1 = .ok (.istore_n 3, 1) := by decide +kernel
theorem d_Mo_regionOf_2 : decode b_Mo_regionOf 2 = .ok (.iload_n 3, 1) := by decide +kernel
theorem d_Mo_regionOf_3 : decode b_Mo_regionOf 3 = .ok (.bipush 32, 2) := by decide +kernel
theorem d_Mo_regionOf_5 : decode b_Mo_regionOf 5 = .ok (.if_icmp .ge 22, 3) := by decide +kernel
theorem d_Mo_regionOf_8 : decode b_Mo_regionOf 8 = .ok (.aload_n 0, 1) := by decide +kernel
theorem d_Mo_regionOf_9 : decode b_Mo_regionOf 9 = .ok (.iload_n 1, 1) := by decide +kernel
theorem d_Mo_regionOf_10 : decode b_Mo_regionOf 10 = .ok (.iload_n 2, 1) := by decide +kernel
theorem d_Mo_regionOf_11 : decode b_Mo_regionOf 11 = .ok (.iload_n 3, 1) := by decide +kernel
theorem d_Mo_regionOf_12 : decode b_Mo_regionOf 12 = .ok (.iconst 0, 1) := by decide +kernel
theorem d_Mo_regionOf_13 : decode b_Mo_regionOf 13 = .ok (.invokevirtual 88, 3) := by decide +kernel
theorem d_Mo_regionOf_16 : decode b_Mo_regionOf 16 = .ok (.ifCond .eq 5, 3) := by decide +kernel
theorem d_Mo_regionOf_19 : decode b_Mo_regionOf 19 = .ok (.iload_n 3, 1) := by decide +kernel
theorem d_Mo_regionOf_20 : decode b_Mo_regionOf 20 = .ok (.ireturn, 1) := by decide +kernel
theorem d_Mo_regionOf_21 : decode b_Mo_regionOf 21 = .ok (.iinc 3 1, 3) := by decide +kernel
theorem d_Mo_regionOf_24 : decode b_Mo_regionOf 24 = .ok (.goto (-22), 3) := by decide +kernel
theorem d_Mo_regionOf_27 : decode b_Mo_regionOf 27 = .ok (.iconst (-1), 1) := by decide +kernel
theorem d_Mo_regionOf_28 : decode b_Mo_regionOf 28 = .ok (.ireturn, 1) := by decide +kernel
theorem d_Mo_goesOn_0 : decode b_Mo_goesOn 0 = .ok (.iconst 0, 1) := by decide +kernel
theorem d_Mo_goesOn_1 : decode b_Mo_goesOn 1 = .ok (.istore 5, 2) := by decide +kernel
theorem d_Mo_goesOn_3 : decode b_Mo_goesOn 3 = .ok (.iload 4, 2) := by decide +kernel
theorem d_Mo_goesOn_5 : decode b_Mo_goesOn 5 = .ok (.iconst 1, 1) := by decide +kernel
theorem d_Mo_goesOn_6 : decode b_Mo_goesOn 6 = .ok (.isub, 1) := by decide +kernel
theorem d_Mo_goesOn_7 : decode b_Mo_goesOn 7 = .ok (.istore 6, 2) := by decide +kernel
theorem d_Mo_goesOn_9 : decode b_Mo_goesOn 9 = .ok (.iload 6, 2) := by decide +kernel
theorem d_Mo_goesOn_11 : decode b_Mo_goesOn 11 = .ok (.iconst 5, 1) := by decide +kernel
theorem d_Mo_goesOn_12 : decode b_Mo_goesOn 12 = .ok (.if_icmp .ge 75, 3) := by decide +kernel
theorem d_Mo_goesOn_15 : decode b_Mo_goesOn 15 = .ok (.iload 5, 2) := by decide +kernel
theorem d_Mo_goesOn_17 : decode b_Mo_goesOn 17 = .ok (.ifCond .ne 70, 3) := by decide +kernel
theorem d_Mo_goesOn_20 : decode b_Mo_goesOn 20 = .ok (.iload 6, 2) := by decide +kernel
theorem d_Mo_goesOn_22 : decode b_Mo_goesOn 22 = .ok (.iload 4, 2) := by decide +kernel
theorem d_Mo_goesOn_24 : decode b_Mo_goesOn 24 = .ok (.if_icmp .lt 15, 3) := by decide +kernel
theorem d_Mo_goesOn_27 : decode b_Mo_goesOn 27 = .ok (.iload_n 3, 1) := by decide +kernel
theorem d_Mo_goesOn_28 : decode b_Mo_goesOn 28 = .ok (.iload 6, 2) := by decide +kernel
theorem d_Mo_goesOn_30 : decode b_Mo_goesOn 30 = .ok (.ishr, 1) := by decide +kernel
theorem d_Mo_goesOn_31 : decode b_Mo_goesOn 31 = .ok (.iconst 1, 1) := by decide +kernel
theorem d_Mo_goesOn_32 : decode b_Mo_goesOn 32 = .ok (.iand, 1) := by decide +kernel
theorem d_Mo_goesOn_33 : decode b_Mo_goesOn 33 = .ok (.ifCond .ne 6, 3) := by decide +kernel
theorem d_Mo_goesOn_36 : decode b_Mo_goesOn 36 = .ok (.goto 45, 3) := by decide +kernel
theorem d_Mo_goesOn_39 : decode b_Mo_goesOn 39 = .ok (.aload_n 0, 1) := by decide +kernel
theorem d_Mo_goesOn_40 : decode b_Mo_goesOn 40 = .ok (.iload_n 3, 1) := by decide +kernel
theorem d_Mo_goesOn_41 : decode b_Mo_goesOn 41 = .ok (.iload 4, 2) := by decide +kernel
theorem d_Mo_goesOn_43 : decode b_Mo_goesOn 43 = .ok (.iload 6, 2) := by decide +kernel
theorem d_Mo_goesOn_45 : decode b_Mo_goesOn 45 = .ok (.iload 4, 2) := by decide +kernel
theorem d_Mo_goesOn_47 : decode b_Mo_goesOn 47 = .ok (.if_icmp .ge 7, 3) := by decide +kernel
theorem d_Mo_goesOn_50 : decode b_Mo_goesOn 50 = .ok (.iconst (-1), 1) := by decide +kernel
theorem d_Mo_goesOn_51 : decode b_Mo_goesOn 51 = .ok (.goto 5, 3) := by decide +kernel
theorem d_Mo_goesOn_54 : decode b_Mo_goesOn 54 = .ok (.iload 6, 2) := by decide +kernel
theorem d_Mo_goesOn_56 : decode b_Mo_goesOn 56 = .ok (.invokevirtual 81, 3) := by decide +kernel
theorem d_Mo_goesOn_59 : decode b_Mo_goesOn 59 = .ok (.aload_n 0, 1) := by decide +kernel
theorem d_Mo_goesOn_60 : decode b_Mo_goesOn 60 = .ok (.getfield 25, 3) := by decide +kernel
theorem d_Mo_goesOn_63 : decode b_Mo_goesOn 63 = .ok (.iload_n 1, 1) := by decide +kernel
theorem d_Mo_goesOn_64 : decode b_Mo_goesOn 64 = .ok (.iaload, 1) := by decide +kernel
theorem d_Mo_goesOn_65 : decode b_Mo_goesOn 65 = .ok (.aload_n 0, 1) := by decide +kernel
theorem d_Mo_goesOn_66 : decode b_Mo_goesOn 66 = .ok (.getfield 25, 3) := by decide +kernel
theorem d_Mo_goesOn_69 : decode b_Mo_goesOn 69 = .ok (.iload_n 2, 1) := by decide +kernel
theorem d_Mo_goesOn_70 : decode b_Mo_goesOn 70 = .ok (.iaload, 1) := by decide +kernel
theorem d_Mo_goesOn_71 : decode b_Mo_goesOn 71 = .ok (.if_icmp .le 7, 3) := by decide +kernel
theorem d_Mo_goesOn_74 : decode b_Mo_goesOn 74 = .ok (.iconst 1, 1) := by decide +kernel
theorem d_Mo_goesOn_75 : decode b_Mo_goesOn 75 = .ok (.goto 4, 3) := by decide +kernel
theorem d_Mo_goesOn_78 : decode b_Mo_goesOn 78 = .ok (.iconst 0, 1) := by decide +kernel
theorem d_Mo_goesOn_79 : decode b_Mo_goesOn 79 = .ok (.istore 5, 2) := by decide +kernel
theorem d_Mo_goesOn_81 : decode b_Mo_goesOn 81 = .ok (.iinc 6 1, 3) := by decide +kernel
theorem d_Mo_goesOn_84 : decode b_Mo_goesOn 84 = .ok (.goto (-75), 3) := by decide +kernel
theorem d_Mo_goesOn_87 : decode b_Mo_goesOn 87 = .ok (.iload 5, 2) := by decide +kernel
theorem d_Mo_goesOn_89 : decode b_Mo_goesOn 89 = .ok (.ireturn, 1) := by decide +kernel
theorem d_Mo_isSame_0 : decode b_Mo_isSame 0 = .ok (.aload_n 0, 1) := by decide +kernel
theorem d_Mo_isSame_1 : decode b_Mo_isSame 1 = .ok (.aload_n 0, 1) := by decide +kernel
theorem d_Mo_isSame_2 : decode b_Mo_isSame 2 = .ok (.iload_n 1, 1) := by decide +kernel
theorem d_Mo_isSame_3 : decode b_Mo_isSame 3 = .ok (.invokevirtual 69, 3) := by decide +kernel
theorem d_Mo_isSame_6 : decode b_Mo_isSame 6 = .ok (.ifCond .eq 11, 3) := by decide +kernel
theorem d_Mo_isSame_9 : decode b_Mo_isSame 9 = .ok (.aload_n 0, 1) := by decide +kernel
theorem d_Mo_isSame_10 : decode b_Mo_isSame 10 = .ok (.iload_n 2, 1) := by decide +kernel
theorem d_Mo_isSame_11 : decode b_Mo_isSame 11 = .ok (.invokevirtual 69, 3) := by decide +kernel
theorem d_Mo_isSame_14 : decode b_Mo_isSame 14 = .ok (.ifCond .ne 7, 3) := by decide +kernel
theorem d_Mo_isSame_17 : decode b_Mo_isSame 17 = .ok (.iconst 1, 1) := by decide +kernel
theorem d_Mo_isSame_18 : decode b_Mo_isSame 18 = .ok (.goto 4, 3) := by decide +kernel
theorem d_Mo_isSame_21 : decode b_Mo_isSame 21 = .ok (.iconst 0, 1) := by decide +kernel
theorem d_Mo_isSame_22 : decode b_Mo_isSame 22 = .ok (.invokevirtual 65, 3) := by decide +kernel
theorem d_Mo_isSame_25 : decode b_Mo_isSame 25 = .ok (.ifCond .ne 16, 3) := by decide +kernel
theorem d_Mo_isSame_28 : decode b_Mo_isSame 28 = .ok (.aload_n 0, 1) := by decide +kernel
theorem d_Mo_isSame_29 : decode b_Mo_isSame 29 = .ok (.iload_n 1, 1) := by decide +kernel
theorem d_Mo_isSame_30 : decode b_Mo_isSame 30 = .ok (.iload_n 2, 1) := by decide +kernel
theorem d_Mo_isSame_31 : decode b_Mo_isSame 31 = .ok (.invokevirtual 96, 3) := by decide +kernel
theorem d_Mo_isSame_34 : decode b_Mo_isSame 34 = .ok (.ifCond .eq 7, 3) := by decide +kernel
theorem d_Mo_isSame_37 : decode b_Mo_isSame 37 = .ok (.iconst 1, 1) := by decide +kernel
theorem d_Mo_isSame_38 : decode b_Mo_isSame 38 = .ok (.goto 4, 3) := by decide +kernel
theorem d_Mo_isSame_41 : decode b_Mo_isSame 41 = .ok (.iconst 0, 1) := by decide +kernel
theorem d_Mo_isSame_42 : decode b_Mo_isSame 42 = .ok (.ireturn, 1) := by decide +kernel
theorem d_Mo_isSameLevel_0 : decode b_Mo_isSameLevel 0 = .ok (.aload_n 0, 1) := by decide +kernel
theorem d_Mo_isSameLevel_1 : decode b_Mo_isSameLevel 1 = .ok (.iload_n 1, 1) := by decide +kernel
theorem d_Mo_isSameLevel_2 : decode b_Mo_isSameLevel 2 = .ok (.iload_n 2, 1) := by decide +kernel
theorem d_Mo_isSameLevel_3 : decode b_Mo_isSameLevel 3 = .ok (.invokevirtual 92, 3) := by decide +kernel
theorem d_Mo_isSameLevel_6 : decode b_Mo_isSameLevel 6 = .ok (.iconst (-1), 1) := by decide +kernel
theorem d_Mo_isSameLevel_7 : decode b_Mo_isSameLevel 7 = .ok (.if_icmp .ne 17, 3) := by decide +kernel
theorem d_Mo_isSameLevel_10 : decode b_Mo_isSameLevel 10 = .ok (.aload_n 0, 1) := by decide +kernel
theorem d_Mo_isSameLevel_11 : decode b_Mo_isSameLevel 11 = .ok (.iload_n 2, 1) := by decide +kernel
theorem d_Mo_isSameLevel_12 : decode b_Mo_isSameLevel 12 = .ok (.iload_n 1, 1) := by decide +kernel
theorem d_Mo_isSameLevel_13 : decode b_Mo_isSameLevel 13 = .ok (.invokevirtual 92, 3) := by decide +kernel
theorem d_Mo_isSameLevel_16 : decode b_Mo_isSameLevel 16 = .ok (.iconst (-1), 1) := by decide +kernel
theorem d_Mo_isSameLevel_17 : decode b_Mo_isSameLevel 17 = .ok (.if_icmp .ne 7, 3) := by decide +kernel
theorem d_Mo_isSameLevel_20 : decode b_Mo_isSameLevel 20 = .ok (.iconst 1, 1) := by decide +kernel
theorem d_Mo_isSameLevel_21 : decode b_Mo_isSameLevel 21 = .ok (.goto 4, 3) := by decide +kernel
theorem d_Mo_isSameLevel_24 : decode b_Mo_isSameLevel 24 = .ok (.iconst 0, 1) := by decide +kernel
theorem d_Mo_isSameLevel_25 : decode b_Mo_isSameLevel 25 = .ok (.ireturn, 1) := by decide +kernel
theorem d_Mo_least_0 : decode b_Mo_least 0 = .ok (.aload_n 0, 1) := by decide +kernel
theorem d_Mo_least_1 : decode b_Mo_least 1 = .ok (.aload_n 0, 1) := by decide +kernel
theorem d_Mo_least_2 : decode b_Mo_least 2 = .ok (.iload_n 1, 1) := by decide +kernel
theorem d_Mo_least_3 : decode b_Mo_least 3 = .ok (.invokevirtual 69, 3) := by decide +kernel
theorem d_Mo_least_6 : decode b_Mo_least 6 = .ok (.ifCond .ne 7, 3) := by decide +kernel
theorem d_Mo_least_9 : decode b_Mo_least 9 = .ok (.iconst 1, 1) := by decide +kernel
theorem d_Mo_least_10 : decode b_Mo_least 10 = .ok (.goto 4, 3) := by decide +kernel
theorem d_Mo_least_13 : decode b_Mo_least 13 = .ok (.iconst 0, 1) := by decide +kernel
theorem d_Mo_least_14 : decode b_Mo_least 14 = .ok (.invokevirtual 65, 3) := by decide +kernel
theorem d_Mo_least_17 : decode b_Mo_least 17 = .ok (.ifCond .eq 5, 3) := by decide +kernel
theorem d_Mo_least_20 : decode b_Mo_least 20 = .ok (.iconst 0, 1) := by decide +kernel
theorem d_Mo_least_21 : decode b_Mo_least 21 = .ok (.ireturn, 1) := by decide +kernel
theorem d_Mo_least_22 : decode b_Mo_least 22 = .ok (.iconst 0, 1) := by decide +kernel
theorem d_Mo_least_23 : decode b_Mo_least 23 = .ok (.istore_n 2, 1) := by decide +kernel
theorem d_Mo_least_24 : decode b_Mo_least 24 = .ok (.aload_n 0, 1) := by decide +kernel
theorem d_Mo_least_25 : decode b_Mo_least 25 = .ok (.iload_n 2, 1) := by decide +kernel
theorem d_Mo_least_26 : decode b_Mo_least 26 = .ok (.iload_n 1, 1) := by decide +kernel
theorem d_Mo_least_27 : decode b_Mo_least 27 = .ok (.invokevirtual 96, 3) := by decide +kernel
theorem d_Mo_least_30 : decode b_Mo_least 30 = .ok (.ifCond .ne 9, 3) := by decide +kernel
theorem d_Mo_least_33 : decode b_Mo_least 33 = .ok (.iinc 2 1, 3) := by decide +kernel
theorem d_Mo_least_36 : decode b_Mo_least 36 = .ok (.goto (-12), 3) := by decide +kernel
theorem d_Mo_least_39 : decode b_Mo_least 39 = .ok (.iload_n 2, 1) := by decide +kernel
theorem d_Mo_least_40 : decode b_Mo_least 40 = .ok (.ireturn, 1) := by decide +kernel
theorem d_Mo_above_0 : decode b_Mo_above 0 = .ok (.aload_n 0, 1) := by decide +kernel
theorem d_Mo_above_1 : decode b_Mo_above 1 = .ok (.aload_n 0, 1) := by decide +kernel
theorem d_Mo_above_2 : decode b_Mo_above 2 = .ok (.iload_n 1, 1) := by decide +kernel
theorem d_Mo_above_3 : decode b_Mo_above 3 = .ok (.invokevirtual 69, 3) := by decide +kernel
theorem d_Mo_above_6 : decode b_Mo_above 6 = .ok (.ifCond .eq 11, 3) := by decide +kernel
theorem d_Mo_above_9 : decode b_Mo_above 9 = .ok (.aload_n 0, 1) := by decide +kernel
theorem d_Mo_above_10 : decode b_Mo_above 10 = .ok (.iload_n 2, 1) := by decide +kernel
theorem d_Mo_above_11 : decode b_Mo_above 11 = .ok (.invokevirtual 69, 3) := by decide +kernel
theorem d_Mo_above_14 : decode b_Mo_above 14 = .ok (.ifCond .ne 7, 3) := by decide +kernel
theorem d_Mo_above_17 : decode b_Mo_above 17 = .ok (.iconst 1, 1) := by decide +kernel
theorem d_Mo_above_18 : decode b_Mo_above 18 = .ok (.goto 4, 3) := by decide +kernel
theorem d_Mo_above_21 : decode b_Mo_above 21 = .ok (.iconst 0, 1) := by decide +kernel
theorem d_Mo_above_22 : decode b_Mo_above 22 = .ok (.invokevirtual 65, 3) := by decide +kernel
theorem d_Mo_above_25 : decode b_Mo_above 25 = .ok (.ifCond .eq 5, 3) := by decide +kernel
theorem d_Mo_above_28 : decode b_Mo_above 28 = .ok (.lconst 0, 1) := by decide +kernel
theorem d_Mo_above_29 : decode b_Mo_above 29 = .ok (.lreturn, 1) := by decide +kernel
theorem d_Mo_above_30 : decode b_Mo_above 30 = .ok (.aload_n 0, 1) := by decide +kernel
theorem d_Mo_above_31 : decode b_Mo_above 31 = .ok (.iload_n 1, 1) := by decide +kernel
theorem d_Mo_above_32 : decode b_Mo_above 32 = .ok (.iload_n 2, 1) := by decide +kernel
theorem d_Mo_above_33 : decode b_Mo_above 33 = .ok (.invokevirtual 92, 3) := by decide +kernel
theorem d_Mo_above_36 : decode b_Mo_above 36 = .ok (.istore_n 3, 1) := by decide +kernel
theorem d_Mo_above_37 : decode b_Mo_above 37 = .ok (.iload_n 3, 1) := by decide +kernel
theorem d_Mo_above_38 : decode b_Mo_above 38 = .ok (.iconst (-1), 1) := by decide +kernel
theorem d_Mo_above_39 : decode b_Mo_above 39 = .ok (.if_icmp .ne 7, 3) := by decide +kernel
theorem d_Mo_above_42 : decode b_Mo_above 42 = .ok (.ldc2_w 100, 3) := by decide +kernel
theorem d_Mo_above_45 : decode b_Mo_above 45 = .ok (.lreturn, 1) := by decide +kernel
theorem d_Mo_above_46 : decode b_Mo_above 46 = .ok (.lconst 0, 1) := by decide +kernel
theorem d_Mo_above_47 : decode b_Mo_above 47 = .ok (.lstore 4, 2) := by decide +kernel
theorem d_Mo_above_49 : decode b_Mo_above 49 = .ok (.iconst 0, 1) := by decide +kernel
theorem d_Mo_above_50 : decode b_Mo_above 50 = .ok (.istore 6, 2) := by decide +kernel
theorem d_Mo_above_52 : decode b_Mo_above 52 = .ok (.iload 6, 2) := by decide +kernel
theorem d_Mo_above_54 : decode b_Mo_above 54 = .ok (.iconst 5, 1) := by decide +kernel
theorem d_Mo_above_55 : decode b_Mo_above 55 = .ok (.if_icmp .ge 109, 3) := by decide +kernel
theorem d_Mo_above_58 : decode b_Mo_above 58 = .ok (.iload_n 3, 1) := by decide +kernel
theorem d_Mo_above_59 : decode b_Mo_above 59 = .ok (.iload 6, 2) := by decide +kernel
theorem d_Mo_above_61 : decode b_Mo_above 61 = .ok (.ishr, 1) := by decide +kernel
theorem d_Mo_above_62 : decode b_Mo_above 62 = .ok (.iconst 1, 1) := by decide +kernel
theorem d_Mo_above_63 : decode b_Mo_above 63 = .ok (.iand, 1) := by decide +kernel
theorem d_Mo_above_64 : decode b_Mo_above 64 = .ok (.iconst 1, 1) := by decide +kernel
theorem d_Mo_above_65 : decode b_Mo_above 65 = .ok (.if_icmp .ne 7, 3) := by decide +kernel
theorem d_Mo_above_68 : decode b_Mo_above 68 = .ok (.iconst 1, 1) := by decide +kernel
theorem d_Mo_above_69 : decode b_Mo_above 69 = .ok (.goto 4, 3) := by decide +kernel
theorem d_Mo_above_72 : decode b_Mo_above 72 = .ok (.iconst 0, 1) := by decide +kernel
theorem d_Mo_above_73 : decode b_Mo_above 73 = .ok (.istore 7, 2) := by decide +kernel
theorem d_Mo_above_75 : decode b_Mo_above 75 = .ok (.iload 7, 2) := by decide +kernel
theorem d_Mo_above_77 : decode b_Mo_above 77 = .ok (.ifCond .eq 7, 3) := by decide +kernel
theorem d_Mo_above_80 : decode b_Mo_above 80 = .ok (.iconst 1, 1) := by decide +kernel
theorem d_Mo_above_81 : decode b_Mo_above 81 = .ok (.goto 4, 3) := by decide +kernel
theorem d_Mo_above_84 : decode b_Mo_above 84 = .ok (.iconst 0, 1) := by decide +kernel
theorem d_Mo_above_85 : decode b_Mo_above 85 = .ok (.istore 8, 2) := by decide +kernel
theorem d_Mo_above_87 : decode b_Mo_above 87 = .ok (.iconst 0, 1) := by decide +kernel
theorem d_Mo_above_88 : decode b_Mo_above 88 = .ok (.istore 9, 2) := by decide +kernel
theorem d_Mo_above_90 : decode b_Mo_above 90 = .ok (.iload 9, 2) := by decide +kernel
theorem d_Mo_above_92 : decode b_Mo_above 92 = .ok (.ifCond .ne 43, 3) := by decide +kernel
theorem d_Mo_above_95 : decode b_Mo_above 95 = .ok (.aload_n 0, 1) := by decide +kernel
theorem d_Mo_above_96 : decode b_Mo_above 96 = .ok (.getfield 22, 3) := by decide +kernel
theorem d_Mo_above_99 : decode b_Mo_above 99 = .ok (.iload 6, 2) := by decide +kernel
theorem d_Mo_above_101 : decode b_Mo_above 101 = .ok (.iload 8, 2) := by decide +kernel
theorem d_Mo_above_103 : decode b_Mo_above 103 = .ok (.iastore, 1) := by decide +kernel
theorem d_Mo_above_104 : decode b_Mo_above 104 = .ok (.aload_n 0, 1) := by decide +kernel
theorem d_Mo_above_105 : decode b_Mo_above 105 = .ok (.iload_n 1, 1) := by decide +kernel
theorem d_Mo_above_106 : decode b_Mo_above 106 = .ok (.iload_n 2, 1) := by decide +kernel
theorem d_Mo_above_107 : decode b_Mo_above 107 = .ok (.iload_n 3, 1) := by decide +kernel
theorem d_Mo_above_108 : decode b_Mo_above 108 = .ok (.iload 6, 2) := by decide +kernel
theorem d_Mo_above_110 : decode b_Mo_above 110 = .ok (.iconst 1, 1) := by decide +kernel
theorem d_Mo_above_111 : decode b_Mo_above 111 = .ok (.iadd, 1) := by decide +kernel
theorem d_Mo_above_112 : decode b_Mo_above 112 = .ok (.invokevirtual 88, 3) := by decide +kernel
theorem d_Mo_above_115 : decode b_Mo_above 115 = .ok (.istore 9, 2) := by decide +kernel
theorem d_Mo_above_117 : decode b_Mo_above 117 = .ok (.iload 8, 2) := by decide +kernel
theorem d_Mo_above_119 : decode b_Mo_above 119 = .ok (.iload 9, 2) := by decide +kernel
theorem d_Mo_above_121 : decode b_Mo_above 121 = .ok (.ifCond .eq 7, 3) := by decide +kernel
theorem d_Mo_above_124 : decode b_Mo_above 124 = .ok (.iconst 0, 1) := by decide +kernel
theorem d_Mo_above_125 : decode b_Mo_above 125 = .ok (.goto 4, 3) := by decide +kernel
theorem d_Mo_above_128 : decode b_Mo_above 128 = .ok (.iconst 1, 1) := by decide +kernel
theorem d_Mo_above_129 : decode b_Mo_above 129 = .ok (.iadd, 1) := by decide +kernel
theorem d_Mo_above_130 : decode b_Mo_above 130 = .ok (.istore 8, 2) := by decide +kernel
theorem d_Mo_above_132 : decode b_Mo_above 132 = .ok (.goto (-42), 3) := by decide +kernel
theorem d_Mo_above_135 : decode b_Mo_above 135 = .ok (.aload_n 0, 1) := by decide +kernel
theorem d_Mo_above_136 : decode b_Mo_above 136 = .ok (.getfield 22, 3) := by decide +kernel
theorem d_Mo_above_139 : decode b_Mo_above 139 = .ok (.iload 6, 2) := by decide +kernel
theorem d_Mo_above_141 : decode b_Mo_above 141 = .ok (.iload 8, 2) := by decide +kernel
theorem d_Mo_above_143 : decode b_Mo_above 143 = .ok (.iastore, 1) := by decide +kernel
theorem d_Mo_above_144 : decode b_Mo_above 144 = .ok (.lload 4, 2) := by decide +kernel
theorem d_Mo_above_146 : decode b_Mo_above 146 = .ok (.iload 8, 2) := by decide +kernel
theorem d_Mo_above_148 : decode b_Mo_above 148 = .ok (.i2l, 1) := by decide +kernel
theorem d_Mo_above_149 : decode b_Mo_above 149 = .ok (.bipush 12, 2) := by decide +kernel
theorem d_Mo_above_151 : decode b_Mo_above 151 = .ok (.iload 6, 2) := by decide +kernel
theorem d_Mo_above_153 : decode b_Mo_above 153 = .ok (.imul, 1) := by decide +kernel
theorem d_Mo_above_154 : decode b_Mo_above 154 = .ok (.lshl, 1) := by decide +kernel
theorem d_Mo_above_155 : decode b_Mo_above 155 = .ok (.lor, 1) := by decide +kernel
theorem d_Mo_above_156 : decode b_Mo_above 156 = .ok (.lstore 4, 2) := by decide +kernel
theorem d_Mo_above_158 : decode b_Mo_above 158 = .ok (.iinc 6 1, 3) := by decide +kernel
theorem d_Mo_above_161 : decode b_Mo_above 161 = .ok (.goto (-109), 3) := by decide +kernel
theorem d_Mo_above_164 : decode b_Mo_above 164 = .ok (.lload 4, 2) := by decide +kernel
theorem d_Mo_above_166 : decode b_Mo_above 166 = .ok (.lreturn, 1) := by decide +kernel
theorem d_Mo_unknown_0 : decode b_Mo_unknown 0 = .ok (.aload_n 0, 1) := by decide +kernel
theorem d_Mo_unknown_1 : decode b_Mo_unknown 1 = .ok (.aload_n 0, 1) := by decide +kernel
theorem d_Mo_unknown_2 : decode b_Mo_unknown 2 = .ok (.getfield 102, 3) := by decide +kernel
theorem d_Mo_unknown_5 : decode b_Mo_unknown 5 = .ok (.bipush 10, 2) := by decide +kernel
theorem d_Mo_unknown_7 : decode b_Mo_unknown 7 = .ok (.if_icmp .ne 7, 3) := by decide +kernel
theorem d_Mo_unknown_10 : decode b_Mo_unknown 10 = .ok (.iconst 1, 1) := by decide +kernel
theorem d_Mo_unknown_11 : decode b_Mo_unknown 11 = .ok (.goto 4, 3) := by decide +kernel
theorem d_Mo_unknown_14 : decode b_Mo_unknown 14 = .ok (.iconst 0, 1) := by decide +kernel
theorem d_Mo_unknown_15 : decode b_Mo_unknown 15 = .ok (.invokevirtual 65, 3) := by decide +kernel
theorem d_Mo_unknown_18 : decode b_Mo_unknown 18 = .ok (.ifCond .eq 5, 3) := by decide +kernel
theorem d_Mo_unknown_21 : decode b_Mo_unknown 21 = .ok (.iconst 0, 1) := by decide +kernel
theorem d_Mo_unknown_22 : decode b_Mo_unknown 22 = .ok (.ireturn, 1) := by decide +kernel
theorem d_Mo_unknown_23 : decode b_Mo_unknown 23 = .ok (.aload_n 0, 1) := by decide +kernel
theorem d_Mo_unknown_24 : decode b_Mo_unknown 24 = .ok (.dup, 1) := by decide +kernel
theorem d_Mo_unknown_25 : decode b_Mo_unknown 25 = .ok (.getfield 102, 3) := by decide +kernel
theorem d_Mo_unknown_28 : decode b_Mo_unknown 28 = .ok (.iconst 1, 1) := by decide +kernel
theorem d_Mo_unknown_29 : decode b_Mo_unknown 29 = .ok (.iadd, 1) := by decide +kernel
theorem d_Mo_unknown_30 : decode b_Mo_unknown 30 = .ok (.putfield 102, 3) := by decide +kernel
theorem d_Mo_unknown_33 : decode b_Mo_unknown 33 = .ok (.aload_n 0, 1) := by decide +kernel
theorem d_Mo_unknown_34 : decode b_Mo_unknown 34 = .ok (.getfield 102, 3) := by decide +kernel
theorem d_Mo_unknown_37 : decode b_Mo_unknown 37 = .ok (.iconst 1, 1) := by decide +kernel
theorem d_Mo_unknown_38 : decode b_Mo_unknown 38 = .ok (.isub, 1) := by decide +kernel
theorem d_Mo_unknown_39 : decode b_Mo_unknown 39 = .ok (.ireturn, 1) := by decide +kernel
theorem d_Mo_need_0 : decode b_Mo_need 0 = .ok (.aload_n 0, 1) := by decide +kernel
theorem d_Mo_need_1 : decode b_Mo_need 1 = .ok (.aload_n 0, 1) := by decide +kernel
theorem d_Mo_need_2 : decode b_Mo_need 2 = .ok (.iload_n 1, 1) := by decide +kernel
theorem d_Mo_need_3 : decode b_Mo_need 3 = .ok (.invokevirtual 105, 3) := by decide +kernel
theorem d_Mo_need_6 : decode b_Mo_need 6 = .ok (.ifCond .eq 11, 3) := by decide +kernel
theorem d_Mo_need_9 : decode b_Mo_need 9 = .ok (.aload_n 0, 1) := by decide +kernel
theorem d_Mo_need_10 : decode b_Mo_need 10 = .ok (.iload_n 3, 1) := by decide +kernel
theorem d_Mo_need_11 : decode b_Mo_need 11 = .ok (.invokevirtual 105, 3) := by decide +kernel
theorem d_Mo_need_14 : decode b_Mo_need 14 = .ok (.ifCond .ne 7, 3) := by decide +kernel
theorem d_Mo_need_17 : decode b_Mo_need 17 = .ok (.iconst 1, 1) := by decide +kernel
theorem d_Mo_need_18 : decode b_Mo_need 18 = .ok (.goto 33, 3) := by decide +kernel
theorem d_Mo_need_21 : decode b_Mo_need 21 = .ok (.iload_n 2, 1) := by decide +kernel
theorem d_Mo_need_22 : decode b_Mo_need 22 = .ok (.bipush (-20), 2) := by decide +kernel
theorem d_Mo_need_24 : decode b_Mo_need 24 = .ok (.if_icmp .lt 9, 3) := by decide +kernel
theorem d_Mo_need_27 : decode b_Mo_need 27 = .ok (.iload_n 2, 1) := by decide +kernel
theorem d_Mo_need_28 : decode b_Mo_need 28 = .ok (.bipush 20, 2) := by decide +kernel
theorem d_Mo_need_30 : decode b_Mo_need 30 = .ok (.if_icmp .le 7, 3) := by decide +kernel
theorem d_Mo_need_33 : decode b_Mo_need 33 = .ok (.iconst 2, 1) := by decide +kernel
theorem d_Mo_need_34 : decode b_Mo_need 34 = .ok (.goto 17, 3) := by decide +kernel
theorem d_Mo_need_37 : decode b_Mo_need 37 = .ok (.aload_n 0, 1) := by decide +kernel
theorem d_Mo_need_38 : decode b_Mo_need 38 = .ok (.getfield 108, 3) := by decide +kernel
theorem d_Mo_need_41 : decode b_Mo_need 41 = .ok (.bipush 30, 2) := by decide +kernel
theorem d_Mo_need_43 : decode b_Mo_need 43 = .ok (.if_icmp .ne 7, 3) := by decide +kernel
theorem d_Mo_need_46 : decode b_Mo_need 46 = .ok (.iconst 3, 1) := by decide +kernel
theorem d_Mo_need_47 : decode b_Mo_need 47 = .ok (.goto 4, 3) := by decide +kernel
theorem d_Mo_need_50 : decode b_Mo_need 50 = .ok (.iconst 0, 1) := by decide +kernel
theorem d_Mo_need_51 : decode b_Mo_need 51 = .ok (.invokevirtual 65, 3) := by decide +kernel
theorem d_Mo_need_54 : decode b_Mo_need 54 = .ok (.ifCond .eq 5, 3) := by decide +kernel
theorem d_Mo_need_57 : decode b_Mo_need 57 = .ok (.iconst 0, 1) := by decide +kernel
theorem d_Mo_need_58 : decode b_Mo_need 58 = .ok (.ireturn, 1) := by decide +kernel
theorem d_Mo_need_59 : decode b_Mo_need 59 = .ok (.aload_n 0, 1) := by decide +kernel
theorem d_Mo_need_60 : decode b_Mo_need 60 = .ok (.getfield 34, 3) := by decide +kernel
theorem d_Mo_need_63 : decode b_Mo_need 63 = .ok (.aload_n 0, 1) := by decide +kernel
theorem d_Mo_need_64 : decode b_Mo_need 64 = .ok (.getfield 108, 3) := by decide +kernel
theorem d_Mo_need_67 : decode b_Mo_need 67 = .ok (.iload_n 1, 1) := by decide +kernel
theorem d_Mo_need_68 : decode b_Mo_need 68 = .ok (.iastore, 1) := by decide +kernel
theorem d_Mo_need_69 : decode b_Mo_need 69 = .ok (.aload_n 0, 1) := by decide +kernel
theorem d_Mo_need_70 : decode b_Mo_need 70 = .ok (.getfield 37, 3) := by decide +kernel
theorem d_Mo_need_73 : decode b_Mo_need 73 = .ok (.aload_n 0, 1) := by decide +kernel
theorem d_Mo_need_74 : decode b_Mo_need 74 = .ok (.getfield 108, 3) := by decide +kernel
theorem d_Mo_need_77 : decode b_Mo_need 77 = .ok (.iload_n 2, 1) := by decide +kernel
theorem d_Mo_need_78 : decode b_Mo_need 78 = .ok (.iastore, 1) := by decide +kernel
theorem d_Mo_need_79 : decode b_Mo_need 79 = .ok (.aload_n 0, 1) := by decide +kernel
theorem d_Mo_need_80 : decode b_Mo_need 80 = .ok (.getfield 40, 3) := by decide +kernel
theorem d_Mo_need_83 : decode b_Mo_need 83 = .ok (.aload_n 0, 1) := by decide +kernel
theorem d_Mo_need_84 : decode b_Mo_need 84 = .ok (.getfield 108, 3) := by decide +kernel
theorem d_Mo_need_87 : decode b_Mo_need 87 = .ok (.iload_n 3, 1) := by decide +kernel
theorem d_Mo_need_88 : decode b_Mo_need 88 = .ok (.iastore, 1) := by decide +kernel
theorem d_Mo_need_89 : decode b_Mo_need 89 = .ok (.aload_n 0, 1) := by decide +kernel
theorem d_Mo_need_90 : decode b_Mo_need 90 = .ok (.dup, 1) := by decide +kernel
theorem d_Mo_need_91 : decode b_Mo_need 91 = .ok (.getfield 108, 3) := by decide +kernel
theorem d_Mo_need_94 : decode b_Mo_need 94 = .ok (.iconst 1, 1) := by decide +kernel
theorem d_Mo_need_95 : decode b_Mo_need 95 = .ok (.iadd, 1) := by decide +kernel
theorem d_Mo_need_96 : decode b_Mo_need 96 = .ok (.putfield 108, 3) := by decide +kernel
theorem d_Mo_need_99 : decode b_Mo_need 99 = .ok (.aload_n 0, 1) := by decide +kernel
theorem d_Mo_need_100 : decode b_Mo_need 100 = .ok (.getfield 108, 3) := by decide +kernel
theorem d_Mo_need_103 : decode b_Mo_need 103 = .ok (.iconst 1, 1) := by decide +kernel
theorem d_Mo_need_104 : decode b_Mo_need 104 = .ok (.isub, 1) := by decide +kernel
theorem d_Mo_need_105 : decode b_Mo_need 105 = .ok (.ireturn, 1) := by decide +kernel
theorem d_Mo_isSide_0 : decode b_Mo_isSide 0 = .ok (.iload_n 1, 1) := by decide +kernel
theorem d_Mo_isSide_1 : decode b_Mo_isSide 1 = .ok (.iconst (-1), 1) := by decide +kernel
theorem d_Mo_isSide_2 : decode b_Mo_isSide 2 = .ok (.if_icmp .lt 15, 3) := by decide +kernel
theorem d_Mo_isSide_5 : decode b_Mo_isSide 5 = .ok (.iload_n 1, 1) := by decide +kernel
theorem d_Mo_isSide_6 : decode b_Mo_isSide 6 = .ok (.aload_n 0, 1) := by decide +kernel
theorem d_Mo_isSide_7 : decode b_Mo_isSide 7 = .ok (.getfield 102, 3) := by decide +kernel
theorem d_Mo_isSide_10 : decode b_Mo_isSide 10 = .ok (.if_icmp .ge 7, 3) := by decide +kernel
theorem d_Mo_isSide_13 : decode b_Mo_isSide 13 = .ok (.iconst 1, 1) := by decide +kernel
theorem d_Mo_isSide_14 : decode b_Mo_isSide 14 = .ok (.goto 4, 3) := by decide +kernel
theorem d_Mo_isSide_17 : decode b_Mo_isSide 17 = .ok (.iconst 0, 1) := by decide +kernel
theorem d_Mo_isSide_18 : decode b_Mo_isSide 18 = .ok (.ireturn, 1) := by decide +kernel
theorem d_Mo_isSolved_0 : decode b_Mo_isSolved 0 = .ok (.aload_n 0, 1) := by decide +kernel
theorem d_Mo_isSolved_1 : decode b_Mo_isSolved 1 = .ok (.iconst 0, 1) := by decide +kernel
theorem d_Mo_isSolved_2 : decode b_Mo_isSolved 2 = .ok (.putfield 50, 3) := by decide +kernel
theorem d_Mo_isSolved_5 : decode b_Mo_isSolved 5 = .ok (.aload_n 0, 1) := by decide +kernel
theorem d_Mo_isSolved_6 : decode b_Mo_isSolved 6 = .ok (.invokevirtual 115, 3) := by decide +kernel
theorem d_Mo_isSolved_9 : decode b_Mo_isSolved 9 = .ok (.ireturn, 1) := by decide +kernel
theorem d_Mo_solvesAll_0 : decode b_Mo_solvesAll 0 = .ok (.iconst 0, 1) := by decide +kernel
theorem d_Mo_solvesAll_1 : decode b_Mo_solvesAll 1 = .ok (.istore_n 1, 1) := by decide +kernel
theorem d_Mo_solvesAll_2 : decode b_Mo_solvesAll 2 = .ok (.iload_n 1, 1) := by decide +kernel
theorem d_Mo_solvesAll_3 : decode b_Mo_solvesAll 3 = .ok (.aload_n 0, 1) := by decide +kernel
theorem d_Mo_solvesAll_4 : decode b_Mo_solvesAll 4 = .ok (.getfield 108, 3) := by decide +kernel
theorem d_Mo_solvesAll_7 : decode b_Mo_solvesAll 7 = .ok (.if_icmp .ge 16, 3) := by decide +kernel
theorem d_Mo_solvesAll_10 : decode b_Mo_solvesAll 10 = .ok (.aload_n 0, 1) := by decide +kernel
theorem d_Mo_solvesAll_11 : decode b_Mo_solvesAll 11 = .ok (.getfield 46, 3) := by decide +kernel
theorem d_Mo_solvesAll_14 : decode b_Mo_solvesAll 14 = .ok (.iload_n 1, 1) := by decide +kernel
theorem d_Mo_solvesAll_15 : decode b_Mo_solvesAll 15 = .ok (.iconst 1, 1) := by decide +kernel
theorem d_Mo_solvesAll_16 : decode b_Mo_solvesAll 16 = .ok (.bastore, 1) := by decide +kernel
theorem d_Mo_solvesAll_17 : decode b_Mo_solvesAll 17 = .ok (.iinc 1 1, 3) := by decide +kernel
theorem d_Mo_solvesAll_20 : decode b_Mo_solvesAll 20 = .ok (.goto (-18), 3) := by decide +kernel
theorem d_Mo_solvesAll_23 : decode b_Mo_solvesAll 23 = .ok (.aload_n 0, 1) := by decide +kernel
theorem d_Mo_solvesAll_24 : decode b_Mo_solvesAll 24 = .ok (.invokevirtual 111, 3) := by decide +kernel
theorem d_Mo_solvesAll_27 : decode b_Mo_solvesAll 27 = .ok (.ireturn, 1) := by decide +kernel
theorem d_Mo_solves_0 : decode b_Mo_solves 0 = .ok (.iconst 0, 1) := by decide +kernel
theorem d_Mo_solves_1 : decode b_Mo_solves 1 = .ok (.istore_n 1, 1) := by decide +kernel
theorem d_Mo_solves_2 : decode b_Mo_solves 2 = .ok (.iload_n 1, 1) := by decide +kernel
theorem d_Mo_solves_3 : decode b_Mo_solves 3 = .ok (.bipush 10, 2) := by decide +kernel
theorem d_Mo_solves_5 : decode b_Mo_solves 5 = .ok (.if_icmp .ge 16, 3) := by decide +kernel
theorem d_Mo_solves_8 : decode b_Mo_solves 8 = .ok (.aload_n 0, 1) := by decide +kernel
theorem d_Mo_solves_9 : decode b_Mo_solves 9 = .ok (.getfield 43, 3) := by decide +kernel
theorem d_Mo_solves_12 : decode b_Mo_solves 12 = .ok (.iload_n 1, 1) := by decide +kernel
theorem d_Mo_solves_13 : decode b_Mo_solves 13 = .ok (.iconst 0, 1) := by decide +kernel
theorem d_Mo_solves_14 : decode b_Mo_solves 14 = .ok (.iastore, 1) := by decide +kernel
theorem d_Mo_solves_15 : decode b_Mo_solves 15 = .ok (.iinc 1 1, 3) := by decide +kernel
theorem d_Mo_solves_18 : decode b_Mo_solves 18 = .ok (.goto (-16), 3) := by decide +kernel
theorem d_Mo_solves_21 : decode b_Mo_solves 21 = .ok (.iconst 1, 1) := by decide +kernel
theorem d_Mo_solves_22 : decode b_Mo_solves 22 = .ok (.istore_n 1, 1) := by decide +kernel
theorem d_Mo_solves_23 : decode b_Mo_solves 23 = .ok (.iload_n 1, 1) := by decide +kernel
theorem d_Mo_solves_24 : decode b_Mo_solves 24 = .ok (.ifCond .eq 131, 3) := by decide +kernel
theorem d_Mo_solves_27 : decode b_Mo_solves 27 = .ok (.iconst 0, 1) := by decide +kernel
theorem d_Mo_solves_28 : decode b_Mo_solves 28 = .ok (.istore_n 1, 1) := by decide +kernel
theorem d_Mo_solves_29 : decode b_Mo_solves 29 = .ok (.iconst 0, 1) := by decide +kernel
theorem d_Mo_solves_30 : decode b_Mo_solves 30 = .ok (.istore_n 2, 1) := by decide +kernel
theorem d_Mo_solves_31 : decode b_Mo_solves 31 = .ok (.iload_n 2, 1) := by decide +kernel
theorem d_Mo_solves_32 : decode b_Mo_solves 32 = .ok (.aload_n 0, 1) := by decide +kernel
theorem d_Mo_solves_33 : decode b_Mo_solves 33 = .ok (.getfield 108, 3) := by decide +kernel
theorem d_Mo_solves_36 : decode b_Mo_solves 36 = .ok (.if_icmp .ge 116, 3) := by decide +kernel
theorem d_Mo_solves_39 : decode b_Mo_solves 39 = .ok (.aload_n 0, 1) := by decide +kernel
theorem d_Mo_solves_40 : decode b_Mo_solves 40 = .ok (.getfield 46, 3) := by decide +kernel
theorem d_Mo_solves_43 : decode b_Mo_solves 43 = .ok (.iload_n 2, 1) := by decide +kernel
theorem d_Mo_solves_44 : decode b_Mo_solves 44 = .ok (.baload, 1) := by decide +kernel
theorem d_Mo_solves_45 : decode b_Mo_solves 45 = .ok (.ifCond .ne 6, 3) := by decide +kernel
theorem d_Mo_solves_48 : decode b_Mo_solves 48 = .ok (.goto 98, 3) := by decide +kernel
theorem d_Mo_solves_51 : decode b_Mo_solves 51 = .ok (.aload_n 0, 1) := by decide +kernel
theorem d_Mo_solves_52 : decode b_Mo_solves 52 = .ok (.getfield 34, 3) := by decide +kernel
theorem d_Mo_solves_55 : decode b_Mo_solves 55 = .ok (.iload_n 2, 1) := by decide +kernel
theorem d_Mo_solves_56 : decode b_Mo_solves 56 = .ok (.iaload, 1) := by decide +kernel
theorem d_Mo_solves_57 : decode b_Mo_solves 57 = .ok (.ifCond .ge 7, 3) := by decide +kernel
theorem d_Mo_solves_60 : decode b_Mo_solves 60 = .ok (.iconst 0, 1) := by decide +kernel
theorem d_Mo_solves_61 : decode b_Mo_solves 61 = .ok (.goto 14, 3) := by decide +kernel
theorem d_Mo_solves_64 : decode b_Mo_solves 64 = .ok (.aload_n 0, 1) := by decide +kernel
theorem d_Mo_solves_65 : decode b_Mo_solves 65 = .ok (.getfield 43, 3) := by decide +kernel
theorem d_Mo_solves_68 : decode b_Mo_solves 68 = .ok (.aload_n 0, 1) := by decide +kernel
theorem d_Mo_solves_69 : decode b_Mo_solves 69 = .ok (.getfield 34, 3) := by decide +kernel
theorem d_Mo_solves_72 : decode b_Mo_solves 72 = .ok (.iload_n 2, 1) := by decide +kernel
theorem d_Mo_solves_73 : decode b_Mo_solves 73 = .ok (.iaload, 1) := by decide +kernel
theorem d_Mo_solves_74 : decode b_Mo_solves 74 = .ok (.iaload, 1) := by decide +kernel
theorem d_Mo_solves_75 : decode b_Mo_solves 75 = .ok (.aload_n 0, 1) := by decide +kernel
theorem d_Mo_solves_76 : decode b_Mo_solves 76 = .ok (.getfield 37, 3) := by decide +kernel
theorem d_Mo_solves_79 : decode b_Mo_solves 79 = .ok (.iload_n 2, 1) := by decide +kernel
theorem d_Mo_solves_80 : decode b_Mo_solves 80 = .ok (.iaload, 1) := by decide +kernel
theorem d_Mo_solves_81 : decode b_Mo_solves 81 = .ok (.iadd, 1) := by decide +kernel
theorem d_Mo_solves_82 : decode b_Mo_solves 82 = .ok (.istore_n 3, 1) := by decide +kernel
theorem d_Mo_solves_83 : decode b_Mo_solves 83 = .ok (.aload_n 0, 1) := by decide +kernel
theorem d_Mo_solves_84 : decode b_Mo_solves 84 = .ok (.getfield 40, 3) := by decide +kernel
theorem d_Mo_solves_87 : decode b_Mo_solves 87 = .ok (.iload_n 2, 1) := by decide +kernel
theorem d_Mo_solves_88 : decode b_Mo_solves 88 = .ok (.iaload, 1) := by decide +kernel
theorem d_Mo_solves_89 : decode b_Mo_solves 89 = .ok (.ifCond .ge 10, 3) := by decide +kernel
theorem d_Mo_solves_92 : decode b_Mo_solves 92 = .ok (.iload_n 3, 1) := by decide +kernel
theorem d_Mo_solves_93 : decode b_Mo_solves 93 = .ok (.ifCond .le 15, 3) := by decide +kernel
theorem d_Mo_solves_96 : decode b_Mo_solves 96 = .ok (.goto 10, 3) := by decide +kernel
theorem d_Mo_solves_99 : decode b_Mo_solves 99 = .ok (.iload_n 3, 1) := by decide +kernel
theorem d_Mo_solves_100 : decode b_Mo_solves 100 = .ok (.sipush 200, 3) := by decide +kernel
theorem d_Mo_solves_103 : decode b_Mo_solves 103 = .ok (.if_icmp .le 5, 3) := by decide +kernel
theorem d_Mo_solves_106 : decode b_Mo_solves 106 = .ok (.iconst 0, 1) := by decide +kernel
theorem d_Mo_solves_107 : decode b_Mo_solves 107 = .ok (.ireturn, 1) := by decide +kernel
theorem d_Mo_solves_108 : decode b_Mo_solves 108 = .ok (.aload_n 0, 1) := by decide +kernel
theorem d_Mo_solves_109 : decode b_Mo_solves 109 = .ok (.getfield 40, 3) := by decide +kernel
theorem d_Mo_solves_112 : decode b_Mo_solves 112 = .ok (.iload_n 2, 1) := by decide +kernel
theorem d_Mo_solves_113 : decode b_Mo_solves 113 = .ok (.iaload, 1) := by decide +kernel
theorem d_Mo_solves_114 : decode b_Mo_solves 114 = .ok (.ifCond .lt 32, 3) := by decide +kernel
theorem d_Mo_solves_117 : decode b_Mo_solves 117 = .ok (.aload_n 0, 1) := by decide +kernel
theorem d_Mo_solves_118 : decode b_Mo_solves 118 = .ok (.getfield 43, 3) := by decide +kernel
theorem d_Mo_solves_121 : decode b_Mo_solves 121 = .ok (.aload_n 0, 1) := by decide +kernel
theorem d_Mo_solves_122 : decode b_Mo_solves 122 = .ok (.getfield 40, 3) := by decide +kernel
theorem d_Mo_solves_125 : decode b_Mo_solves 125 = .ok (.iload_n 2, 1) := by decide +kernel
theorem d_Mo_solves_126 : decode b_Mo_solves 126 = .ok (.iaload, 1) := by decide +kernel
theorem d_Mo_solves_127 : decode b_Mo_solves 127 = .ok (.iaload, 1) := by decide +kernel
theorem d_Mo_solves_128 : decode b_Mo_solves 128 = .ok (.iload_n 3, 1) := by decide +kernel
theorem d_Mo_solves_129 : decode b_Mo_solves 129 = .ok (.if_icmp .ge 17, 3) := by decide +kernel
theorem d_Mo_solves_132 : decode b_Mo_solves 132 = .ok (.aload_n 0, 1) := by decide +kernel
theorem d_Mo_solves_133 : decode b_Mo_solves 133 = .ok (.getfield 43, 3) := by decide +kernel
theorem d_Mo_solves_136 : decode b_Mo_solves 136 = .ok (.aload_n 0, 1) := by decide +kernel
theorem d_Mo_solves_137 : decode b_Mo_solves 137 = .ok (.getfield 40, 3) := by decide +kernel
theorem d_Mo_solves_140 : decode b_Mo_solves 140 = .ok (.iload_n 2, 1) := by decide +kernel
theorem d_Mo_solves_141 : decode b_Mo_solves 141 = .ok (.iaload, 1) := by decide +kernel
theorem d_Mo_solves_142 : decode b_Mo_solves 142 = .ok (.iload_n 3, 1) := by decide +kernel
theorem d_Mo_solves_143 : decode b_Mo_solves 143 = .ok (.iastore, 1) := by decide +kernel
theorem d_Mo_solves_144 : decode b_Mo_solves 144 = .ok (.iconst 1, 1) := by decide +kernel
theorem d_Mo_solves_145 : decode b_Mo_solves 145 = .ok (.istore_n 1, 1) := by decide +kernel
theorem d_Mo_solves_146 : decode b_Mo_solves 146 = .ok (.iinc 2 1, 3) := by decide +kernel
theorem d_Mo_solves_149 : decode b_Mo_solves 149 = .ok (.goto (-118), 3) := by decide +kernel
theorem d_Mo_solves_152 : decode b_Mo_solves 152 = .ok (.goto (-129), 3) := by decide +kernel
theorem d_Mo_solves_155 : decode b_Mo_solves 155 = .ok (.iconst 1, 1) := by decide +kernel
theorem d_Mo_solves_156 : decode b_Mo_solves 156 = .ok (.ireturn, 1) := by decide +kernel
theorem d_Mo_solution_0 : decode b_Mo_solution 0 = .ok (.aload_n 0, 1) := by decide +kernel
theorem d_Mo_solution_1 : decode b_Mo_solution 1 = .ok (.iconst 0, 1) := by decide +kernel
theorem d_Mo_solution_2 : decode b_Mo_solution 2 = .ok (.putfield 50, 3) := by decide +kernel
theorem d_Mo_solution_5 : decode b_Mo_solution 5 = .ok (.iload_n 1, 1) := by decide +kernel
theorem d_Mo_solution_6 : decode b_Mo_solution 6 = .ok (.ifCond .lt 27, 3) := by decide +kernel
theorem d_Mo_solution_9 : decode b_Mo_solution 9 = .ok (.iload_n 1, 1) := by decide +kernel
theorem d_Mo_solution_10 : decode b_Mo_solution 10 = .ok (.aload_n 0, 1) := by decide +kernel
theorem d_Mo_solution_11 : decode b_Mo_solution 11 = .ok (.getfield 102, 3) := by decide +kernel
theorem d_Mo_solution_14 : decode b_Mo_solution 14 = .ok (.if_icmp .ge 19, 3) := by decide +kernel
theorem d_Mo_solution_17 : decode b_Mo_solution 17 = .ok (.aload_n 0, 1) := by decide +kernel
theorem d_Mo_solution_18 : decode b_Mo_solution 18 = .ok (.invokevirtual 115, 3) := by decide +kernel
theorem d_Mo_solution_21 : decode b_Mo_solution 21 = .ok (.ifCond .eq 12, 3) := by decide +kernel
theorem d_Mo_solution_24 : decode b_Mo_solution 24 = .ok (.aload_n 0, 1) := by decide +kernel
theorem d_Mo_solution_25 : decode b_Mo_solution 25 = .ok (.getfield 43, 3) := by decide +kernel
theorem d_Mo_solution_28 : decode b_Mo_solution 28 = .ok (.iload_n 1, 1) := by decide +kernel
theorem d_Mo_solution_29 : decode b_Mo_solution 29 = .ok (.iaload, 1) := by decide +kernel
theorem d_Mo_solution_30 : decode b_Mo_solution 30 = .ok (.goto 4, 3) := by decide +kernel
theorem d_Mo_solution_33 : decode b_Mo_solution 33 = .ok (.iconst (-1), 1) := by decide +kernel
theorem d_Mo_solution_34 : decode b_Mo_solution 34 = .ok (.ireturn, 1) := by decide +kernel
theorem d_Mo_isClash_0 : decode b_Mo_isClash 0 = .ok (.aload_n 0, 1) := by decide +kernel
theorem d_Mo_isClash_1 : decode b_Mo_isClash 1 = .ok (.iconst 0, 1) := by decide +kernel
theorem d_Mo_isClash_2 : decode b_Mo_isClash 2 = .ok (.putfield 50, 3) := by decide +kernel
theorem d_Mo_isClash_5 : decode b_Mo_isClash 5 = .ok (.iload_n 1, 1) := by decide +kernel
theorem d_Mo_isClash_6 : decode b_Mo_isClash 6 = .ok (.ifCond .lt 18, 3) := by decide +kernel
theorem d_Mo_isClash_9 : decode b_Mo_isClash 9 = .ok (.iload_n 1, 1) := by decide +kernel
theorem d_Mo_isClash_10 : decode b_Mo_isClash 10 = .ok (.aload_n 0, 1) := by decide +kernel
theorem d_Mo_isClash_11 : decode b_Mo_isClash 11 = .ok (.getfield 108, 3) := by decide +kernel
theorem d_Mo_isClash_14 : decode b_Mo_isClash 14 = .ok (.if_icmp .ge 10, 3) := by decide +kernel
theorem d_Mo_isClash_17 : decode b_Mo_isClash 17 = .ok (.aload_n 0, 1) := by decide +kernel
theorem d_Mo_isClash_18 : decode b_Mo_isClash 18 = .ok (.invokevirtual 115, 3) := by decide +kernel
theorem d_Mo_isClash_21 : decode b_Mo_isClash 21 = .ok (.ifCond .eq 5, 3) := by decide +kernel
theorem d_Mo_isClash_24 : decode b_Mo_isClash 24 = .ok (.iconst 0, 1) := by decide +kernel
theorem d_Mo_isClash_25 : decode b_Mo_isClash 25 = .ok (.ireturn, 1) := by decide +kernel
theorem d_Mo_isClash_26 : decode b_Mo_isClash 26 = .ok (.aload_n 0, 1) := by decide +kernel
theorem d_Mo_isClash_27 : decode b_Mo_isClash 27 = .ok (.getfield 108, 3) := by decide +kernel
theorem d_Mo_isClash_30 : decode b_Mo_isClash 30 = .ok (.iconst 1, 1) := by decide +kernel
theorem d_Mo_isClash_31 : decode b_Mo_isClash 31 = .ok (.isub, 1) := by decide +kernel
theorem d_Mo_isClash_32 : decode b_Mo_isClash 32 = .ok (.istore_n 2, 1) := by decide +kernel
theorem d_Mo_isClash_33 : decode b_Mo_isClash 33 = .ok (.iload_n 2, 1) := by decide +kernel
theorem d_Mo_isClash_34 : decode b_Mo_isClash 34 = .ok (.ifCond .lt 26, 3) := by decide +kernel
theorem d_Mo_isClash_37 : decode b_Mo_isClash 37 = .ok (.aload_n 0, 1) := by decide +kernel
theorem d_Mo_isClash_38 : decode b_Mo_isClash 38 = .ok (.getfield 46, 3) := by decide +kernel
theorem d_Mo_isClash_41 : decode b_Mo_isClash 41 = .ok (.iload_n 2, 1) := by decide +kernel
theorem d_Mo_isClash_42 : decode b_Mo_isClash 42 = .ok (.iconst 0, 1) := by decide +kernel
theorem d_Mo_isClash_43 : decode b_Mo_isClash 43 = .ok (.bastore, 1) := by decide +kernel
theorem d_Mo_isClash_44 : decode b_Mo_isClash 44 = .ok (.aload_n 0, 1) := by decide +kernel
theorem d_Mo_isClash_45 : decode b_Mo_isClash 45 = .ok (.getfield 46, 3) := by decide +kernel
theorem d_Mo_isClash_48 : decode b_Mo_isClash 48 = .ok (.iload_n 2, 1) := by decide +kernel
theorem d_Mo_isClash_49 : decode b_Mo_isClash 49 = .ok (.aload_n 0, 1) := by decide +kernel
theorem d_Mo_isClash_50 : decode b_Mo_isClash 50 = .ok (.invokevirtual 111, 3) := by decide +kernel
theorem d_Mo_isClash_53 : decode b_Mo_isClash 53 = .ok (.bastore, 1) := by decide +kernel
theorem d_Mo_isClash_54 : decode b_Mo_isClash 54 = .ok (.iinc 2 (-1), 3) := by decide +kernel
theorem d_Mo_isClash_57 : decode b_Mo_isClash 57 = .ok (.goto (-24), 3) := by decide +kernel
theorem d_Mo_isClash_60 : decode b_Mo_isClash 60 = .ok (.aload_n 0, 1) := by decide +kernel
theorem d_Mo_isClash_61 : decode b_Mo_isClash 61 = .ok (.getfield 46, 3) := by decide +kernel
theorem d_Mo_isClash_64 : decode b_Mo_isClash 64 = .ok (.iload_n 1, 1) := by decide +kernel
theorem d_Mo_isClash_65 : decode b_Mo_isClash 65 = .ok (.baload, 1) := by decide +kernel
theorem d_Mo_isClash_66 : decode b_Mo_isClash 66 = .ok (.ireturn, 1) := by decide +kernel
theorem d_Mo_undo_0 : decode b_Mo_undo 0 = .ok (.aload_n 0, 1) := by decide +kernel
theorem d_Mo_undo_1 : decode b_Mo_undo 1 = .ok (.iconst 0, 1) := by decide +kernel
theorem d_Mo_undo_2 : decode b_Mo_undo 2 = .ok (.putfield 50, 3) := by decide +kernel
theorem d_Mo_undo_5 : decode b_Mo_undo 5 = .ok (.aload_n 0, 1) := by decide +kernel
theorem d_Mo_undo_6 : decode b_Mo_undo 6 = .ok (.getfield 108, 3) := by decide +kernel
theorem d_Mo_undo_9 : decode b_Mo_undo 9 = .ok (.ifCond .le 7, 3) := by decide +kernel
theorem d_Mo_undo_12 : decode b_Mo_undo 12 = .ok (.iconst 1, 1) := by decide +kernel
theorem d_Mo_undo_13 : decode b_Mo_undo 13 = .ok (.goto 4, 3) := by decide +kernel
theorem d_Mo_undo_16 : decode b_Mo_undo 16 = .ok (.iconst 0, 1) := by decide +kernel
theorem d_Mo_undo_17 : decode b_Mo_undo 17 = .ok (.istore_n 1, 1) := by decide +kernel
theorem d_Mo_undo_18 : decode b_Mo_undo 18 = .ok (.aload_n 0, 1) := by decide +kernel
theorem d_Mo_undo_19 : decode b_Mo_undo 19 = .ok (.dup, 1) := by decide +kernel
theorem d_Mo_undo_20 : decode b_Mo_undo 20 = .ok (.getfield 108, 3) := by decide +kernel
theorem d_Mo_undo_23 : decode b_Mo_undo 23 = .ok (.iload_n 1, 1) := by decide +kernel
theorem d_Mo_undo_24 : decode b_Mo_undo 24 = .ok (.ifCond .eq 7, 3) := by decide +kernel
theorem d_Mo_undo_27 : decode b_Mo_undo 27 = .ok (.iconst 1, 1) := by decide +kernel
theorem d_Mo_undo_28 : decode b_Mo_undo 28 = .ok (.goto 4, 3) := by decide +kernel
theorem d_Mo_undo_31 : decode b_Mo_undo 31 = .ok (.iconst 0, 1) := by decide +kernel
theorem d_Mo_undo_32 : decode b_Mo_undo 32 = .ok (.isub, 1) := by decide +kernel
theorem d_Mo_undo_33 : decode b_Mo_undo 33 = .ok (.putfield 108, 3) := by decide +kernel
theorem d_Mo_undo_36 : decode b_Mo_undo 36 = .ok (.iload_n 1, 1) := by decide +kernel
theorem d_Mo_undo_37 : decode b_Mo_undo 37 = .ok (.ireturn, 1) := by decide +kernel
theorem d_Mo_about_0 : decode b_Mo_about 0 = .ok (.aload_n 0, 1) := by decide +kernel
theorem d_Mo_about_1 : decode b_Mo_about 1 = .ok (.iconst 0, 1) := by decide +kernel
theorem d_Mo_about_2 : decode b_Mo_about 2 = .ok (.putfield 50, 3) := by decide +kernel
theorem d_Mo_about_5 : decode b_Mo_about 5 = .ok (.iload_n 1, 1) := by decide +kernel
theorem d_Mo_about_6 : decode b_Mo_about 6 = .ok (.ifCond .ne 10, 3) := by decide +kernel
theorem d_Mo_about_9 : decode b_Mo_about 9 = .ok (.aload_n 0, 1) := by decide +kernel
theorem d_Mo_about_10 : decode b_Mo_about 10 = .ok (.getfield 54, 3) := by decide +kernel
theorem d_Mo_about_13 : decode b_Mo_about 13 = .ok (.goto 28, 3) := by decide +kernel
theorem d_Mo_about_16 : decode b_Mo_about 16 = .ok (.iload_n 1, 1) := by decide +kernel
theorem d_Mo_about_17 : decode b_Mo_about 17 = .ok (.iconst 1, 1) := by decide +kernel
theorem d_Mo_about_18 : decode b_Mo_about 18 = .ok (.if_icmp .ne 10, 3) := by decide +kernel
theorem d_Mo_about_21 : decode b_Mo_about 21 = .ok (.aload_n 0, 1) := by decide +kernel
theorem d_Mo_about_22 : decode b_Mo_about 22 = .ok (.getfield 102, 3) := by decide +kernel
theorem d_Mo_about_25 : decode b_Mo_about 25 = .ok (.goto 16, 3) := by decide +kernel
theorem d_Mo_about_28 : decode b_Mo_about 28 = .ok (.iload_n 1, 1) := by decide +kernel
theorem d_Mo_about_29 : decode b_Mo_about 29 = .ok (.iconst 2, 1) := by decide +kernel
theorem d_Mo_about_30 : decode b_Mo_about 30 = .ok (.if_icmp .ne 10, 3) := by decide +kernel
theorem d_Mo_about_33 : decode b_Mo_about 33 = .ok (.aload_n 0, 1) := by decide +kernel
theorem d_Mo_about_34 : decode b_Mo_about 34 = .ok (.getfield 108, 3) := by decide +kernel
theorem d_Mo_about_37 : decode b_Mo_about 37 = .ok (.goto 4, 3) := by decide +kernel
theorem d_Mo_about_40 : decode b_Mo_about 40 = .ok (.iconst (-1), 1) := by decide +kernel
theorem d_Mo_about_41 : decode b_Mo_about 41 = .ok (.ireturn, 1) := by decide +kernel
