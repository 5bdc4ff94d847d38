theorem d_Lv_init_0 : decode b_Lv_init 0 = .ok (.aload_n 0, 1) := by decide +kernel
theorem d_Lv_init_1 : decode b_Lv_init 1 = .ok (.invokespecial 3, 3) := by decide +kernel
theorem d_Lv_init_4 : decode b_Lv_init 4 = .ok (.aload_n 0, 1) := by decide +kernel
theorem d_Lv_init_5 : decode b_Lv_init 5 = .ok (.bipush 120, 2) := by decide +kernel
theorem d_Lv_init_7 : decode b_Lv_init 7 = .ok (.newarray .int, 2) := by decide +kernel
theorem d_Lv_init_9 : decode b_Lv_init 9 = .ok (.putfield 9, 3) := by decide +kernel
theorem d_Lv_init_12 : decode b_Lv_init 12 = .ok (.aload_n 0, 1) := by decide +kernel
theorem d_Lv_init_13 : decode b_Lv_init 13 = .ok (.bipush 120, 2) := by decide +kernel
theorem d_Lv_init_15 : decode b_Lv_init 15 = .ok (.newarray .int, 2) := by decide +kernel
theorem d_Lv_init_17 : decode b_Lv_init 17 = .ok (.putfield 15, 3) := by decide +kernel
theorem d_Lv_init_20 : decode b_Lv_init 20 = .ok (.aload_n 0, 1) := by decide +kernel
theorem d_Lv_init_21 : decode b_Lv_init 21 = .ok (.bipush 120, 2) := by decide +kernel
theorem d_Lv_init_23 : decode b_Lv_init 23 = .ok (.newarray .int, 2) := by decide +kernel
theorem d_Lv_init_25 : decode b_Lv_init 25 = .ok (.putfield 18, 3) := by decide +kernel
theorem d_Lv_init_28 : decode b_Lv_init 28 = .ok (.aload_n 0, 1) := by decide +kernel
theorem d_Lv_init_29 : decode b_Lv_init 29 = .ok (.bipush 120, 2) := by decide +kernel
theorem d_Lv_init_31 : decode b_Lv_init 31 = .ok (.newarray .int, 2) := by decide +kernel
theorem d_Lv_init_33 : decode b_Lv_init 33 = .ok (.putfield 21, 3) := by decide +kernel
theorem d_Lv_init_36 : decode b_Lv_init 36 = .ok (.aload_n 0, 1) := by decide +kernel
theorem d_Lv_init_37 : decode b_Lv_init 37 = .ok (.bipush 120, 2) := by decide +kernel
theorem d_Lv_init_39 : decode b_Lv_init 39 = .ok (.newarray .int, 2) := by decide +kernel
theorem d_Lv_init_41 : decode b_Lv_init 41 = .ok (.putfield 24, 3) := by decide +kernel
theorem d_Lv_init_44 : decode b_Lv_init 44 = .ok (.aload_n 0, 1) := by decide +kernel
theorem d_Lv_init_45 : decode b_Lv_init 45 = .ok (.bipush 120, 2) := by decide +kernel
theorem d_Lv_init_47 : decode b_Lv_init 47 = .ok (.newarray .int, 2) := by decide +kernel
theorem d_Lv_init_49 : decode b_Lv_init 49 = .ok (.putfield 27, 3) := by decide +kernel
theorem d_Lv_init_52 : decode b_Lv_init 52 = .ok (.aload_n 0, 1) := by decide +kernel
theorem d_Lv_init_53 : decode b_Lv_init 53 = .ok (.sipush 3840, 3) := by decide +kernel
theorem d_Lv_init_56 : decode b_Lv_init 56 = .ok (.newarray .long, 2) := by decide +kernel
theorem d_Lv_init_58 : decode b_Lv_init 58 = .ok (.putfield 30, 3) := by decide +kernel
theorem d_Lv_init_61 : decode b_Lv_init 61 = .ok (.aload_n 0, 1) := by decide +kernel
theorem d_Lv_init_62 : decode b_Lv_init 62 = .ok (.iconst 0, 1) := by decide +kernel
theorem d_Lv_init_63 : decode b_Lv_init 63 = .ok (.putfield 34, 3) := by decide +kernel
theorem d_Lv_init_66 : decode b_Lv_init 66 = .ok (.return_, 1) := by decide +kernel
theorem d_Lv_has_0 : decode b_Lv_has 0 = .ok (.iload_n 1, 1) := by decide +kernel
theorem d_Lv_has_1 : decode b_Lv_has 1 = .ok (.ifCond .lt 15, 3) := by decide +kernel
theorem d_Lv_has_4 : decode b_Lv_has 4 = .ok (.iload_n 1, 1) := by decide +kernel
theorem d_Lv_has_5 : decode b_Lv_has 5 = .ok (.aload_n 0, 1) := by decide +kernel
theorem d_Lv_has_6 : decode b_Lv_has 6 = .ok (.getfield 34, 3) := by decide +kernel
theorem d_Lv_has_9 : decode b_Lv_has 9 = .ok (.if_icmp .ge 7, 3) := by decide +kernel
theorem d_Lv_has_12 : decode b_Lv_has 12 = .ok (.iconst 1, 1) := by decide +kernel
theorem d_Lv_has_13 : decode b_Lv_has 13 = .ok (.goto 4, 3) := by decide +kernel
theorem d_Lv_has_16 : decode b_Lv_has 16 = .ok (.iconst 0, 1) := by decide +kernel
theorem d_Lv_has_17 : decode b_Lv_has 17 = .ok (.ireturn, 1) := by decide +kernel
theorem d_Lv_detail_0 : decode b_Lv_detail 0 = .ok (.iload_n 2, 1) := by decide +kernel
theorem d_Lv_detail_1 : decode b_Lv_detail 1 = .ok (.tableswitch 48 0 2 #[27, 34, 41], 27) := by decide +kernel
theorem d_Lv_detail_28 : decode b_Lv_detail 28 = .ok (.aload_n 0, 1) := by decide +kernel
theorem d_Lv_detail_29 : decode b_Lv_detail 29 = .ok (.getfield 9, 3) := by decide +kernel
theorem d_Lv_detail_32 : decode b_Lv_detail 32 = .ok (.iload_n 1, 1) := by decide +kernel
theorem d_Lv_detail_33 : decode b_Lv_detail 33 = .ok (.iaload, 1) := by decide +kernel
theorem d_Lv_detail_34 : decode b_Lv_detail 34 = .ok (.ireturn, 1) := by decide +kernel
theorem d_Lv_detail_35 : decode b_Lv_detail 35 = .ok (.aload_n 0, 1) := by decide +kernel
theorem d_Lv_detail_36 : decode b_Lv_detail 36 = .ok (.getfield 15, 3) := by decide +kernel
theorem d_Lv_detail_39 : decode b_Lv_detail 39 = .ok (.iload_n 1, 1) := by decide +kernel
theorem d_Lv_detail_40 : decode b_Lv_detail 40 = .ok (.iaload, 1) := by decide +kernel
theorem d_Lv_detail_41 : decode b_Lv_detail 41 = .ok (.ireturn, 1) := by decide +kernel
theorem d_Lv_detail_42 : decode b_Lv_detail 42 = .ok (.aload_n 0, 1) := by decide +kernel
theorem d_Lv_detail_43 : decode b_Lv_detail 43 = .ok (.getfield 18, 3) := by decide +kernel
theorem d_Lv_detail_46 : decode b_Lv_detail 46 = .ok (.iload_n 1, 1) := by decide +kernel
theorem d_Lv_detail_47 : decode b_Lv_detail 47 = .ok (.iaload, 1) := by decide +kernel
theorem d_Lv_detail_48 : decode b_Lv_detail 48 = .ok (.ireturn, 1) := by decide +kernel
theorem d_Lv_detail_49 : decode b_Lv_detail 49 = .ok (.iconst (-1), 1) := by decide +kernel
theorem d_Lv_detail_50 : decode b_Lv_detail 50 = .ok (.ireturn, 1) := by decide +kernel
theorem d_Lv_valueFor_0 : decode b_Lv_valueFor 0 = .ok (.iconst 0, 1) := by decide +kernel
theorem d_Lv_valueFor_1 : decode b_Lv_valueFor 1 = .ok (.istore 4, 2) := by decide +kernel
theorem d_Lv_valueFor_3 : decode b_Lv_valueFor 3 = .ok (.iload 4, 2) := by decide +kernel
theorem d_Lv_valueFor_5 : decode b_Lv_valueFor 5 = .ok (.iload_n 1, 1) := by decide +kernel
theorem d_Lv_valueFor_6 : decode b_Lv_valueFor 6 = .ok (.if_icmp .gt 23, 3) := by decide +kernel
theorem d_Lv_valueFor_9 : decode b_Lv_valueFor 9 = .ok (.aload_n 0, 1) := by decide +kernel
theorem d_Lv_valueFor_10 : decode b_Lv_valueFor 10 = .ok (.getfield 27, 3) := by decide +kernel
theorem d_Lv_valueFor_13 : decode b_Lv_valueFor 13 = .ok (.iload 4, 2) := by decide +kernel
theorem d_Lv_valueFor_15 : decode b_Lv_valueFor 15 = .ok (.aload_n 0, 1) := by decide +kernel
theorem d_Lv_valueFor_16 : decode b_Lv_valueFor 16 = .ok (.iload 4, 2) := by decide +kernel
theorem d_Lv_valueFor_18 : decode b_Lv_valueFor 18 = .ok (.lload_n 2, 1) := by decide +kernel
theorem d_Lv_valueFor_19 : decode b_Lv_valueFor 19 = .ok (.invokevirtual 95, 3) := by decide +kernel
theorem d_Lv_valueFor_22 : decode b_Lv_valueFor 22 = .ok (.iastore, 1) := by decide +kernel
theorem d_Lv_valueFor_23 : decode b_Lv_valueFor 23 = .ok (.iinc 4 1, 3) := by decide +kernel
theorem d_Lv_valueFor_26 : decode b_Lv_valueFor 26 = .ok (.goto (-23), 3) := by decide +kernel
theorem d_Lv_valueFor_29 : decode b_Lv_valueFor 29 = .ok (.aload_n 0, 1) := by decide +kernel
theorem d_Lv_valueFor_30 : decode b_Lv_valueFor 30 = .ok (.getfield 27, 3) := by decide +kernel
theorem d_Lv_valueFor_33 : decode b_Lv_valueFor 33 = .ok (.iload_n 1, 1) := by decide +kernel
theorem d_Lv_valueFor_34 : decode b_Lv_valueFor 34 = .ok (.iaload, 1) := by decide +kernel
theorem d_Lv_valueFor_35 : decode b_Lv_valueFor 35 = .ok (.ireturn, 1) := by decide +kernel
theorem d_Lv_valueOf_0 : decode b_Lv_valueOf 0 = .ok (.aload_n 0, 1) := by decide +kernel
theorem d_Lv_valueOf_1 : decode b_Lv_valueOf 1 = .ok (.getfield 9, 3) := by decide +kernel
theorem d_Lv_valueOf_4 : decode b_Lv_valueOf 4 = .ok (.iload_n 1, 1) := by decide +kernel
theorem d_Lv_valueOf_5 : decode b_Lv_valueOf 5 = .ok (.iaload, 1) := by decide +kernel
theorem d_Lv_valueOf_6 : decode b_Lv_valueOf 6 = .ok (.tableswitch 126 1 4 #[30, 47, 61, 87], 30) := by decide +kernel
theorem d_Lv_valueOf_36 : decode b_Lv_valueOf 36 = .ok (.lload_n 2, 1) := by decide +kernel
theorem d_Lv_valueOf_37 : decode b_Lv_valueOf 37 = .ok (.aload_n 0, 1) := by decide +kernel
theorem d_Lv_valueOf_38 : decode b_Lv_valueOf 38 = .ok (.getfield 15, 3) := by decide +kernel
theorem d_Lv_valueOf_41 : decode b_Lv_valueOf 41 = .ok (.iload_n 1, 1) := by decide +kernel
theorem d_Lv_valueOf_42 : decode b_Lv_valueOf 42 = .ok (.iaload, 1) := by decide +kernel
theorem d_Lv_valueOf_43 : decode b_Lv_valueOf 43 = .ok (.bipush 12, 2) := by decide +kernel
theorem d_Lv_valueOf_45 : decode b_Lv_valueOf 45 = .ok (.imul, 1) := by decide +kernel
theorem d_Lv_valueOf_46 : decode b_Lv_valueOf 46 = .ok (.lushr, 1) := by decide +kernel
theorem d_Lv_valueOf_47 : decode b_Lv_valueOf 47 = .ok (.l2i, 1) := by decide +kernel
theorem d_Lv_valueOf_48 : decode b_Lv_valueOf 48 = .ok (.sipush 4095, 3) := by decide +kernel
theorem d_Lv_valueOf_51 : decode b_Lv_valueOf 51 = .ok (.iand, 1) := by decide +kernel
theorem d_Lv_valueOf_52 : decode b_Lv_valueOf 52 = .ok (.ireturn, 1) := by decide +kernel
theorem d_Lv_valueOf_53 : decode b_Lv_valueOf 53 = .ok (.aload_n 0, 1) := by decide +kernel
theorem d_Lv_valueOf_54 : decode b_Lv_valueOf 54 = .ok (.getfield 27, 3) := by decide +kernel
theorem d_Lv_valueOf_57 : decode b_Lv_valueOf 57 = .ok (.aload_n 0, 1) := by decide +kernel
theorem d_Lv_valueOf_58 : decode b_Lv_valueOf 58 = .ok (.getfield 15, 3) := by decide +kernel
theorem d_Lv_valueOf_61 : decode b_Lv_valueOf 61 = .ok (.iload_n 1, 1) := by decide +kernel
theorem d_Lv_valueOf_62 : decode b_Lv_valueOf 62 = .ok (.iaload, 1) := by decide +kernel
theorem d_Lv_valueOf_63 : decode b_Lv_valueOf 63 = .ok (.iaload, 1) := by decide +kernel
theorem d_Lv_valueOf_64 : decode b_Lv_valueOf 64 = .ok (.iconst 1, 1) := by decide +kernel
theorem d_Lv_valueOf_65 : decode b_Lv_valueOf 65 = .ok (.iadd, 1) := by decide +kernel
theorem d_Lv_valueOf_66 : decode b_Lv_valueOf 66 = .ok (.ireturn, 1) := by decide +kernel
theorem d_Lv_valueOf_67 : decode b_Lv_valueOf 67 = .ok (.aload_n 0, 1) := by decide +kernel
theorem d_Lv_valueOf_68 : decode b_Lv_valueOf 68 = .ok (.getfield 27, 3) := by decide +kernel
theorem d_Lv_valueOf_71 : decode b_Lv_valueOf 71 = .ok (.aload_n 0, 1) := by decide +kernel
theorem d_Lv_valueOf_72 : decode b_Lv_valueOf 72 = .ok (.getfield 15, 3) := by decide +kernel
theorem d_Lv_valueOf_75 : decode b_Lv_valueOf 75 = .ok (.iload_n 1, 1) := by decide +kernel
theorem d_Lv_valueOf_76 : decode b_Lv_valueOf 76 = .ok (.iaload, 1) := by decide +kernel
theorem d_Lv_valueOf_77 : decode b_Lv_valueOf 77 = .ok (.iaload, 1) := by decide +kernel
theorem d_Lv_valueOf_78 : decode b_Lv_valueOf 78 = .ok (.aload_n 0, 1) := by decide +kernel
theorem d_Lv_valueOf_79 : decode b_Lv_valueOf 79 = .ok (.getfield 27, 3) := by decide +kernel
theorem d_Lv_valueOf_82 : decode b_Lv_valueOf 82 = .ok (.aload_n 0, 1) := by decide +kernel
theorem d_Lv_valueOf_83 : decode b_Lv_valueOf 83 = .ok (.getfield 18, 3) := by decide +kernel
theorem d_Lv_valueOf_86 : decode b_Lv_valueOf 86 = .ok (.iload_n 1, 1) := by decide +kernel
theorem d_Lv_valueOf_87 : decode b_Lv_valueOf 87 = .ok (.iaload, 1) := by decide +kernel
theorem d_Lv_valueOf_88 : decode b_Lv_valueOf 88 = .ok (.iaload, 1) := by decide +kernel
theorem d_Lv_valueOf_89 : decode b_Lv_valueOf 89 = .ok (.invokestatic 69, 3) := by decide +kernel
theorem d_Lv_valueOf_92 : decode b_Lv_valueOf 92 = .ok (.ireturn, 1) := by decide +kernel
theorem d_Lv_valueOf_93 : decode b_Lv_valueOf 93 = .ok (.aload_n 0, 1) := by decide +kernel
theorem d_Lv_valueOf_94 : decode b_Lv_valueOf 94 = .ok (.getfield 27, 3) := by decide +kernel
theorem d_Lv_valueOf_97 : decode b_Lv_valueOf 97 = .ok (.aload_n 0, 1) := by decide +kernel
theorem d_Lv_valueOf_98 : decode b_Lv_valueOf 98 = .ok (.getfield 18, 3) := by decide +kernel
theorem d_Lv_valueOf_101 : decode b_Lv_valueOf 101 = .ok (.iload_n 1, 1) := by decide +kernel
theorem d_Lv_valueOf_102 : decode b_Lv_valueOf 102 = .ok (.iaload, 1) := by decide +kernel
theorem d_Lv_valueOf_103 : decode b_Lv_valueOf 103 = .ok (.iaload, 1) := by decide +kernel
theorem d_Lv_valueOf_104 : decode b_Lv_valueOf 104 = .ok (.istore 4, 2) := by decide +kernel
theorem d_Lv_valueOf_106 : decode b_Lv_valueOf 106 = .ok (.iload 4, 2) := by decide +kernel
theorem d_Lv_valueOf_108 : decode b_Lv_valueOf 108 = .ok (.ifCond .ne 7, 3) := by decide +kernel
theorem d_Lv_valueOf_111 : decode b_Lv_valueOf 111 = .ok (.iconst 0, 1) := by decide +kernel
theorem d_Lv_valueOf_112 : decode b_Lv_valueOf 112 = .ok (.goto 19, 3) := by decide +kernel
theorem d_Lv_valueOf_115 : decode b_Lv_valueOf 115 = .ok (.aload_n 0, 1) := by decide +kernel
theorem d_Lv_valueOf_116 : decode b_Lv_valueOf 116 = .ok (.getfield 27, 3) := by decide +kernel
theorem d_Lv_valueOf_119 : decode b_Lv_valueOf 119 = .ok (.aload_n 0, 1) := by decide +kernel
theorem d_Lv_valueOf_120 : decode b_Lv_valueOf 120 = .ok (.getfield 15, 3) := by decide +kernel
theorem d_Lv_valueOf_123 : decode b_Lv_valueOf 123 = .ok (.iload_n 1, 1) := by decide +kernel
theorem d_Lv_valueOf_124 : decode b_Lv_valueOf 124 = .ok (.iaload, 1) := by decide +kernel
theorem d_Lv_valueOf_125 : decode b_Lv_valueOf 125 = .ok (.iaload, 1) := by decide +kernel
theorem d_Lv_valueOf_126 : decode b_Lv_valueOf 126 = .ok (.iload 4, 2) := by decide +kernel
theorem d_Lv_valueOf_128 : decode b_Lv_valueOf 128 = .ok (.invokestatic 69, 3) := by decide +kernel
theorem d_Lv_valueOf_131 : decode b_Lv_valueOf 131 = .ok (.ireturn, 1) := by decide +kernel
theorem d_Lv_valueOf_132 : decode b_Lv_valueOf 132 = .ok (.iconst 0, 1) := by decide +kernel
theorem d_Lv_valueOf_133 : decode b_Lv_valueOf 133 = .ok (.ireturn, 1) := by decide +kernel
theorem d_Lv_size_0 : decode b_Lv_size 0 = .ok (.aload_n 0, 1) := by decide +kernel
theorem d_Lv_size_1 : decode b_Lv_size 1 = .ok (.getfield 34, 3) := by decide +kernel
theorem d_Lv_size_4 : decode b_Lv_size 4 = .ok (.ireturn, 1) := by decide +kernel
theorem d_Lv_made_0 : decode b_Lv_made 0 = .ok (.aload_n 0, 1) := by decide +kernel
theorem d_Lv_made_1 : decode b_Lv_made 1 = .ok (.iload_n 1, 1) := by decide +kernel
theorem d_Lv_made_2 : decode b_Lv_made 2 = .ok (.iload_n 2, 1) := by decide +kernel
theorem d_Lv_made_3 : decode b_Lv_made 3 = .ok (.iload_n 3, 1) := by decide +kernel
theorem d_Lv_made_4 : decode b_Lv_made 4 = .ok (.invokevirtual 38, 3) := by decide +kernel
theorem d_Lv_made_7 : decode b_Lv_made 7 = .ok (.istore 4, 2) := by decide +kernel
theorem d_Lv_made_9 : decode b_Lv_made 9 = .ok (.iload 4, 2) := by decide +kernel
theorem d_Lv_made_11 : decode b_Lv_made 11 = .ok (.iconst (-1), 1) := by decide +kernel
theorem d_Lv_made_12 : decode b_Lv_made 12 = .ok (.if_icmp .eq 6, 3) := by decide +kernel
theorem d_Lv_made_15 : decode b_Lv_made 15 = .ok (.iload 4, 2) := by decide +kernel
theorem d_Lv_made_17 : decode b_Lv_made 17 = .ok (.ireturn, 1) := by decide +kernel
theorem d_Lv_made_18 : decode b_Lv_made 18 = .ok (.aload_n 0, 1) := by decide +kernel
theorem d_Lv_made_19 : decode b_Lv_made 19 = .ok (.iload_n 1, 1) := by decide +kernel
theorem d_Lv_made_20 : decode b_Lv_made 20 = .ok (.iload_n 2, 1) := by decide +kernel
theorem d_Lv_made_21 : decode b_Lv_made 21 = .ok (.invokevirtual 42, 3) := by decide +kernel
theorem d_Lv_made_24 : decode b_Lv_made 24 = .ok (.aload_n 0, 1) := by decide +kernel
theorem d_Lv_made_25 : decode b_Lv_made 25 = .ok (.getfield 34, 3) := by decide +kernel
theorem d_Lv_made_28 : decode b_Lv_made 28 = .ok (.istore 5, 2) := by decide +kernel
theorem d_Lv_made_30 : decode b_Lv_made 30 = .ok (.aload_n 0, 1) := by decide +kernel
theorem d_Lv_made_31 : decode b_Lv_made 31 = .ok (.getfield 9, 3) := by decide +kernel
theorem d_Lv_made_34 : decode b_Lv_made 34 = .ok (.iload 5, 2) := by decide +kernel
theorem d_Lv_made_36 : decode b_Lv_made 36 = .ok (.iload_n 1, 1) := by decide +kernel
theorem d_Lv_made_37 : decode b_Lv_made 37 = .ok (.iastore, 1) := by decide +kernel
theorem d_Lv_made_38 : decode b_Lv_made 38 = .ok (.aload_n 0, 1) := by decide +kernel
theorem d_Lv_made_39 : decode b_Lv_made 39 = .ok (.getfield 15, 3) := by decide +kernel
theorem d_Lv_made_42 : decode b_Lv_made 42 = .ok (.iload 5, 2) := by decide +kernel
theorem d_Lv_made_44 : decode b_Lv_made 44 = .ok (.iload_n 2, 1) := by decide +kernel
theorem d_Lv_made_45 : decode b_Lv_made 45 = .ok (.iastore, 1) := by decide +kernel
theorem d_Lv_made_46 : decode b_Lv_made 46 = .ok (.aload_n 0, 1) := by decide +kernel
theorem d_Lv_made_47 : decode b_Lv_made 47 = .ok (.getfield 18, 3) := by decide +kernel
theorem d_Lv_made_50 : decode b_Lv_made 50 = .ok (.iload 5, 2) := by decide +kernel
theorem d_Lv_made_52 : decode b_Lv_made 52 = .ok (.iload_n 3, 1) := by decide +kernel
theorem d_Lv_made_53 : decode b_Lv_made 53 = .ok (.iastore, 1) := by decide +kernel
theorem d_Lv_made_54 : decode b_Lv_made 54 = .ok (.aload_n 0, 1) := by decide +kernel
theorem d_Lv_made_55 : decode b_Lv_made 55 = .ok (.getfield 21, 3) := by decide +kernel
theorem d_Lv_made_58 : decode b_Lv_made 58 = .ok (.iload 5, 2) := by decide +kernel
theorem d_Lv_made_60 : decode b_Lv_made 60 = .ok (.aload_n 0, 1) := by decide +kernel
theorem d_Lv_made_61 : decode b_Lv_made 61 = .ok (.iload 5, 2) := by decide +kernel
theorem d_Lv_made_63 : decode b_Lv_made 63 = .ok (.invokevirtual 46, 3) := by decide +kernel
theorem d_Lv_made_66 : decode b_Lv_made 66 = .ok (.iastore, 1) := by decide +kernel
theorem d_Lv_made_67 : decode b_Lv_made 67 = .ok (.aload_n 0, 1) := by decide +kernel
theorem d_Lv_made_68 : decode b_Lv_made 68 = .ok (.getfield 24, 3) := by decide +kernel
theorem d_Lv_made_71 : decode b_Lv_made 71 = .ok (.iload 5, 2) := by decide +kernel
theorem d_Lv_made_73 : decode b_Lv_made 73 = .ok (.aload_n 0, 1) := by decide +kernel
theorem d_Lv_made_74 : decode b_Lv_made 74 = .ok (.iload 5, 2) := by decide +kernel
theorem d_Lv_made_76 : decode b_Lv_made 76 = .ok (.invokevirtual 50, 3) := by decide +kernel
theorem d_Lv_made_79 : decode b_Lv_made 79 = .ok (.iastore, 1) := by decide +kernel
theorem d_Lv_made_80 : decode b_Lv_made 80 = .ok (.iconst 0, 1) := by decide +kernel
theorem d_Lv_made_81 : decode b_Lv_made 81 = .ok (.istore 6, 2) := by decide +kernel
theorem d_Lv_made_83 : decode b_Lv_made 83 = .ok (.iload 6, 2) := by decide +kernel
theorem d_Lv_made_85 : decode b_Lv_made 85 = .ok (.bipush 32, 2) := by decide +kernel
theorem d_Lv_made_87 : decode b_Lv_made 87 = .ok (.if_icmp .ge 30, 3) := by decide +kernel
theorem d_Lv_made_90 : decode b_Lv_made 90 = .ok (.aload_n 0, 1) := by decide +kernel
theorem d_Lv_made_91 : decode b_Lv_made 91 = .ok (.getfield 30, 3) := by decide +kernel
theorem d_Lv_made_94 : decode b_Lv_made 94 = .ok (.iload 5, 2) := by decide +kernel
theorem d_Lv_made_96 : decode b_Lv_made 96 = .ok (.bipush 32, 2) := by decide +kernel
theorem d_Lv_made_98 : decode b_Lv_made 98 = .ok (.imul, 1) := by decide +kernel
theorem d_Lv_made_99 : decode b_Lv_made 99 = .ok (.iload 6, 2) := by decide +kernel
theorem d_Lv_made_101 : decode b_Lv_made 101 = .ok (.iadd, 1) := by decide +kernel
theorem d_Lv_made_102 : decode b_Lv_made 102 = .ok (.aload_n 0, 1) := by decide +kernel
theorem d_Lv_made_103 : decode b_Lv_made 103 = .ok (.iload 5, 2) := by decide +kernel
theorem d_Lv_made_105 : decode b_Lv_made 105 = .ok (.iload 6, 2) := by decide +kernel
theorem d_Lv_made_107 : decode b_Lv_made 107 = .ok (.invokevirtual 53, 3) := by decide +kernel
theorem d_Lv_made_110 : decode b_Lv_made 110 = .ok (.lastore, 1) := by decide +kernel
theorem d_Lv_made_111 : decode b_Lv_made 111 = .ok (.iinc 6 1, 3) := by decide +kernel
theorem d_Lv_made_114 : decode b_Lv_made 114 = .ok (.goto (-31), 3) := by decide +kernel
theorem d_Lv_made_117 : decode b_Lv_made 117 = .ok (.aload_n 0, 1) := by decide +kernel
theorem d_Lv_made_118 : decode b_Lv_made 118 = .ok (.dup, 1) := by decide +kernel
theorem d_Lv_made_119 : decode b_Lv_made 119 = .ok (.getfield 34, 3) := by decide +kernel
theorem d_Lv_made_122 : decode b_Lv_made 122 = .ok (.iconst 1, 1) := by decide +kernel
theorem d_Lv_made_123 : decode b_Lv_made 123 = .ok (.iadd, 1) := by decide +kernel
theorem d_Lv_made_124 : decode b_Lv_made 124 = .ok (.putfield 34, 3) := by decide +kernel
theorem d_Lv_made_127 : decode b_Lv_made 127 = .ok (.iload 5, 2) := by decide +kernel
theorem d_Lv_made_129 : decode b_Lv_made 129 = .ok (.ireturn, 1) := by decide +kernel
theorem d_Lv_find_0 : decode b_Lv_find 0 = .ok (.iconst 0, 1) := by decide +kernel
theorem d_Lv_find_1 : decode b_Lv_find 1 = .ok (.istore 4, 2) := by decide +kernel
theorem d_Lv_find_3 : decode b_Lv_find 3 = .ok (.iload 4, 2) := by decide +kernel
theorem d_Lv_find_5 : decode b_Lv_find 5 = .ok (.aload_n 0, 1) := by decide +kernel
theorem d_Lv_find_6 : decode b_Lv_find 6 = .ok (.getfield 34, 3) := by decide +kernel
theorem d_Lv_find_9 : decode b_Lv_find 9 = .ok (.if_icmp .ge 45, 3) := by decide +kernel
theorem d_Lv_find_12 : decode b_Lv_find 12 = .ok (.aload_n 0, 1) := by decide +kernel
theorem d_Lv_find_13 : decode b_Lv_find 13 = .ok (.getfield 9, 3) := by decide +kernel
theorem d_Lv_find_16 : decode b_Lv_find 16 = .ok (.iload 4, 2) := by decide +kernel
theorem d_Lv_find_18 : decode b_Lv_find 18 = .ok (.iaload, 1) := by decide +kernel
theorem d_Lv_find_19 : decode b_Lv_find 19 = .ok (.iload_n 1, 1) := by decide +kernel
theorem d_Lv_find_20 : decode b_Lv_find 20 = .ok (.if_icmp .ne 28, 3) := by decide +kernel
theorem d_Lv_find_23 : decode b_Lv_find 23 = .ok (.aload_n 0, 1) := by decide +kernel
theorem d_Lv_find_24 : decode b_Lv_find 24 = .ok (.getfield 15, 3) := by decide +kernel
theorem d_Lv_find_27 : decode b_Lv_find 27 = .ok (.iload 4, 2) := by decide +kernel
theorem d_Lv_find_29 : decode b_Lv_find 29 = .ok (.iaload, 1) := by decide +kernel
theorem d_Lv_find_30 : decode b_Lv_find 30 = .ok (.iload_n 2, 1) := by decide +kernel
theorem d_Lv_find_31 : decode b_Lv_find 31 = .ok (.if_icmp .ne 17, 3) := by decide +kernel
theorem d_Lv_find_34 : decode b_Lv_find 34 = .ok (.aload_n 0, 1) := by decide +kernel
theorem d_Lv_find_35 : decode b_Lv_find 35 = .ok (.getfield 18, 3) := by decide +kernel
theorem d_Lv_find_38 : decode b_Lv_find 38 = .ok (.iload 4, 2) := by decide +kernel
theorem d_Lv_find_40 : decode b_Lv_find 40 = .ok (.iaload, 1) := by decide +kernel
theorem d_Lv_find_41 : decode b_Lv_find 41 = .ok (.iload_n 3, 1) := by decide +kernel
theorem d_Lv_find_42 : decode b_Lv_find 42 = .ok (.if_icmp .ne 6, 3) := by decide +kernel
theorem d_Lv_find_45 : decode b_Lv_find 45 = .ok (.iload 4, 2) := by decide +kernel
theorem d_Lv_find_47 : decode b_Lv_find 47 = .ok (.ireturn, 1) := by decide +kernel
theorem d_Lv_find_48 : decode b_Lv_find 48 = .ok (.iinc 4 1, 3) := by decide +kernel
theorem d_Lv_find_51 : decode b_Lv_find 51 = .ok (.goto (-48), 3) := by decide +kernel
theorem d_Lv_find_54 : decode b_Lv_find 54 = .ok (.iconst (-1), 1) := by decide +kernel
theorem d_Lv_find_55 : decode b_Lv_find 55 = .ok (.ireturn, 1) := by decide +kernel
theorem d_Lv_checkNew_0 : decode b_Lv_checkNew 0 = .ok (.iload_n 1, 1) := by decide +kernel
theorem d_Lv_checkNew_1 : decode b_Lv_checkNew 1 = .ok (.iconst 2, 1) := by decide +kernel
theorem d_Lv_checkNew_2 : decode b_Lv_checkNew 2 = .ok (.if_icmp .ne 24, 3) := by decide +kernel
theorem d_Lv_checkNew_5 : decode b_Lv_checkNew 5 = .ok (.aload_n 0, 1) := by decide +kernel
theorem d_Lv_checkNew_6 : decode b_Lv_checkNew 6 = .ok (.getfield 21, 3) := by decide +kernel
theorem d_Lv_checkNew_9 : decode b_Lv_checkNew 9 = .ok (.iload_n 2, 1) := by decide +kernel
theorem d_Lv_checkNew_10 : decode b_Lv_checkNew 10 = .ok (.iaload, 1) := by decide +kernel
theorem d_Lv_checkNew_11 : decode b_Lv_checkNew 11 = .ok (.bipush 60, 2) := by decide +kernel
theorem d_Lv_checkNew_13 : decode b_Lv_checkNew 13 = .ok (.if_icmp .lt 13, 3) := by decide +kernel
theorem d_Lv_checkNew_16 : decode b_Lv_checkNew 16 = .ok (.new 57, 3) := by decide +kernel
theorem d_Lv_checkNew_19 : decode b_Lv_checkNew 19 = .ok (.dup, 1) := by decide +kernel
theorem d_Lv_checkNew_20 : decode b_Lv_checkNew 20 = .ok (.ldc 59, 2) := by decide +kernel
theorem d_Lv_checkNew_22 : decode b_Lv_checkNew 22 = .ok (.invokespecial 61, 3) := by decide +kernel
theorem d_Lv_checkNew_25 : decode b_Lv_checkNew 25 = .ok (.athrow, 1) := by decide +kernel
theorem d_Lv_checkNew_26 : decode b_Lv_checkNew 26 = .ok (.aload_n 0, 1) := by decide +kernel
theorem d_Lv_checkNew_27 : decode b_Lv_checkNew 27 = .ok (.getfield 34, 3) := by decide +kernel
theorem d_Lv_checkNew_30 : decode b_Lv_checkNew 30 = .ok (.bipush 120, 2) := by decide +kernel
theorem d_Lv_checkNew_32 : decode b_Lv_checkNew 32 = .ok (.if_icmp .lt 13, 3) := by decide +kernel
theorem d_Lv_checkNew_35 : decode b_Lv_checkNew 35 = .ok (.new 64, 3) := by decide +kernel
theorem d_Lv_checkNew_38 : decode b_Lv_checkNew 38 = .ok (.dup, 1) := by decide +kernel
theorem d_Lv_checkNew_39 : decode b_Lv_checkNew 39 = .ok (.ldc 66, 2) := by decide +kernel
theorem d_Lv_checkNew_41 : decode b_Lv_checkNew 41 = .ok (.invokespecial 68, 3) := by decide +kernel
theorem d_Lv_checkNew_44 : decode b_Lv_checkNew 44 = .ok (.athrow, 1) := by decide +kernel
theorem d_Lv_checkNew_45 : decode b_Lv_checkNew 45 = .ok (.return_, 1) := by decide +kernel
theorem d_Lv_nextsOf_0 : decode b_Lv_nextsOf 0 = .ok (.aload_n 0, 1) := by decide +kernel
theorem d_Lv_nextsOf_1 : decode b_Lv_nextsOf 1 = .ok (.getfield 9, 3) := by decide +kernel
theorem d_Lv_nextsOf_4 : decode b_Lv_nextsOf 4 = .ok (.iload_n 1, 1) := by decide +kernel
theorem d_Lv_nextsOf_5 : decode b_Lv_nextsOf 5 = .ok (.iaload, 1) := by decide +kernel
theorem d_Lv_nextsOf_6 : decode b_Lv_nextsOf 6 = .ok (.tableswitch 66 2 4 #[26, 40, 40], 26) := by decide +kernel
theorem d_Lv_nextsOf_32 : decode b_Lv_nextsOf 32 = .ok (.aload_n 0, 1) := by decide +kernel
theorem d_Lv_nextsOf_33 : decode b_Lv_nextsOf 33 = .ok (.getfield 21, 3) := by decide +kernel
theorem d_Lv_nextsOf_36 : decode b_Lv_nextsOf 36 = .ok (.aload_n 0, 1) := by decide +kernel
theorem d_Lv_nextsOf_37 : decode b_Lv_nextsOf 37 = .ok (.getfield 15, 3) := by decide +kernel
theorem d_Lv_nextsOf_40 : decode b_Lv_nextsOf 40 = .ok (.iload_n 1, 1) := by decide +kernel
theorem d_Lv_nextsOf_41 : decode b_Lv_nextsOf 41 = .ok (.iaload, 1) := by decide +kernel
theorem d_Lv_nextsOf_42 : decode b_Lv_nextsOf 42 = .ok (.iaload, 1) := by decide +kernel
theorem d_Lv_nextsOf_43 : decode b_Lv_nextsOf 43 = .ok (.iconst 1, 1) := by decide +kernel
theorem d_Lv_nextsOf_44 : decode b_Lv_nextsOf 44 = .ok (.iadd, 1) := by decide +kernel
theorem d_Lv_nextsOf_45 : decode b_Lv_nextsOf 45 = .ok (.ireturn, 1) := by decide +kernel
theorem d_Lv_nextsOf_46 : decode b_Lv_nextsOf 46 = .ok (.aload_n 0, 1) := by decide +kernel
theorem d_Lv_nextsOf_47 : decode b_Lv_nextsOf 47 = .ok (.getfield 21, 3) := by decide +kernel
theorem d_Lv_nextsOf_50 : decode b_Lv_nextsOf 50 = .ok (.aload_n 0, 1) := by decide +kernel
theorem d_Lv_nextsOf_51 : decode b_Lv_nextsOf 51 = .ok (.getfield 15, 3) := by decide +kernel
theorem d_Lv_nextsOf_54 : decode b_Lv_nextsOf 54 = .ok (.iload_n 1, 1) := by decide +kernel
theorem d_Lv_nextsOf_55 : decode b_Lv_nextsOf 55 = .ok (.iaload, 1) := by decide +kernel
theorem d_Lv_nextsOf_56 : decode b_Lv_nextsOf 56 = .ok (.iaload, 1) := by decide +kernel
theorem d_Lv_nextsOf_57 : decode b_Lv_nextsOf 57 = .ok (.aload_n 0, 1) := by decide +kernel
theorem d_Lv_nextsOf_58 : decode b_Lv_nextsOf 58 = .ok (.getfield 21, 3) := by decide +kernel
theorem d_Lv_nextsOf_61 : decode b_Lv_nextsOf 61 = .ok (.aload_n 0, 1) := by decide +kernel
theorem d_Lv_nextsOf_62 : decode b_Lv_nextsOf 62 = .ok (.getfield 18, 3) := by decide +kernel
theorem d_Lv_nextsOf_65 : decode b_Lv_nextsOf 65 = .ok (.iload_n 1, 1) := by decide +kernel
theorem d_Lv_nextsOf_66 : decode b_Lv_nextsOf 66 = .ok (.iaload, 1) := by decide +kernel
theorem d_Lv_nextsOf_67 : decode b_Lv_nextsOf 67 = .ok (.iaload, 1) := by decide +kernel
theorem d_Lv_nextsOf_68 : decode b_Lv_nextsOf 68 = .ok (.invokestatic 69, 3) := by decide +kernel
theorem d_Lv_nextsOf_71 : decode b_Lv_nextsOf 71 = .ok (.ireturn, 1) := by decide +kernel
theorem d_Lv_nextsOf_72 : decode b_Lv_nextsOf 72 = .ok (.iconst 0, 1) := by decide +kernel
theorem d_Lv_nextsOf_73 : decode b_Lv_nextsOf 73 = .ok (.ireturn, 1) := by decide +kernel
theorem d_Lv_usesOf_0 : decode b_Lv_usesOf 0 = .ok (.aload_n 0, 1) := by decide +kernel
theorem d_Lv_usesOf_1 : decode b_Lv_usesOf 1 = .ok (.getfield 9, 3) := by decide +kernel
theorem d_Lv_usesOf_4 : decode b_Lv_usesOf 4 = .ok (.iload_n 1, 1) := by decide +kernel
theorem d_Lv_usesOf_5 : decode b_Lv_usesOf 5 = .ok (.iaload, 1) := by decide +kernel
theorem d_Lv_usesOf_6 : decode b_Lv_usesOf 6 = .ok (.tableswitch 75 1 4 #[30, 39, 51, 51], 30) := by decide +kernel
theorem d_Lv_usesOf_36 : decode b_Lv_usesOf 36 = .ok (.iconst 1, 1) := by decide +kernel
theorem d_Lv_usesOf_37 : decode b_Lv_usesOf 37 = .ok (.aload_n 0, 1) := by decide +kernel
theorem d_Lv_usesOf_38 : decode b_Lv_usesOf 38 = .ok (.getfield 15, 3) := by decide +kernel
theorem d_Lv_usesOf_41 : decode b_Lv_usesOf 41 = .ok (.iload_n 1, 1) := by decide +kernel
theorem d_Lv_usesOf_42 : decode b_Lv_usesOf 42 = .ok (.iaload, 1) := by decide +kernel
theorem d_Lv_usesOf_43 : decode b_Lv_usesOf 43 = .ok (.ishl, 1) := by decide +kernel
theorem d_Lv_usesOf_44 : decode b_Lv_usesOf 44 = .ok (.ireturn, 1) := by decide +kernel
theorem d_Lv_usesOf_45 : decode b_Lv_usesOf 45 = .ok (.aload_n 0, 1) := by decide +kernel
theorem d_Lv_usesOf_46 : decode b_Lv_usesOf 46 = .ok (.getfield 24, 3) := by decide +kernel
theorem d_Lv_usesOf_49 : decode b_Lv_usesOf 49 = .ok (.aload_n 0, 1) := by decide +kernel
theorem d_Lv_usesOf_50 : decode b_Lv_usesOf 50 = .ok (.getfield 15, 3) := by decide +kernel
theorem d_Lv_usesOf_53 : decode b_Lv_usesOf 53 = .ok (.iload_n 1, 1) := by decide +kernel
theorem d_Lv_usesOf_54 : decode b_Lv_usesOf 54 = .ok (.iaload, 1) := by decide +kernel
theorem d_Lv_usesOf_55 : decode b_Lv_usesOf 55 = .ok (.iaload, 1) := by decide +kernel
theorem d_Lv_usesOf_56 : decode b_Lv_usesOf 56 = .ok (.ireturn, 1) := by decide +kernel
theorem d_Lv_usesOf_57 : decode b_Lv_usesOf 57 = .ok (.aload_n 0, 1) := by decide +kernel
theorem d_Lv_usesOf_58 : decode b_Lv_usesOf 58 = .ok (.getfield 24, 3) := by decide +kernel
theorem d_Lv_usesOf_61 : decode b_Lv_usesOf 61 = .ok (.aload_n 0, 1) := by decide +kernel
theorem d_Lv_usesOf_62 : decode b_Lv_usesOf 62 = .ok (.getfield 15, 3) := by decide +kernel
theorem d_Lv_usesOf_65 : decode b_Lv_usesOf 65 = .ok (.iload_n 1, 1) := by decide +kernel
theorem d_Lv_usesOf_66 : decode b_Lv_usesOf 66 = .ok (.iaload, 1) := by decide +kernel
theorem d_Lv_usesOf_67 : decode b_Lv_usesOf 67 = .ok (.iaload, 1) := by decide +kernel
theorem d_Lv_usesOf_68 : decode b_Lv_usesOf 68 = .ok (.aload_n 0, 1) := by decide +kernel
theorem d_Lv_usesOf_69 : decode b_Lv_usesOf 69 = .ok (.getfield 24, 3) := by decide +kernel
theorem d_Lv_usesOf_72 : decode b_Lv_usesOf 72 = .ok (.aload_n 0, 1) := by decide +kernel
theorem d_Lv_usesOf_73 : decode b_Lv_usesOf 73 = .ok (.getfield 18, 3) := by decide +kernel
theorem d_Lv_usesOf_76 : decode b_Lv_usesOf 76 = .ok (.iload_n 1, 1) := by decide +kernel
theorem d_Lv_usesOf_77 : decode b_Lv_usesOf 77 = .ok (.iaload, 1) := by decide +kernel
theorem d_Lv_usesOf_78 : decode b_Lv_usesOf 78 = .ok (.iaload, 1) := by decide +kernel
theorem d_Lv_usesOf_79 : decode b_Lv_usesOf 79 = .ok (.ior, 1) := by decide +kernel
theorem d_Lv_usesOf_80 : decode b_Lv_usesOf 80 = .ok (.ireturn, 1) := by decide +kernel
theorem d_Lv_usesOf_81 : decode b_Lv_usesOf 81 = .ok (.iconst 0, 1) := by decide +kernel
theorem d_Lv_usesOf_82 : decode b_Lv_usesOf 82 = .ok (.ireturn, 1) := by decide +kernel
theorem d_Lv_partsOf_0 : decode b_Lv_partsOf 0 = .ok (.aload_n 0, 1) := by decide +kernel
theorem d_Lv_partsOf_1 : decode b_Lv_partsOf 1 = .ok (.getfield 9, 3) := by decide +kernel
theorem d_Lv_partsOf_4 : decode b_Lv_partsOf 4 = .ok (.iload_n 1, 1) := by decide +kernel
theorem d_Lv_partsOf_5 : decode b_Lv_partsOf 5 = .ok (.iaload, 1) := by decide +kernel
theorem d_Lv_partsOf_6 : decode b_Lv_partsOf 6 = .ok (.tableswitch 138 1 4 #[30, 58, 73, 99], 30) := by decide +kernel
theorem d_Lv_partsOf_36 : decode b_Lv_partsOf 36 = .ok (.iload_n 2, 1) := by decide +kernel
theorem d_Lv_partsOf_37 : decode b_Lv_partsOf 37 = .ok (.aload_n 0, 1) := by decide +kernel
theorem d_Lv_partsOf_38 : decode b_Lv_partsOf 38 = .ok (.getfield 15, 3) := by decide +kernel
theorem d_Lv_partsOf_41 : decode b_Lv_partsOf 41 = .ok (.iload_n 1, 1) := by decide +kernel
theorem d_Lv_partsOf_42 : decode b_Lv_partsOf 42 = .ok (.iaload, 1) := by decide +kernel
theorem d_Lv_partsOf_43 : decode b_Lv_partsOf 43 = .ok (.ishr, 1) := by decide +kernel
theorem d_Lv_partsOf_44 : decode b_Lv_partsOf 44 = .ok (.iconst 1, 1) := by decide +kernel
theorem d_Lv_partsOf_45 : decode b_Lv_partsOf 45 = .ok (.iand, 1) := by decide +kernel
theorem d_Lv_partsOf_46 : decode b_Lv_partsOf 46 = .ok (.ifCond .eq 12, 3) := by decide +kernel
theorem d_Lv_partsOf_49 : decode b_Lv_partsOf 49 = .ok (.aload_n 0, 1) := by decide +kernel
theorem d_Lv_partsOf_50 : decode b_Lv_partsOf 50 = .ok (.getfield 15, 3) := by decide +kernel
theorem d_Lv_partsOf_53 : decode b_Lv_partsOf 53 = .ok (.iload_n 1, 1) := by decide +kernel
theorem d_Lv_partsOf_54 : decode b_Lv_partsOf 54 = .ok (.iaload, 1) := by decide +kernel
theorem d_Lv_partsOf_55 : decode b_Lv_partsOf 55 = .ok (.goto 4, 3) := by decide +kernel
theorem d_Lv_partsOf_58 : decode b_Lv_partsOf 58 = .ok (.iconst 5, 1) := by decide +kernel
theorem d_Lv_partsOf_59 : decode b_Lv_partsOf 59 = .ok (.iconst 0, 1) := by decide +kernel
theorem d_Lv_partsOf_60 : decode b_Lv_partsOf 60 = .ok (.invokestatic 77, 3) := by decide +kernel
theorem d_Lv_partsOf_63 : decode b_Lv_partsOf 63 = .ok (.lreturn, 1) := by decide +kernel
theorem d_Lv_partsOf_64 : decode b_Lv_partsOf 64 = .ok (.aload_n 0, 1) := by decide +kernel
theorem d_Lv_partsOf_65 : decode b_Lv_partsOf 65 = .ok (.aload_n 0, 1) := by decide +kernel
theorem d_Lv_partsOf_66 : decode b_Lv_partsOf 66 = .ok (.getfield 15, 3) := by decide +kernel
theorem d_Lv_partsOf_69 : decode b_Lv_partsOf 69 = .ok (.iload_n 1, 1) := by decide +kernel
theorem d_Lv_partsOf_70 : decode b_Lv_partsOf 70 = .ok (.iaload, 1) := by decide +kernel
theorem d_Lv_partsOf_71 : decode b_Lv_partsOf 71 = .ok (.iload_n 2, 1) := by decide +kernel
theorem d_Lv_partsOf_72 : decode b_Lv_partsOf 72 = .ok (.invokevirtual 80, 3) := by decide +kernel
theorem d_Lv_partsOf_75 : decode b_Lv_partsOf 75 = .ok (.invokestatic 83, 3) := by decide +kernel
theorem d_Lv_partsOf_78 : decode b_Lv_partsOf 78 = .ok (.lreturn, 1) := by decide +kernel
theorem d_Lv_partsOf_79 : decode b_Lv_partsOf 79 = .ok (.aload_n 0, 1) := by decide +kernel
theorem d_Lv_partsOf_80 : decode b_Lv_partsOf 80 = .ok (.aload_n 0, 1) := by decide +kernel
theorem d_Lv_partsOf_81 : decode b_Lv_partsOf 81 = .ok (.getfield 15, 3) := by decide +kernel
theorem d_Lv_partsOf_84 : decode b_Lv_partsOf 84 = .ok (.iload_n 1, 1) := by decide +kernel
theorem d_Lv_partsOf_85 : decode b_Lv_partsOf 85 = .ok (.iaload, 1) := by decide +kernel
theorem d_Lv_partsOf_86 : decode b_Lv_partsOf 86 = .ok (.iload_n 2, 1) := by decide +kernel
theorem d_Lv_partsOf_87 : decode b_Lv_partsOf 87 = .ok (.invokevirtual 80, 3) := by decide +kernel
theorem d_Lv_partsOf_90 : decode b_Lv_partsOf 90 = .ok (.aload_n 0, 1) := by decide +kernel
theorem d_Lv_partsOf_91 : decode b_Lv_partsOf 91 = .ok (.aload_n 0, 1) := by decide +kernel
theorem d_Lv_partsOf_92 : decode b_Lv_partsOf 92 = .ok (.getfield 18, 3) := by decide +kernel
theorem d_Lv_partsOf_95 : decode b_Lv_partsOf 95 = .ok (.iload_n 1, 1) := by decide +kernel
theorem d_Lv_partsOf_96 : decode b_Lv_partsOf 96 = .ok (.iaload, 1) := by decide +kernel
theorem d_Lv_partsOf_97 : decode b_Lv_partsOf 97 = .ok (.iload_n 2, 1) := by decide +kernel
theorem d_Lv_partsOf_98 : decode b_Lv_partsOf 98 = .ok (.invokevirtual 80, 3) := by decide +kernel
theorem d_Lv_partsOf_101 : decode b_Lv_partsOf 101 = .ok (.invokestatic 87, 3) := by decide +kernel
theorem d_Lv_partsOf_104 : decode b_Lv_partsOf 104 = .ok (.lreturn, 1) := by decide +kernel
theorem d_Lv_partsOf_105 : decode b_Lv_partsOf 105 = .ok (.aload_n 0, 1) := by decide +kernel
theorem d_Lv_partsOf_106 : decode b_Lv_partsOf 106 = .ok (.aload_n 0, 1) := by decide +kernel
theorem d_Lv_partsOf_107 : decode b_Lv_partsOf 107 = .ok (.getfield 18, 3) := by decide +kernel
theorem d_Lv_partsOf_110 : decode b_Lv_partsOf 110 = .ok (.iload_n 1, 1) := by decide +kernel
theorem d_Lv_partsOf_111 : decode b_Lv_partsOf 111 = .ok (.iaload, 1) := by decide +kernel
theorem d_Lv_partsOf_112 : decode b_Lv_partsOf 112 = .ok (.iload_n 2, 1) := by decide +kernel
theorem d_Lv_partsOf_113 : decode b_Lv_partsOf 113 = .ok (.invokevirtual 80, 3) := by decide +kernel
theorem d_Lv_partsOf_116 : decode b_Lv_partsOf 116 = .ok (.lstore_n 3, 1) := by decide +kernel
theorem d_Lv_partsOf_117 : decode b_Lv_partsOf 117 = .ok (.lload_n 3, 1) := by decide +kernel
theorem d_Lv_partsOf_118 : decode b_Lv_partsOf 118 = .ok (.invokestatic 91, 3) := by decide +kernel
theorem d_Lv_partsOf_121 : decode b_Lv_partsOf 121 = .ok (.ifCond .eq 7, 3) := by decide +kernel
theorem d_Lv_partsOf_124 : decode b_Lv_partsOf 124 = .ok (.lload_n 3, 1) := by decide +kernel
theorem d_Lv_partsOf_125 : decode b_Lv_partsOf 125 = .ok (.goto 18, 3) := by decide +kernel
theorem d_Lv_partsOf_128 : decode b_Lv_partsOf 128 = .ok (.aload_n 0, 1) := by decide +kernel
theorem d_Lv_partsOf_129 : decode b_Lv_partsOf 129 = .ok (.aload_n 0, 1) := by decide +kernel
theorem d_Lv_partsOf_130 : decode b_Lv_partsOf 130 = .ok (.getfield 15, 3) := by decide +kernel
theorem d_Lv_partsOf_133 : decode b_Lv_partsOf 133 = .ok (.iload_n 1, 1) := by decide +kernel
theorem d_Lv_partsOf_134 : decode b_Lv_partsOf 134 = .ok (.iaload, 1) := by decide +kernel
theorem d_Lv_partsOf_135 : decode b_Lv_partsOf 135 = .ok (.iload_n 2, 1) := by decide +kernel
theorem d_Lv_partsOf_136 : decode b_Lv_partsOf 136 = .ok (.invokevirtual 80, 3) := by decide +kernel
theorem d_Lv_partsOf_139 : decode b_Lv_partsOf 139 = .ok (.lload_n 3, 1) := by decide +kernel
theorem d_Lv_partsOf_140 : decode b_Lv_partsOf 140 = .ok (.invokestatic 87, 3) := by decide +kernel
theorem d_Lv_partsOf_143 : decode b_Lv_partsOf 143 = .ok (.lreturn, 1) := by decide +kernel
theorem d_Lv_partsOf_144 : decode b_Lv_partsOf 144 = .ok (.iconst 5, 1) := by decide +kernel
theorem d_Lv_partsOf_145 : decode b_Lv_partsOf 145 = .ok (.iconst 0, 1) := by decide +kernel
theorem d_Lv_partsOf_146 : decode b_Lv_partsOf 146 = .ok (.invokestatic 77, 3) := by decide +kernel
theorem d_Lv_partsOf_149 : decode b_Lv_partsOf 149 = .ok (.lreturn, 1) := by decide +kernel
theorem d_Pt_only_0 : decode b_Pt_only 0 = .ok (.iload_n 1, 1) := by decide +kernel
theorem d_Pt_only_1 : decode b_Pt_only 1 = .ok (.iconst 1, 1) := by decide +kernel
theorem d_Pt_only_2 : decode b_Pt_only 2 = .ok (.iadd, 1) := by decide +kernel
theorem d_Pt_only_3 : decode b_Pt_only 3 = .ok (.i2l, 1) := by decide +kernel
theorem d_Pt_only_4 : decode b_Pt_only 4 = .ok (.iload_n 0, 1) := by decide +kernel
theorem d_Pt_only_5 : decode b_Pt_only 5 = .ok (.bipush 8, 2) := by decide +kernel
theorem d_Pt_only_7 : decode b_Pt_only 7 = .ok (.imul, 1) := by decide +kernel
theorem d_Pt_only_8 : decode b_Pt_only 8 = .ok (.lshl, 1) := by decide +kernel
theorem d_Pt_only_9 : decode b_Pt_only 9 = .ok (.lreturn, 1) := by decide +kernel
theorem d_Lv_partsIn_0 : decode b_Lv_partsIn 0 = .ok (.aload_n 0, 1) := by decide +kernel
theorem d_Lv_partsIn_1 : decode b_Lv_partsIn 1 = .ok (.getfield 30, 3) := by decide +kernel
theorem d_Lv_partsIn_4 : decode b_Lv_partsIn 4 = .ok (.iload_n 1, 1) := by decide +kernel
theorem d_Lv_partsIn_5 : decode b_Lv_partsIn 5 = .ok (.bipush 32, 2) := by decide +kernel
theorem d_Lv_partsIn_7 : decode b_Lv_partsIn 7 = .ok (.imul, 1) := by decide +kernel
theorem d_Lv_partsIn_8 : decode b_Lv_partsIn 8 = .ok (.iload_n 2, 1) := by decide +kernel
theorem d_Lv_partsIn_9 : decode b_Lv_partsIn 9 = .ok (.iadd, 1) := by decide +kernel
theorem d_Lv_partsIn_10 : decode b_Lv_partsIn 10 = .ok (.laload, 1) := by decide +kernel
theorem d_Lv_partsIn_11 : decode b_Lv_partsIn 11 = .ok (.lreturn, 1) := by decide +kernel
theorem d_Pt_raised_0 : decode b_Pt_raised 0 = .ok (.lconst 0, 1) := by decide +kernel
theorem d_Pt_raised_1 : decode b_Pt_raised 1 = .ok (.lstore_n 2, 1) := by decide +kernel
theorem d_Pt_raised_2 : decode b_Pt_raised 2 = .ok (.iconst 0, 1) := by decide +kernel
theorem d_Pt_raised_3 : decode b_Pt_raised 3 = .ok (.istore 4, 2) := by decide +kernel
theorem d_Pt_raised_5 : decode b_Pt_raised 5 = .ok (.iload 4, 2) := by decide +kernel
theorem d_Pt_raised_7 : decode b_Pt_raised 7 = .ok (.iconst 5, 1) := by decide +kernel
theorem d_Pt_raised_8 : decode b_Pt_raised 8 = .ok (.if_icmp .gt 35, 3) := by decide +kernel
theorem d_Pt_raised_11 : decode b_Pt_raised 11 = .ok (.lload_n 0, 1) := by decide +kernel
theorem d_Pt_raised_12 : decode b_Pt_raised 12 = .ok (.iload 4, 2) := by decide +kernel
theorem d_Pt_raised_14 : decode b_Pt_raised 14 = .ok (.invokestatic 13, 3) := by decide +kernel
theorem d_Pt_raised_17 : decode b_Pt_raised 17 = .ok (.istore 5, 2) := by decide +kernel
theorem d_Pt_raised_19 : decode b_Pt_raised 19 = .ok (.iload 5, 2) := by decide +kernel
theorem d_Pt_raised_21 : decode b_Pt_raised 21 = .ok (.iconst (-1), 1) := by decide +kernel
theorem d_Pt_raised_22 : decode b_Pt_raised 22 = .ok (.if_icmp .eq 15, 3) := by decide +kernel
theorem d_Pt_raised_25 : decode b_Pt_raised 25 = .ok (.lload_n 2, 1) := by decide +kernel
theorem d_Pt_raised_26 : decode b_Pt_raised 26 = .ok (.iload 4, 2) := by decide +kernel
theorem d_Pt_raised_28 : decode b_Pt_raised 28 = .ok (.iload 5, 2) := by decide +kernel
theorem d_Pt_raised_30 : decode b_Pt_raised 30 = .ok (.iconst 1, 1) := by decide +kernel
theorem d_Pt_raised_31 : decode b_Pt_raised 31 = .ok (.iadd, 1) := by decide +kernel
theorem d_Pt_raised_32 : decode b_Pt_raised 32 = .ok (.invokestatic 17, 3) := by decide +kernel
theorem d_Pt_raised_35 : decode b_Pt_raised 35 = .ok (.lor, 1) := by decide +kernel
theorem d_Pt_raised_36 : decode b_Pt_raised 36 = .ok (.lstore_n 2, 1) := by decide +kernel
theorem d_Pt_raised_37 : decode b_Pt_raised 37 = .ok (.iinc 4 1, 3) := by decide +kernel
theorem d_Pt_raised_40 : decode b_Pt_raised 40 = .ok (.goto (-35), 3) := by decide +kernel
theorem d_Pt_raised_43 : decode b_Pt_raised 43 = .ok (.lload_n 2, 1) := by decide +kernel
theorem d_Pt_raised_44 : decode b_Pt_raised 44 = .ok (.lreturn, 1) := by decide +kernel
theorem d_Pt_at_0 : decode b_Pt_at 0 = .ok (.lload_n 0, 1) := by decide +kernel
theorem d_Pt_at_1 : decode b_Pt_at 1 = .ok (.iload_n 2, 1) := by decide +kernel
theorem d_Pt_at_2 : decode b_Pt_at 2 = .ok (.bipush 8, 2) := by decide +kernel
theorem d_Pt_at_4 : decode b_Pt_at 4 = .ok (.imul, 1) := by decide +kernel
theorem d_Pt_at_5 : decode b_Pt_at 5 = .ok (.lushr, 1) := by decide +kernel
theorem d_Pt_at_6 : decode b_Pt_at 6 = .ok (.ldc2_w 11, 3) := by decide +kernel
theorem d_Pt_at_9 : decode b_Pt_at 9 = .ok (.land, 1) := by decide +kernel
theorem d_Pt_at_10 : decode b_Pt_at 10 = .ok (.l2i, 1) := by decide +kernel
theorem d_Pt_at_11 : decode b_Pt_at 11 = .ok (.iconst 1, 1) := by decide +kernel
theorem d_Pt_at_12 : decode b_Pt_at 12 = .ok (.isub, 1) := by decide +kernel
theorem d_Pt_at_13 : decode b_Pt_at 13 = .ok (.ireturn, 1) := by decide +kernel
theorem d_Pt_joined_0 : decode b_Pt_joined 0 = .ok (.lconst 0, 1) := by decide +kernel
theorem d_Pt_joined_1 : decode b_Pt_joined 1 = .ok (.lstore 4, 2) := by decide +kernel
theorem d_Pt_joined_3 : decode b_Pt_joined 3 = .ok (.iconst (-1), 1) := by decide +kernel
theorem d_Pt_joined_4 : decode b_Pt_joined 4 = .ok (.istore 6, 2) := by decide +kernel
theorem d_Pt_joined_6 : decode b_Pt_joined 6 = .ok (.iconst 0, 1) := by decide +kernel
theorem d_Pt_joined_7 : decode b_Pt_joined 7 = .ok (.istore 7, 2) := by decide +kernel
theorem d_Pt_joined_9 : decode b_Pt_joined 9 = .ok (.iload 7, 2) := by decide +kernel
theorem d_Pt_joined_11 : decode b_Pt_joined 11 = .ok (.iconst 5, 1) := by decide +kernel
theorem d_Pt_joined_12 : decode b_Pt_joined 12 = .ok (.if_icmp .ge 47, 3) := by decide +kernel
theorem d_Pt_joined_15 : decode b_Pt_joined 15 = .ok (.lload_n 0, 1) := by decide +kernel
theorem d_Pt_joined_16 : decode b_Pt_joined 16 = .ok (.iload 7, 2) := by decide +kernel
theorem d_Pt_joined_18 : decode b_Pt_joined 18 = .ok (.invokestatic 13, 3) := by decide +kernel
theorem d_Pt_joined_21 : decode b_Pt_joined 21 = .ok (.lload_n 2, 1) := by decide +kernel
theorem d_Pt_joined_22 : decode b_Pt_joined 22 = .ok (.iload 7, 2) := by decide +kernel
theorem d_Pt_joined_24 : decode b_Pt_joined 24 = .ok (.invokestatic 13, 3) := by decide +kernel
theorem d_Pt_joined_27 : decode b_Pt_joined 27 = .ok (.invokestatic 21, 3) := by decide +kernel
theorem d_Pt_joined_30 : decode b_Pt_joined 30 = .ok (.istore 8, 2) := by decide +kernel
theorem d_Pt_joined_32 : decode b_Pt_joined 32 = .ok (.lload 4, 2) := by decide +kernel
theorem d_Pt_joined_34 : decode b_Pt_joined 34 = .ok (.iload 7, 2) := by decide +kernel
theorem d_Pt_joined_36 : decode b_Pt_joined 36 = .ok (.iload 8, 2) := by decide +kernel
theorem d_Pt_joined_38 : decode b_Pt_joined 38 = .ok (.invokestatic 17, 3) := by decide +kernel
theorem d_Pt_joined_41 : decode b_Pt_joined 41 = .ok (.lor, 1) := by decide +kernel
theorem d_Pt_joined_42 : decode b_Pt_joined 42 = .ok (.lstore 4, 2) := by decide +kernel
theorem d_Pt_joined_44 : decode b_Pt_joined 44 = .ok (.iload 6, 2) := by decide +kernel
theorem d_Pt_joined_46 : decode b_Pt_joined 46 = .ok (.iload 8, 2) := by decide +kernel
theorem d_Pt_joined_48 : decode b_Pt_joined 48 = .ok (.invokestatic 21, 3) := by decide +kernel
theorem d_Pt_joined_51 : decode b_Pt_joined 51 = .ok (.istore 6, 2) := by decide +kernel
theorem d_Pt_joined_53 : decode b_Pt_joined 53 = .ok (.iinc 7 1, 3) := by decide +kernel
theorem d_Pt_joined_56 : decode b_Pt_joined 56 = .ok (.goto (-47), 3) := by decide +kernel
theorem d_Pt_joined_59 : decode b_Pt_joined 59 = .ok (.lload_n 0, 1) := by decide +kernel
theorem d_Pt_joined_60 : decode b_Pt_joined 60 = .ok (.iconst 5, 1) := by decide +kernel
theorem d_Pt_joined_61 : decode b_Pt_joined 61 = .ok (.invokestatic 13, 3) := by decide +kernel
theorem d_Pt_joined_64 : decode b_Pt_joined 64 = .ok (.lload_n 2, 1) := by decide +kernel
theorem d_Pt_joined_65 : decode b_Pt_joined 65 = .ok (.iconst 5, 1) := by decide +kernel
theorem d_Pt_joined_66 : decode b_Pt_joined 66 = .ok (.invokestatic 13, 3) := by decide +kernel
theorem d_Pt_joined_69 : decode b_Pt_joined 69 = .ok (.invokestatic 21, 3) := by decide +kernel
theorem d_Pt_joined_72 : decode b_Pt_joined 72 = .ok (.istore 7, 2) := by decide +kernel
theorem d_Pt_joined_74 : decode b_Pt_joined 74 = .ok (.iload 6, 2) := by decide +kernel
theorem d_Pt_joined_76 : decode b_Pt_joined 76 = .ok (.iconst (-1), 1) := by decide +kernel
theorem d_Pt_joined_77 : decode b_Pt_joined 77 = .ok (.if_icmp .eq 12, 3) := by decide +kernel
theorem d_Pt_joined_80 : decode b_Pt_joined 80 = .ok (.iload 7, 2) := by decide +kernel
theorem d_Pt_joined_82 : decode b_Pt_joined 82 = .ok (.iload 6, 2) := by decide +kernel
theorem d_Pt_joined_84 : decode b_Pt_joined 84 = .ok (.iconst 1, 1) := by decide +kernel
theorem d_Pt_joined_85 : decode b_Pt_joined 85 = .ok (.iadd, 1) := by decide +kernel
theorem d_Pt_joined_86 : decode b_Pt_joined 86 = .ok (.if_icmp .le 7, 3) := by decide +kernel
theorem d_Pt_joined_89 : decode b_Pt_joined 89 = .ok (.iconst 1, 1) := by decide +kernel
theorem d_Pt_joined_90 : decode b_Pt_joined 90 = .ok (.goto 4, 3) := by decide +kernel
theorem d_Pt_joined_93 : decode b_Pt_joined 93 = .ok (.iconst 0, 1) := by decide +kernel
theorem d_Pt_joined_94 : decode b_Pt_joined 94 = .ok (.istore 8, 2) := by decide +kernel
theorem d_Pt_joined_96 : decode b_Pt_joined 96 = .ok (.iload 8, 2) := by decide +kernel
theorem d_Pt_joined_98 : decode b_Pt_joined 98 = .ok (.ifCond .eq 15, 3) := by decide +kernel
theorem d_Pt_joined_101 : decode b_Pt_joined 101 = .ok (.lload 4, 2) := by decide +kernel
theorem d_Pt_joined_103 : decode b_Pt_joined 103 = .ok (.iconst 5, 1) := by decide +kernel
theorem d_Pt_joined_104 : decode b_Pt_joined 104 = .ok (.iload 7, 2) := by decide +kernel
theorem d_Pt_joined_106 : decode b_Pt_joined 106 = .ok (.invokestatic 17, 3) := by decide +kernel
theorem d_Pt_joined_109 : decode b_Pt_joined 109 = .ok (.lor, 1) := by decide +kernel
theorem d_Pt_joined_110 : decode b_Pt_joined 110 = .ok (.goto 5, 3) := by decide +kernel
theorem d_Pt_joined_113 : decode b_Pt_joined 113 = .ok (.lload 4, 2) := by decide +kernel
theorem d_Pt_joined_115 : decode b_Pt_joined 115 = .ok (.lreturn, 1) := by decide +kernel
theorem d_Pt_vanish_0 : decode b_Pt_vanish 0 = .ok (.lload_n 0, 1) := by decide +kernel
theorem d_Pt_vanish_1 : decode b_Pt_vanish 1 = .ok (.iconst 5, 1) := by decide +kernel
theorem d_Pt_vanish_2 : decode b_Pt_vanish 2 = .ok (.invokestatic 13, 3) := by decide +kernel
theorem d_Pt_vanish_5 : decode b_Pt_vanish 5 = .ok (.ifCond .ne 7, 3) := by decide +kernel
theorem d_Pt_vanish_8 : decode b_Pt_vanish 8 = .ok (.iconst 1, 1) := by decide +kernel
theorem d_Pt_vanish_9 : decode b_Pt_vanish 9 = .ok (.goto 4, 3) := by decide +kernel
theorem d_Pt_vanish_12 : decode b_Pt_vanish 12 = .ok (.iconst 0, 1) := by decide +kernel
theorem d_Pt_vanish_13 : decode b_Pt_vanish 13 = .ok (.ireturn, 1) := by decide +kernel
theorem d_Lv_usesParameter_0 : decode b_Lv_usesParameter 0 = .ok (.aload_n 0, 1) := by decide +kernel
theorem d_Lv_usesParameter_1 : decode b_Lv_usesParameter 1 = .ok (.getfield 24, 3) := by decide +kernel
theorem d_Lv_usesParameter_4 : decode b_Lv_usesParameter 4 = .ok (.iload_n 1, 1) := by decide +kernel
theorem d_Lv_usesParameter_5 : decode b_Lv_usesParameter 5 = .ok (.iaload, 1) := by decide +kernel
theorem d_Lv_usesParameter_6 : decode b_Lv_usesParameter 6 = .ok (.iload_n 2, 1) := by decide +kernel
theorem d_Lv_usesParameter_7 : decode b_Lv_usesParameter 7 = .ok (.ishr, 1) := by decide +kernel
theorem d_Lv_usesParameter_8 : decode b_Lv_usesParameter 8 = .ok (.iconst 1, 1) := by decide +kernel
theorem d_Lv_usesParameter_9 : decode b_Lv_usesParameter 9 = .ok (.iand, 1) := by decide +kernel
theorem d_Lv_usesParameter_10 : decode b_Lv_usesParameter 10 = .ok (.ifCond .eq 7, 3) := by decide +kernel
theorem d_Lv_usesParameter_13 : decode b_Lv_usesParameter 13 = .ok (.iconst 1, 1) := by decide +kernel
theorem d_Lv_usesParameter_14 : decode b_Lv_usesParameter 14 = .ok (.goto 4, 3) := by decide +kernel
theorem d_Lv_usesParameter_17 : decode b_Lv_usesParameter 17 = .ok (.iconst 0, 1) := by decide +kernel
theorem d_Lv_usesParameter_18 : decode b_Lv_usesParameter 18 = .ok (.ireturn, 1) := by decide +kernel
theorem d_Lv_isParameter_0 : decode b_Lv_isParameter 0 = .ok (.aload_n 0, 1) := by decide +kernel
theorem d_Lv_isParameter_1 : decode b_Lv_isParameter 1 = .ok (.getfield 9, 3) := by decide +kernel
theorem d_Lv_isParameter_4 : decode b_Lv_isParameter 4 = .ok (.iload_n 1, 1) := by decide +kernel
theorem d_Lv_isParameter_5 : decode b_Lv_isParameter 5 = .ok (.iaload, 1) := by decide +kernel
theorem d_Lv_isParameter_6 : decode b_Lv_isParameter 6 = .ok (.iconst 1, 1) := by decide +kernel
theorem d_Lv_isParameter_7 : decode b_Lv_isParameter 7 = .ok (.if_icmp .ne 17, 3) := by decide +kernel
theorem d_Lv_isParameter_10 : decode b_Lv_isParameter 10 = .ok (.aload_n 0, 1) := by decide +kernel
theorem d_Lv_isParameter_11 : decode b_Lv_isParameter 11 = .ok (.getfield 15, 3) := by decide +kernel
theorem d_Lv_isParameter_14 : decode b_Lv_isParameter 14 = .ok (.iload_n 1, 1) := by decide +kernel
theorem d_Lv_isParameter_15 : decode b_Lv_isParameter 15 = .ok (.iaload, 1) := by decide +kernel
theorem d_Lv_isParameter_16 : decode b_Lv_isParameter 16 = .ok (.iload_n 2, 1) := by decide +kernel
theorem d_Lv_isParameter_17 : decode b_Lv_isParameter 17 = .ok (.if_icmp .ne 7, 3) := by decide +kernel
theorem d_Lv_isParameter_20 : decode b_Lv_isParameter 20 = .ok (.iconst 1, 1) := by decide +kernel
theorem d_Lv_isParameter_21 : decode b_Lv_isParameter 21 = .ok (.goto 4, 3) := by decide +kernel
theorem d_Lv_isParameter_24 : decode b_Lv_isParameter 24 = .ok (.iconst 0, 1) := by decide +kernel
theorem d_Lv_isParameter_25 : decode b_Lv_isParameter 25 = .ok (.ireturn, 1) := by decide +kernel
theorem d_Lv_firstRegionAbove_0 : decode b_Lv_firstRegionAbove 0 = .ok (.iconst 0, 1) := by decide +kernel
theorem d_Lv_firstRegionAbove_1 : decode b_Lv_firstRegionAbove 1 = .ok (.istore_n 3, 1) := by decide +kernel
theorem d_Lv_firstRegionAbove_2 : decode b_Lv_firstRegionAbove 2 = .ok (.iload_n 3, 1) := by decide +kernel
theorem d_Lv_firstRegionAbove_3 : decode b_Lv_firstRegionAbove 3 = .ok (.bipush 32, 2) := by decide +kernel
theorem d_Lv_firstRegionAbove_5 : decode b_Lv_firstRegionAbove 5 = .ok (.if_icmp .ge 29, 3) := by decide +kernel
theorem d_Lv_firstRegionAbove_8 : decode b_Lv_firstRegionAbove 8 = .ok (.aload_n 0, 1) := by decide +kernel
theorem d_Lv_firstRegionAbove_9 : decode b_Lv_firstRegionAbove 9 = .ok (.iload_n 1, 1) := by decide +kernel
theorem d_Lv_firstRegionAbove_10 : decode b_Lv_firstRegionAbove 10 = .ok (.iload_n 3, 1) := by decide +kernel
theorem d_Lv_firstRegionAbove_11 : decode b_Lv_firstRegionAbove 11 = .ok (.invokevirtual 80, 3) := by decide +kernel
theorem d_Lv_firstRegionAbove_14 : decode b_Lv_firstRegionAbove 14 = .ok (.aload_n 0, 1) := by decide +kernel
theorem d_Lv_firstRegionAbove_15 : decode b_Lv_firstRegionAbove 15 = .ok (.iload_n 2, 1) := by decide +kernel
theorem d_Lv_firstRegionAbove_16 : decode b_Lv_firstRegionAbove 16 = .ok (.iload_n 3, 1) := by decide +kernel
theorem d_Lv_firstRegionAbove_17 : decode b_Lv_firstRegionAbove 17 = .ok (.invokevirtual 80, 3) := by decide +kernel
theorem d_Lv_firstRegionAbove_20 : decode b_Lv_firstRegionAbove 20 = .ok (.invokestatic 99, 3) := by decide +kernel
theorem d_Lv_firstRegionAbove_23 : decode b_Lv_firstRegionAbove 23 = .ok (.ifCond .ne 5, 3) := by decide +kernel
theorem d_Lv_firstRegionAbove_26 : decode b_Lv_firstRegionAbove 26 = .ok (.iload_n 3, 1) := by decide +kernel
theorem d_Lv_firstRegionAbove_27 : decode b_Lv_firstRegionAbove 27 = .ok (.ireturn, 1) := by decide +kernel
theorem d_Lv_firstRegionAbove_28 : decode b_Lv_firstRegionAbove 28 = .ok (.iinc 3 1, 3) := by decide +kernel
theorem d_Lv_firstRegionAbove_31 : decode b_Lv_firstRegionAbove 31 = .ok (.goto (-29), 3) := by decide +kernel
theorem d_Lv_firstRegionAbove_34 : decode b_Lv_firstRegionAbove 34 = .ok (.iconst (-1), 1) := by decide +kernel
theorem d_Lv_firstRegionAbove_35 : decode b_Lv_firstRegionAbove 35 = .ok (.ireturn, 1) := by decide +kernel
theorem d_Pt_areAtMost_0 : decode b_Pt_areAtMost 0 = .ok (.lload_n 0, 1) := by decide +kernel
theorem d_Pt_areAtMost_1 : decode b_Pt_areAtMost 1 = .ok (.lload_n 2, 1) := by decide +kernel
theorem d_Pt_areAtMost_2 : decode b_Pt_areAtMost 2 = .ok (.invokestatic 27, 3) := by decide +kernel
theorem d_Pt_areAtMost_5 : decode b_Pt_areAtMost 5 = .ok (.iconst (-1), 1) := by decide +kernel
theorem d_Pt_areAtMost_6 : decode b_Pt_areAtMost 6 = .ok (.if_icmp .ne 19, 3) := by decide +kernel
theorem d_Pt_areAtMost_9 : decode b_Pt_areAtMost 9 = .ok (.lload_n 0, 1) := by decide +kernel
theorem d_Pt_areAtMost_10 : decode b_Pt_areAtMost 10 = .ok (.iconst 5, 1) := by decide +kernel
theorem d_Pt_areAtMost_11 : decode b_Pt_areAtMost 11 = .ok (.invokestatic 13, 3) := by decide +kernel
theorem d_Pt_areAtMost_14 : decode b_Pt_areAtMost 14 = .ok (.lload_n 2, 1) := by decide +kernel
theorem d_Pt_areAtMost_15 : decode b_Pt_areAtMost 15 = .ok (.invokestatic 31, 3) := by decide +kernel
theorem d_Pt_areAtMost_18 : decode b_Pt_areAtMost 18 = .ok (.if_icmp .gt 7, 3) := by decide +kernel
theorem d_Pt_areAtMost_21 : decode b_Pt_areAtMost 21 = .ok (.iconst 1, 1) := by decide +kernel
theorem d_Pt_areAtMost_22 : decode b_Pt_areAtMost 22 = .ok (.goto 4, 3) := by decide +kernel
theorem d_Pt_areAtMost_25 : decode b_Pt_areAtMost 25 = .ok (.iconst 0, 1) := by decide +kernel
theorem d_Pt_areAtMost_26 : decode b_Pt_areAtMost 26 = .ok (.ireturn, 1) := by decide +kernel
theorem d_Pt_lastHigher_0 : decode b_Pt_lastHigher 0 = .ok (.iconst 4, 1) := by decide +kernel
theorem d_Pt_lastHigher_1 : decode b_Pt_lastHigher 1 = .ok (.istore 4, 2) := by decide +kernel
theorem d_Pt_lastHigher_3 : decode b_Pt_lastHigher 3 = .ok (.iload 4, 2) := by decide +kernel
theorem d_Pt_lastHigher_5 : decode b_Pt_lastHigher 5 = .ok (.ifCond .lt 27, 3) := by decide +kernel
theorem d_Pt_lastHigher_8 : decode b_Pt_lastHigher 8 = .ok (.lload_n 0, 1) := by decide +kernel
theorem d_Pt_lastHigher_9 : decode b_Pt_lastHigher 9 = .ok (.iload 4, 2) := by decide +kernel
theorem d_Pt_lastHigher_11 : decode b_Pt_lastHigher 11 = .ok (.invokestatic 13, 3) := by decide +kernel
theorem d_Pt_lastHigher_14 : decode b_Pt_lastHigher 14 = .ok (.lload_n 2, 1) := by decide +kernel
theorem d_Pt_lastHigher_15 : decode b_Pt_lastHigher 15 = .ok (.iload 4, 2) := by decide +kernel
theorem d_Pt_lastHigher_17 : decode b_Pt_lastHigher 17 = .ok (.invokestatic 13, 3) := by decide +kernel
theorem d_Pt_lastHigher_20 : decode b_Pt_lastHigher 20 = .ok (.if_icmp .le 6, 3) := by decide +kernel
theorem d_Pt_lastHigher_23 : decode b_Pt_lastHigher 23 = .ok (.iload 4, 2) := by decide +kernel
theorem d_Pt_lastHigher_25 : decode b_Pt_lastHigher 25 = .ok (.ireturn, 1) := by decide +kernel
theorem d_Pt_lastHigher_26 : decode b_Pt_lastHigher 26 = .ok (.iinc 4 (-1), 3) := by decide +kernel
theorem d_Pt_lastHigher_29 : decode b_Pt_lastHigher 29 = .ok (.goto (-26), 3) := by decide +kernel
theorem d_Pt_lastHigher_32 : decode b_Pt_lastHigher 32 = .ok (.iconst (-1), 1) := by decide +kernel
theorem d_Pt_lastHigher_33 : decode b_Pt_lastHigher 33 = .ok (.ireturn, 1) := by decide +kernel
theorem d_Pt_valueAtOnes_0 : decode b_Pt_valueAtOnes 0 = .ok (.lload_n 0, 1) := by decide +kernel
theorem d_Pt_valueAtOnes_1 : decode b_Pt_valueAtOnes 1 = .ok (.iconst 5, 1) := by decide +kernel
theorem d_Pt_valueAtOnes_2 : decode b_Pt_valueAtOnes 2 = .ok (.invokestatic 13, 3) := by decide +kernel
theorem d_Pt_valueAtOnes_5 : decode b_Pt_valueAtOnes 5 = .ok (.istore_n 2, 1) := by decide +kernel
theorem d_Pt_valueAtOnes_6 : decode b_Pt_valueAtOnes 6 = .ok (.iconst 0, 1) := by decide +kernel
theorem d_Pt_valueAtOnes_7 : decode b_Pt_valueAtOnes 7 = .ok (.istore_n 3, 1) := by decide +kernel
theorem d_Pt_valueAtOnes_8 : decode b_Pt_valueAtOnes 8 = .ok (.iload_n 3, 1) := by decide +kernel
theorem d_Pt_valueAtOnes_9 : decode b_Pt_valueAtOnes 9 = .ok (.iconst 5, 1) := by decide +kernel
theorem d_Pt_valueAtOnes_10 : decode b_Pt_valueAtOnes 10 = .ok (.if_icmp .ge 21, 3) := by decide +kernel
theorem d_Pt_valueAtOnes_13 : decode b_Pt_valueAtOnes 13 = .ok (.iload_n 2, 1) := by decide +kernel
theorem d_Pt_valueAtOnes_14 : decode b_Pt_valueAtOnes 14 = .ok (.lload_n 0, 1) := by decide +kernel
theorem d_Pt_valueAtOnes_15 : decode b_Pt_valueAtOnes 15 = .ok (.iload_n 3, 1) := by decide +kernel
theorem d_Pt_valueAtOnes_16 : decode b_Pt_valueAtOnes 16 = .ok (.invokestatic 13, 3) := by decide +kernel
theorem d_Pt_valueAtOnes_19 : decode b_Pt_valueAtOnes 19 = .ok (.iconst 1, 1) := by decide +kernel
theorem d_Pt_valueAtOnes_20 : decode b_Pt_valueAtOnes 20 = .ok (.iadd, 1) := by decide +kernel
theorem d_Pt_valueAtOnes_21 : decode b_Pt_valueAtOnes 21 = .ok (.invokestatic 21, 3) := by decide +kernel
theorem d_Pt_valueAtOnes_24 : decode b_Pt_valueAtOnes 24 = .ok (.istore_n 2, 1) := by decide +kernel
theorem d_Pt_valueAtOnes_25 : decode b_Pt_valueAtOnes 25 = .ok (.iinc 3 1, 3) := by decide +kernel
theorem d_Pt_valueAtOnes_28 : decode b_Pt_valueAtOnes 28 = .ok (.goto (-20), 3) := by decide +kernel
theorem d_Pt_valueAtOnes_31 : decode b_Pt_valueAtOnes 31 = .ok (.iload_n 2, 1) := by decide +kernel
theorem d_Pt_valueAtOnes_32 : decode b_Pt_valueAtOnes 32 = .ok (.ireturn, 1) := by decide +kernel
theorem d_Lv_haveSameParts_0 : decode b_Lv_haveSameParts 0 = .ok (.iconst 0, 1) := by decide +kernel
theorem d_Lv_haveSameParts_1 : decode b_Lv_haveSameParts 1 = .ok (.istore_n 3, 1) := by decide +kernel
theorem d_Lv_haveSameParts_2 : decode b_Lv_haveSameParts 2 = .ok (.iload_n 3, 1) := by decide +kernel
theorem d_Lv_haveSameParts_3 : decode b_Lv_haveSameParts 3 = .ok (.bipush 32, 2) := by decide +kernel
theorem d_Lv_haveSameParts_5 : decode b_Lv_haveSameParts 5 = .ok (.if_icmp .ge 27, 3) := by decide +kernel
theorem d_Lv_haveSameParts_8 : decode b_Lv_haveSameParts 8 = .ok (.aload_n 0, 1) := by decide +kernel
theorem d_Lv_haveSameParts_9 : decode b_Lv_haveSameParts 9 = .ok (.iload_n 1, 1) := by decide +kernel
theorem d_Lv_haveSameParts_10 : decode b_Lv_haveSameParts 10 = .ok (.iload_n 3, 1) := by decide +kernel
theorem d_Lv_haveSameParts_11 : decode b_Lv_haveSameParts 11 = .ok (.invokevirtual 80, 3) := by decide +kernel
theorem d_Lv_haveSameParts_14 : decode b_Lv_haveSameParts 14 = .ok (.aload_n 0, 1) := by decide +kernel
theorem d_Lv_haveSameParts_15 : decode b_Lv_haveSameParts 15 = .ok (.iload_n 2, 1) := by decide +kernel
theorem d_Lv_haveSameParts_16 : decode b_Lv_haveSameParts 16 = .ok (.iload_n 3, 1) := by decide +kernel
theorem d_Lv_haveSameParts_17 : decode b_Lv_haveSameParts 17 = .ok (.invokevirtual 80, 3) := by decide +kernel
theorem d_Lv_haveSameParts_20 : decode b_Lv_haveSameParts 20 = .ok (.lcmp, 1) := by decide +kernel
theorem d_Lv_haveSameParts_21 : decode b_Lv_haveSameParts 21 = .ok (.ifCond .eq 5, 3) := by decide +kernel
theorem d_Lv_haveSameParts_24 : decode b_Lv_haveSameParts 24 = .ok (.iconst 0, 1) := by decide +kernel
theorem d_Lv_haveSameParts_25 : decode b_Lv_haveSameParts 25 = .ok (.ireturn, 1) := by decide +kernel
theorem d_Lv_haveSameParts_26 : decode b_Lv_haveSameParts 26 = .ok (.iinc 3 1, 3) := by decide +kernel
theorem d_Lv_haveSameParts_29 : decode b_Lv_haveSameParts 29 = .ok (.goto (-27), 3) := by decide +kernel
theorem d_Lv_haveSameParts_32 : decode b_Lv_haveSameParts 32 = .ok (.iconst 1, 1) := by decide +kernel
theorem d_Lv_haveSameParts_33 : decode b_Lv_haveSameParts 33 = .ok (.ireturn, 1) := by decide +kernel
theorem d_Lv_leastLike_0 : decode b_Lv_leastLike 0 = .ok (.iconst 0, 1) := by decide +kernel
theorem d_Lv_leastLike_1 : decode b_Lv_leastLike 1 = .ok (.istore_n 2, 1) := by decide +kernel
theorem d_Lv_leastLike_2 : decode b_Lv_leastLike 2 = .ok (.iload_n 2, 1) := by decide +kernel
theorem d_Lv_leastLike_3 : decode b_Lv_leastLike 3 = .ok (.iload_n 1, 1) := by decide +kernel
theorem d_Lv_leastLike_4 : decode b_Lv_leastLike 4 = .ok (.if_icmp .ge 20, 3) := by decide +kernel
theorem d_Lv_leastLike_7 : decode b_Lv_leastLike 7 = .ok (.aload_n 0, 1) := by decide +kernel
theorem d_Lv_leastLike_8 : decode b_Lv_leastLike 8 = .ok (.iload_n 2, 1) := by decide +kernel
theorem d_Lv_leastLike_9 : decode b_Lv_leastLike 9 = .ok (.iload_n 1, 1) := by decide +kernel
theorem d_Lv_leastLike_10 : decode b_Lv_leastLike 10 = .ok (.invokevirtual 103, 3) := by decide +kernel
theorem d_Lv_leastLike_13 : decode b_Lv_leastLike 13 = .ok (.ifCond .eq 5, 3) := by decide +kernel
theorem d_Lv_leastLike_16 : decode b_Lv_leastLike 16 = .ok (.iload_n 2, 1) := by decide +kernel
theorem d_Lv_leastLike_17 : decode b_Lv_leastLike 17 = .ok (.ireturn, 1) := by decide +kernel
theorem d_Lv_leastLike_18 : decode b_Lv_leastLike 18 = .ok (.iinc 2 1, 3) := by decide +kernel
theorem d_Lv_leastLike_21 : decode b_Lv_leastLike 21 = .ok (.goto (-19), 3) := by decide +kernel
theorem d_Lv_leastLike_24 : decode b_Lv_leastLike 24 = .ok (.iload_n 1, 1) := by decide +kernel
theorem d_Lv_leastLike_25 : decode b_Lv_leastLike 25 = .ok (.ireturn, 1) := by decide +kernel
theorem d_Pt_pointAbove_0 : decode b_Pt_pointAbove 0 = .ok (.iload 4, 2) := by decide +kernel
theorem d_Pt_pointAbove_2 : decode b_Pt_pointAbove 2 = .ok (.invokestatic 35, 3) := by decide +kernel
theorem d_Pt_pointAbove_5 : decode b_Pt_pointAbove 5 = .ok (.lstore 5, 2) := by decide +kernel
theorem d_Pt_pointAbove_7 : decode b_Pt_pointAbove 7 = .ok (.lload_n 0, 1) := by decide +kernel
theorem d_Pt_pointAbove_8 : decode b_Pt_pointAbove 8 = .ok (.lload_n 2, 1) := by decide +kernel
theorem d_Pt_pointAbove_9 : decode b_Pt_pointAbove 9 = .ok (.invokestatic 27, 3) := by decide +kernel
theorem d_Pt_pointAbove_12 : decode b_Pt_pointAbove 12 = .ok (.istore 7, 2) := by decide +kernel
theorem d_Pt_pointAbove_14 : decode b_Pt_pointAbove 14 = .ok (.iload 7, 2) := by decide +kernel
theorem d_Pt_pointAbove_16 : decode b_Pt_pointAbove 16 = .ok (.iconst (-1), 1) := by decide +kernel
theorem d_Pt_pointAbove_17 : decode b_Pt_pointAbove 17 = .ok (.if_icmp .eq 14, 3) := by decide +kernel
theorem d_Pt_pointAbove_20 : decode b_Pt_pointAbove 20 = .ok (.lload_n 0, 1) := by decide +kernel
theorem d_Pt_pointAbove_21 : decode b_Pt_pointAbove 21 = .ok (.invokestatic 31, 3) := by decide +kernel
theorem d_Pt_pointAbove_24 : decode b_Pt_pointAbove 24 = .ok (.lload_n 2, 1) := by decide +kernel
theorem d_Pt_pointAbove_25 : decode b_Pt_pointAbove 25 = .ok (.invokestatic 31, 3) := by decide +kernel
theorem d_Pt_pointAbove_28 : decode b_Pt_pointAbove 28 = .ok (.if_icmp .le 6, 3) := by decide +kernel
theorem d_Pt_pointAbove_31 : decode b_Pt_pointAbove 31 = .ok (.lload 5, 2) := by decide +kernel
theorem d_Pt_pointAbove_33 : decode b_Pt_pointAbove 33 = .ok (.lreturn, 1) := by decide +kernel
theorem d_Pt_pointAbove_34 : decode b_Pt_pointAbove 34 = .ok (.lload_n 2, 1) := by decide +kernel
theorem d_Pt_pointAbove_35 : decode b_Pt_pointAbove 35 = .ok (.invokestatic 31, 3) := by decide +kernel
theorem d_Pt_pointAbove_38 : decode b_Pt_pointAbove 38 = .ok (.lload_n 0, 1) := by decide +kernel
theorem d_Pt_pointAbove_39 : decode b_Pt_pointAbove 39 = .ok (.iload 7, 2) := by decide +kernel
theorem d_Pt_pointAbove_41 : decode b_Pt_pointAbove 41 = .ok (.invokestatic 13, 3) := by decide +kernel
theorem d_Pt_pointAbove_44 : decode b_Pt_pointAbove 44 = .ok (.isub, 1) := by decide +kernel
theorem d_Pt_pointAbove_45 : decode b_Pt_pointAbove 45 = .ok (.iconst 1, 1) := by decide +kernel
theorem d_Pt_pointAbove_46 : decode b_Pt_pointAbove 46 = .ok (.iadd, 1) := by decide +kernel
theorem d_Pt_pointAbove_47 : decode b_Pt_pointAbove 47 = .ok (.istore 8, 2) := by decide +kernel
theorem d_Pt_pointAbove_49 : decode b_Pt_pointAbove 49 = .ok (.lload 5, 2) := by decide +kernel
theorem d_Pt_pointAbove_51 : decode b_Pt_pointAbove 51 = .ok (.iload 8, 2) := by decide +kernel
theorem d_Pt_pointAbove_53 : decode b_Pt_pointAbove 53 = .ok (.iconst 1, 1) := by decide +kernel
theorem d_Pt_pointAbove_54 : decode b_Pt_pointAbove 54 = .ok (.isub, 1) := by decide +kernel
theorem d_Pt_pointAbove_55 : decode b_Pt_pointAbove 55 = .ok (.i2l, 1) := by decide +kernel
theorem d_Pt_pointAbove_56 : decode b_Pt_pointAbove 56 = .ok (.iload 7, 2) := by decide +kernel
theorem d_Pt_pointAbove_58 : decode b_Pt_pointAbove 58 = .ok (.bipush 12, 2) := by decide +kernel
theorem d_Pt_pointAbove_60 : decode b_Pt_pointAbove 60 = .ok (.imul, 1) := by decide +kernel
theorem d_Pt_pointAbove_61 : decode b_Pt_pointAbove 61 = .ok (.lshl, 1) := by decide +kernel
theorem d_Pt_pointAbove_62 : decode b_Pt_pointAbove 62 = .ok (.ladd, 1) := by decide +kernel
theorem d_Pt_pointAbove_63 : decode b_Pt_pointAbove 63 = .ok (.lreturn, 1) := by decide +kernel
theorem d_Pt_onesOf_0 : decode b_Pt_onesOf 0 = .ok (.lconst 0, 1) := by decide +kernel
theorem d_Pt_onesOf_1 : decode b_Pt_onesOf 1 = .ok (.lstore_n 1, 1) := by decide +kernel
theorem d_Pt_onesOf_2 : decode b_Pt_onesOf 2 = .ok (.iconst 0, 1) := by decide +kernel
theorem d_Pt_onesOf_3 : decode b_Pt_onesOf 3 = .ok (.istore_n 3, 1) := by decide +kernel
theorem d_Pt_onesOf_4 : decode b_Pt_onesOf 4 = .ok (.iload_n 3, 1) := by decide +kernel
theorem d_Pt_onesOf_5 : decode b_Pt_onesOf 5 = .ok (.iconst 5, 1) := by decide +kernel
theorem d_Pt_onesOf_6 : decode b_Pt_onesOf 6 = .ok (.if_icmp .ge 23, 3) := by decide +kernel
theorem d_Pt_onesOf_9 : decode b_Pt_onesOf 9 = .ok (.lload_n 1, 1) := by decide +kernel
theorem d_Pt_onesOf_10 : decode b_Pt_onesOf 10 = .ok (.iload_n 0, 1) := by decide +kernel
theorem d_Pt_onesOf_11 : decode b_Pt_onesOf 11 = .ok (.iload_n 3, 1) := by decide +kernel
theorem d_Pt_onesOf_12 : decode b_Pt_onesOf 12 = .ok (.ishr, 1) := by decide +kernel
theorem d_Pt_onesOf_13 : decode b_Pt_onesOf 13 = .ok (.iconst 1, 1) := by decide +kernel
theorem d_Pt_onesOf_14 : decode b_Pt_onesOf 14 = .ok (.iand, 1) := by decide +kernel
theorem d_Pt_onesOf_15 : decode b_Pt_onesOf 15 = .ok (.i2l, 1) := by decide +kernel
theorem d_Pt_onesOf_16 : decode b_Pt_onesOf 16 = .ok (.iload_n 3, 1) := by decide +kernel
theorem d_Pt_onesOf_17 : decode b_Pt_onesOf 17 = .ok (.bipush 12, 2) := by decide +kernel
theorem d_Pt_onesOf_19 : decode b_Pt_onesOf 19 = .ok (.imul, 1) := by decide +kernel
theorem d_Pt_onesOf_20 : decode b_Pt_onesOf 20 = .ok (.lshl, 1) := by decide +kernel
theorem d_Pt_onesOf_21 : decode b_Pt_onesOf 21 = .ok (.lor, 1) := by decide +kernel
theorem d_Pt_onesOf_22 : decode b_Pt_onesOf 22 = .ok (.lstore_n 1, 1) := by decide +kernel
theorem d_Pt_onesOf_23 : decode b_Pt_onesOf 23 = .ok (.iinc 3 1, 3) := by decide +kernel
theorem d_Pt_onesOf_26 : decode b_Pt_onesOf 26 = .ok (.goto (-22), 3) := by decide +kernel
theorem d_Pt_onesOf_29 : decode b_Pt_onesOf 29 = .ok (.lload_n 1, 1) := by decide +kernel
theorem d_Pt_onesOf_30 : decode b_Pt_onesOf 30 = .ok (.lreturn, 1) := by decide +kernel
