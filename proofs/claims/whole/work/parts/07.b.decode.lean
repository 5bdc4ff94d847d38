theorem d_LR_init_0 : decode b_LR_init 0 = .ok (.aload_n 0, 1) := by decide +kernel
theorem d_LR_init_1 : decode b_LR_init 1 = .ok (.invokespecial 3, 3) := by decide +kernel
theorem d_LR_init_4 : decode b_LR_init 4 = .ok (.aload_n 0, 1) := by decide +kernel
theorem d_LR_init_5 : decode b_LR_init 5 = .ok (.new 9, 3) := by decide +kernel
theorem d_LR_init_8 : decode b_LR_init 8 = .ok (.dup, 1) := by decide +kernel
theorem d_LR_init_9 : decode b_LR_init 9 = .ok (.invokespecial 11, 3) := by decide +kernel
theorem d_LR_init_12 : decode b_LR_init 12 = .ok (.putfield 12, 3) := by decide +kernel
theorem d_LR_init_15 : decode b_LR_init 15 = .ok (.aload_n 0, 1) := by decide +kernel
theorem d_LR_init_16 : decode b_LR_init 16 = .ok (.new 16, 3) := by decide +kernel
theorem d_LR_init_19 : decode b_LR_init 19 = .ok (.dup, 1) := by decide +kernel
theorem d_LR_init_20 : decode b_LR_init 20 = .ok (.aload_n 0, 1) := by decide +kernel
theorem d_LR_init_21 : decode b_LR_init 21 = .ok (.getfield 12, 3) := by decide +kernel
theorem d_LR_init_24 : decode b_LR_init 24 = .ok (.invokespecial 18, 3) := by decide +kernel
theorem d_LR_init_27 : decode b_LR_init 27 = .ok (.putfield 21, 3) := by decide +kernel
theorem d_LR_init_30 : decode b_LR_init 30 = .ok (.aload_n 0, 1) := by decide +kernel
theorem d_LR_init_31 : decode b_LR_init 31 = .ok (.new 25, 3) := by decide +kernel
theorem d_LR_init_34 : decode b_LR_init 34 = .ok (.dup, 1) := by decide +kernel
theorem d_LR_init_35 : decode b_LR_init 35 = .ok (.invokespecial 27, 3) := by decide +kernel
theorem d_LR_init_38 : decode b_LR_init 38 = .ok (.putfield 28, 3) := by decide +kernel
theorem d_LR_init_41 : decode b_LR_init 41 = .ok (.return_, 1) := by decide +kernel
theorem d_Rp_init_0 : decode b_Rp_init 0 = .ok (.aload_n 0, 1) := by decide +kernel
theorem d_Rp_init_1 : decode b_Rp_init 1 = .ok (.invokespecial 3, 3) := by decide +kernel
theorem d_Rp_init_4 : decode b_Rp_init 4 = .ok (.aload_n 0, 1) := by decide +kernel
theorem d_Rp_init_5 : decode b_Rp_init 5 = .ok (.bipush 120, 2) := by decide +kernel
theorem d_Rp_init_7 : decode b_Rp_init 7 = .ok (.newarray .int, 2) := by decide +kernel
theorem d_Rp_init_9 : decode b_Rp_init 9 = .ok (.putfield 9, 3) := by decide +kernel
theorem d_Rp_init_12 : decode b_Rp_init 12 = .ok (.aload_n 0, 1) := by decide +kernel
theorem d_Rp_init_13 : decode b_Rp_init 13 = .ok (.bipush 120, 2) := by decide +kernel
theorem d_Rp_init_15 : decode b_Rp_init 15 = .ok (.newarray .int, 2) := by decide +kernel
theorem d_Rp_init_17 : decode b_Rp_init 17 = .ok (.putfield 15, 3) := by decide +kernel
theorem d_Rp_init_20 : decode b_Rp_init 20 = .ok (.aload_n 0, 1) := by decide +kernel
theorem d_Rp_init_21 : decode b_Rp_init 21 = .ok (.aload_n 1, 1) := by decide +kernel
theorem d_Rp_init_22 : decode b_Rp_init 22 = .ok (.putfield 18, 3) := by decide +kernel
theorem d_Rp_init_25 : decode b_Rp_init 25 = .ok (.return_, 1) := by decide +kernel
theorem d_Nd_init_0 : decode b_Nd_init 0 = .ok (.aload_n 0, 1) := by decide +kernel
theorem d_Nd_init_1 : decode b_Nd_init 1 = .ok (.invokespecial 3, 3) := by decide +kernel
theorem d_Nd_init_4 : decode b_Nd_init 4 = .ok (.aload_n 0, 1) := by decide +kernel
theorem d_Nd_init_5 : decode b_Nd_init 5 = .ok (.bipush 30, 2) := by decide +kernel
theorem d_Nd_init_7 : decode b_Nd_init 7 = .ok (.newarray .int, 2) := by decide +kernel
theorem d_Nd_init_9 : decode b_Nd_init 9 = .ok (.putfield 9, 3) := by decide +kernel
theorem d_Nd_init_12 : decode b_Nd_init 12 = .ok (.aload_n 0, 1) := by decide +kernel
theorem d_Nd_init_13 : decode b_Nd_init 13 = .ok (.bipush 30, 2) := by decide +kernel
theorem d_Nd_init_15 : decode b_Nd_init 15 = .ok (.newarray .int, 2) := by decide +kernel
theorem d_Nd_init_17 : decode b_Nd_init 17 = .ok (.putfield 15, 3) := by decide +kernel
theorem d_Nd_init_20 : decode b_Nd_init 20 = .ok (.aload_n 0, 1) := by decide +kernel
theorem d_Nd_init_21 : decode b_Nd_init 21 = .ok (.bipush 30, 2) := by decide +kernel
theorem d_Nd_init_23 : decode b_Nd_init 23 = .ok (.newarray .int, 2) := by decide +kernel
theorem d_Nd_init_25 : decode b_Nd_init 25 = .ok (.putfield 18, 3) := by decide +kernel
theorem d_Nd_init_28 : decode b_Nd_init 28 = .ok (.aload_n 0, 1) := by decide +kernel
theorem d_Nd_init_29 : decode b_Nd_init 29 = .ok (.bipush 30, 2) := by decide +kernel
theorem d_Nd_init_31 : decode b_Nd_init 31 = .ok (.newarray .boolean, 2) := by decide +kernel
theorem d_Nd_init_33 : decode b_Nd_init 33 = .ok (.putfield 21, 3) := by decide +kernel
theorem d_Nd_init_36 : decode b_Nd_init 36 = .ok (.aload_n 0, 1) := by decide +kernel
theorem d_Nd_init_37 : decode b_Nd_init 37 = .ok (.bipush 11, 2) := by decide +kernel
theorem d_Nd_init_39 : decode b_Nd_init 39 = .ok (.newarray .int, 2) := by decide +kernel
theorem d_Nd_init_41 : decode b_Nd_init 41 = .ok (.putfield 25, 3) := by decide +kernel
theorem d_Nd_init_44 : decode b_Nd_init 44 = .ok (.aload_n 0, 1) := by decide +kernel
theorem d_Nd_init_45 : decode b_Nd_init 45 = .ok (.iconst 0, 1) := by decide +kernel
theorem d_Nd_init_46 : decode b_Nd_init 46 = .ok (.putfield 28, 3) := by decide +kernel
theorem d_Nd_init_49 : decode b_Nd_init 49 = .ok (.aload_n 0, 1) := by decide +kernel
theorem d_Nd_init_50 : decode b_Nd_init 50 = .ok (.iconst 0, 1) := by decide +kernel
theorem d_Nd_init_51 : decode b_Nd_init 51 = .ok (.putfield 32, 3) := by decide +kernel
theorem d_Nd_init_54 : decode b_Nd_init 54 = .ok (.aload_n 0, 1) := by decide +kernel
theorem d_Nd_init_55 : decode b_Nd_init 55 = .ok (.iconst 0, 1) := by decide +kernel
theorem d_Nd_init_56 : decode b_Nd_init 56 = .ok (.putfield 35, 3) := by decide +kernel
theorem d_Nd_init_59 : decode b_Nd_init 59 = .ok (.aload_n 0, 1) := by decide +kernel
theorem d_Nd_init_60 : decode b_Nd_init 60 = .ok (.iconst 0, 1) := by decide +kernel
theorem d_Nd_init_61 : decode b_Nd_init 61 = .ok (.putfield 39, 3) := by decide +kernel
theorem d_Nd_init_64 : decode b_Nd_init 64 = .ok (.aload_n 0, 1) := by decide +kernel
theorem d_Nd_init_65 : decode b_Nd_init 65 = .ok (.iconst 0, 1) := by decide +kernel
theorem d_Nd_init_66 : decode b_Nd_init 66 = .ok (.putfield 42, 3) := by decide +kernel
theorem d_Nd_init_69 : decode b_Nd_init 69 = .ok (.return_, 1) := by decide +kernel
theorem d_LR_level_0 : decode b_LR_level 0 = .ok (.aload_n 0, 1) := by decide +kernel
theorem d_LR_level_1 : decode b_LR_level 1 = .ok (.getfield 12, 3) := by decide +kernel
theorem d_LR_level_4 : decode b_LR_level 4 = .ok (.iload_n 1, 1) := by decide +kernel
theorem d_LR_level_5 : decode b_LR_level 5 = .ok (.invokevirtual 43, 3) := by decide +kernel
theorem d_LR_level_8 : decode b_LR_level 8 = .ok (.ifCond .ne 5, 3) := by decide +kernel
theorem d_LR_level_11 : decode b_LR_level 11 = .ok (.iconst (-1), 1) := by decide +kernel
theorem d_LR_level_12 : decode b_LR_level 12 = .ok (.ireturn, 1) := by decide +kernel
theorem d_LR_level_13 : decode b_LR_level 13 = .ok (.aload_n 0, 1) := by decide +kernel
theorem d_LR_level_14 : decode b_LR_level 14 = .ok (.getfield 12, 3) := by decide +kernel
theorem d_LR_level_17 : decode b_LR_level 17 = .ok (.iload_n 1, 1) := by decide +kernel
theorem d_LR_level_18 : decode b_LR_level 18 = .ok (.iload_n 2, 1) := by decide +kernel
theorem d_LR_level_19 : decode b_LR_level 19 = .ok (.invokevirtual 47, 3) := by decide +kernel
theorem d_LR_level_22 : decode b_LR_level 22 = .ok (.ireturn, 1) := by decide +kernel
theorem d_LR_value_0 : decode b_LR_value 0 = .ok (.aload_n 0, 1) := by decide +kernel
theorem d_LR_value_1 : decode b_LR_value 1 = .ok (.getfield 12, 3) := by decide +kernel
theorem d_LR_value_4 : decode b_LR_value 4 = .ok (.iload_n 1, 1) := by decide +kernel
theorem d_LR_value_5 : decode b_LR_value 5 = .ok (.invokevirtual 43, 3) := by decide +kernel
theorem d_LR_value_8 : decode b_LR_value 8 = .ok (.ifCond .ne 5, 3) := by decide +kernel
theorem d_LR_value_11 : decode b_LR_value 11 = .ok (.iconst (-1), 1) := by decide +kernel
theorem d_LR_value_12 : decode b_LR_value 12 = .ok (.ireturn, 1) := by decide +kernel
theorem d_LR_value_13 : decode b_LR_value 13 = .ok (.aload_n 0, 1) := by decide +kernel
theorem d_LR_value_14 : decode b_LR_value 14 = .ok (.getfield 12, 3) := by decide +kernel
theorem d_LR_value_17 : decode b_LR_value 17 = .ok (.iload_n 1, 1) := by decide +kernel
theorem d_LR_value_18 : decode b_LR_value 18 = .ok (.lload_n 2, 1) := by decide +kernel
theorem d_LR_value_19 : decode b_LR_value 19 = .ok (.invokevirtual 54, 3) := by decide +kernel
theorem d_LR_value_22 : decode b_LR_value 22 = .ok (.ireturn, 1) := by decide +kernel
theorem d_LR_isSolved_0 : decode b_LR_isSolved 0 = .ok (.aload_n 0, 1) := by decide +kernel
theorem d_LR_isSolved_1 : decode b_LR_isSolved 1 = .ok (.getfield 28, 3) := by decide +kernel
theorem d_LR_isSolved_4 : decode b_LR_isSolved 4 = .ok (.invokevirtual 122, 3) := by decide +kernel
theorem d_LR_isSolved_7 : decode b_LR_isSolved 7 = .ok (.ireturn, 1) := by decide +kernel
theorem d_Nd_areSolved_0 : decode b_Nd_areSolved 0 = .ok (.aload_n 0, 1) := by decide +kernel
theorem d_Nd_areSolved_1 : decode b_Nd_areSolved 1 = .ok (.getfield 39, 3) := by decide +kernel
theorem d_Nd_areSolved_4 : decode b_Nd_areSolved 4 = .ok (.ifCond .ne 20, 3) := by decide +kernel
theorem d_Nd_areSolved_7 : decode b_Nd_areSolved 7 = .ok (.aload_n 0, 1) := by decide +kernel
theorem d_Nd_areSolved_8 : decode b_Nd_areSolved 8 = .ok (.invokevirtual 52, 3) := by decide +kernel
theorem d_Nd_areSolved_11 : decode b_Nd_areSolved 11 = .ok (.aload_n 0, 1) := by decide +kernel
theorem d_Nd_areSolved_12 : decode b_Nd_areSolved 12 = .ok (.aload_n 0, 1) := by decide +kernel
theorem d_Nd_areSolved_13 : decode b_Nd_areSolved 13 = .ok (.invokevirtual 55, 3) := by decide +kernel
theorem d_Nd_areSolved_16 : decode b_Nd_areSolved 16 = .ok (.putfield 35, 3) := by decide +kernel
theorem d_Nd_areSolved_19 : decode b_Nd_areSolved 19 = .ok (.aload_n 0, 1) := by decide +kernel
theorem d_Nd_areSolved_20 : decode b_Nd_areSolved 20 = .ok (.iconst 1, 1) := by decide +kernel
theorem d_Nd_areSolved_21 : decode b_Nd_areSolved 21 = .ok (.putfield 39, 3) := by decide +kernel
theorem d_Nd_areSolved_24 : decode b_Nd_areSolved 24 = .ok (.aload_n 0, 1) := by decide +kernel
theorem d_Nd_areSolved_25 : decode b_Nd_areSolved 25 = .ok (.getfield 35, 3) := by decide +kernel
theorem d_Nd_areSolved_28 : decode b_Nd_areSolved 28 = .ok (.ireturn, 1) := by decide +kernel
theorem d_Nd_keepAll_0 : decode b_Nd_keepAll 0 = .ok (.iconst 0, 1) := by decide +kernel
theorem d_Nd_keepAll_1 : decode b_Nd_keepAll 1 = .ok (.istore_n 1, 1) := by decide +kernel
theorem d_Nd_keepAll_2 : decode b_Nd_keepAll 2 = .ok (.iload_n 1, 1) := by decide +kernel
theorem d_Nd_keepAll_3 : decode b_Nd_keepAll 3 = .ok (.aload_n 0, 1) := by decide +kernel
theorem d_Nd_keepAll_4 : decode b_Nd_keepAll 4 = .ok (.getfield 32, 3) := by decide +kernel
theorem d_Nd_keepAll_7 : decode b_Nd_keepAll 7 = .ok (.if_icmp .ge 16, 3) := by decide +kernel
theorem d_Nd_keepAll_10 : decode b_Nd_keepAll 10 = .ok (.aload_n 0, 1) := by decide +kernel
theorem d_Nd_keepAll_11 : decode b_Nd_keepAll 11 = .ok (.getfield 21, 3) := by decide +kernel
theorem d_Nd_keepAll_14 : decode b_Nd_keepAll 14 = .ok (.iload_n 1, 1) := by decide +kernel
theorem d_Nd_keepAll_15 : decode b_Nd_keepAll 15 = .ok (.iconst 1, 1) := by decide +kernel
theorem d_Nd_keepAll_16 : decode b_Nd_keepAll 16 = .ok (.bastore, 1) := by decide +kernel
theorem d_Nd_keepAll_17 : decode b_Nd_keepAll 17 = .ok (.iinc 1 1, 3) := by decide +kernel
theorem d_Nd_keepAll_20 : decode b_Nd_keepAll 20 = .ok (.goto (-18), 3) := by decide +kernel
theorem d_Nd_keepAll_23 : decode b_Nd_keepAll 23 = .ok (.return_, 1) := by decide +kernel
theorem d_Nd_canKeptBeSolved_0 : decode b_Nd_canKeptBeSolved 0 = .ok (.aload_n 0, 1) := by decide +kernel
theorem d_Nd_canKeptBeSolved_1 : decode b_Nd_canKeptBeSolved 1 = .ok (.getfield 25, 3) := by decide +kernel
theorem d_Nd_canKeptBeSolved_4 : decode b_Nd_canKeptBeSolved 4 = .ok (.iconst 0, 1) := by decide +kernel
theorem d_Nd_canKeptBeSolved_5 : decode b_Nd_canKeptBeSolved 5 = .ok (.invokestatic 65, 3) := by decide +kernel
theorem d_Nd_canKeptBeSolved_8 : decode b_Nd_canKeptBeSolved 8 = .ok (.iconst 0, 1) := by decide +kernel
theorem d_Nd_canKeptBeSolved_9 : decode b_Nd_canKeptBeSolved 9 = .ok (.istore_n 1, 1) := by decide +kernel
theorem d_Nd_canKeptBeSolved_10 : decode b_Nd_canKeptBeSolved 10 = .ok (.iload_n 1, 1) := by decide +kernel
theorem d_Nd_canKeptBeSolved_11 : decode b_Nd_canKeptBeSolved 11 = .ok (.bipush 11, 2) := by decide +kernel
theorem d_Nd_canKeptBeSolved_13 : decode b_Nd_canKeptBeSolved 13 = .ok (.if_icmp .gt 30, 3) := by decide +kernel
theorem d_Nd_canKeptBeSolved_16 : decode b_Nd_canKeptBeSolved 16 = .ok (.aload_n 0, 1) := by decide +kernel
theorem d_Nd_canKeptBeSolved_17 : decode b_Nd_canKeptBeSolved 17 = .ok (.invokevirtual 71, 3) := by decide +kernel
theorem d_Nd_canKeptBeSolved_20 : decode b_Nd_canKeptBeSolved 20 = .ok (.ifCond .ne 5, 3) := by decide +kernel
theorem d_Nd_canKeptBeSolved_23 : decode b_Nd_canKeptBeSolved 23 = .ok (.iconst 1, 1) := by decide +kernel
theorem d_Nd_canKeptBeSolved_24 : decode b_Nd_canKeptBeSolved 24 = .ok (.ireturn, 1) := by decide +kernel
theorem d_Nd_canKeptBeSolved_25 : decode b_Nd_canKeptBeSolved 25 = .ok (.aload_n 0, 1) := by decide +kernel
theorem d_Nd_canKeptBeSolved_26 : decode b_Nd_canKeptBeSolved 26 = .ok (.getfield 25, 3) := by decide +kernel
theorem d_Nd_canKeptBeSolved_29 : decode b_Nd_canKeptBeSolved 29 = .ok (.bipush 10, 2) := by decide +kernel
theorem d_Nd_canKeptBeSolved_31 : decode b_Nd_canKeptBeSolved 31 = .ok (.iaload, 1) := by decide +kernel
theorem d_Nd_canKeptBeSolved_32 : decode b_Nd_canKeptBeSolved 32 = .ok (.ifCond .le 5, 3) := by decide +kernel
theorem d_Nd_canKeptBeSolved_35 : decode b_Nd_canKeptBeSolved 35 = .ok (.iconst 0, 1) := by decide +kernel
theorem d_Nd_canKeptBeSolved_36 : decode b_Nd_canKeptBeSolved 36 = .ok (.ireturn, 1) := by decide +kernel
theorem d_Nd_canKeptBeSolved_37 : decode b_Nd_canKeptBeSolved 37 = .ok (.iinc 1 1, 3) := by decide +kernel
theorem d_Nd_canKeptBeSolved_40 : decode b_Nd_canKeptBeSolved 40 = .ok (.goto (-30), 3) := by decide +kernel
theorem d_Nd_canKeptBeSolved_43 : decode b_Nd_canKeptBeSolved 43 = .ok (.iconst 0, 1) := by decide +kernel
theorem d_Nd_canKeptBeSolved_44 : decode b_Nd_canKeptBeSolved 44 = .ok (.ireturn, 1) := by decide +kernel
theorem d_Nd_raiseNumbers_0 : decode b_Nd_raiseNumbers 0 = .ok (.iconst 0, 1) := by decide +kernel
theorem d_Nd_raiseNumbers_1 : decode b_Nd_raiseNumbers 1 = .ok (.istore_n 1, 1) := by decide +kernel
theorem d_Nd_raiseNumbers_2 : decode b_Nd_raiseNumbers 2 = .ok (.iconst 0, 1) := by decide +kernel
theorem d_Nd_raiseNumbers_3 : decode b_Nd_raiseNumbers 3 = .ok (.istore_n 2, 1) := by decide +kernel
theorem d_Nd_raiseNumbers_4 : decode b_Nd_raiseNumbers 4 = .ok (.iload_n 2, 1) := by decide +kernel
theorem d_Nd_raiseNumbers_5 : decode b_Nd_raiseNumbers 5 = .ok (.aload_n 0, 1) := by decide +kernel
theorem d_Nd_raiseNumbers_6 : decode b_Nd_raiseNumbers 6 = .ok (.getfield 32, 3) := by decide +kernel
theorem d_Nd_raiseNumbers_9 : decode b_Nd_raiseNumbers 9 = .ok (.if_icmp .ge 66, 3) := by decide +kernel
theorem d_Nd_raiseNumbers_12 : decode b_Nd_raiseNumbers 12 = .ok (.aload_n 0, 1) := by decide +kernel
theorem d_Nd_raiseNumbers_13 : decode b_Nd_raiseNumbers 13 = .ok (.getfield 25, 3) := by decide +kernel
theorem d_Nd_raiseNumbers_16 : decode b_Nd_raiseNumbers 16 = .ok (.aload_n 0, 1) := by decide +kernel
theorem d_Nd_raiseNumbers_17 : decode b_Nd_raiseNumbers 17 = .ok (.getfield 9, 3) := by decide +kernel
theorem d_Nd_raiseNumbers_20 : decode b_Nd_raiseNumbers 20 = .ok (.iload_n 2, 1) := by decide +kernel
theorem d_Nd_raiseNumbers_21 : decode b_Nd_raiseNumbers 21 = .ok (.iaload, 1) := by decide +kernel
theorem d_Nd_raiseNumbers_22 : decode b_Nd_raiseNumbers 22 = .ok (.iaload, 1) := by decide +kernel
theorem d_Nd_raiseNumbers_23 : decode b_Nd_raiseNumbers 23 = .ok (.aload_n 0, 1) := by decide +kernel
theorem d_Nd_raiseNumbers_24 : decode b_Nd_raiseNumbers 24 = .ok (.getfield 15, 3) := by decide +kernel
theorem d_Nd_raiseNumbers_27 : decode b_Nd_raiseNumbers 27 = .ok (.iload_n 2, 1) := by decide +kernel
theorem d_Nd_raiseNumbers_28 : decode b_Nd_raiseNumbers 28 = .ok (.iaload, 1) := by decide +kernel
theorem d_Nd_raiseNumbers_29 : decode b_Nd_raiseNumbers 29 = .ok (.iadd, 1) := by decide +kernel
theorem d_Nd_raiseNumbers_30 : decode b_Nd_raiseNumbers 30 = .ok (.istore_n 3, 1) := by decide +kernel
theorem d_Nd_raiseNumbers_31 : decode b_Nd_raiseNumbers 31 = .ok (.aload_n 0, 1) := by decide +kernel
theorem d_Nd_raiseNumbers_32 : decode b_Nd_raiseNumbers 32 = .ok (.getfield 21, 3) := by decide +kernel
theorem d_Nd_raiseNumbers_35 : decode b_Nd_raiseNumbers 35 = .ok (.iload_n 2, 1) := by decide +kernel
theorem d_Nd_raiseNumbers_36 : decode b_Nd_raiseNumbers 36 = .ok (.baload, 1) := by decide +kernel
theorem d_Nd_raiseNumbers_37 : decode b_Nd_raiseNumbers 37 = .ok (.ifCond .eq 32, 3) := by decide +kernel
theorem d_Nd_raiseNumbers_40 : decode b_Nd_raiseNumbers 40 = .ok (.iload_n 3, 1) := by decide +kernel
theorem d_Nd_raiseNumbers_41 : decode b_Nd_raiseNumbers 41 = .ok (.aload_n 0, 1) := by decide +kernel
theorem d_Nd_raiseNumbers_42 : decode b_Nd_raiseNumbers 42 = .ok (.getfield 25, 3) := by decide +kernel
theorem d_Nd_raiseNumbers_45 : decode b_Nd_raiseNumbers 45 = .ok (.aload_n 0, 1) := by decide +kernel
theorem d_Nd_raiseNumbers_46 : decode b_Nd_raiseNumbers 46 = .ok (.getfield 18, 3) := by decide +kernel
theorem d_Nd_raiseNumbers_49 : decode b_Nd_raiseNumbers 49 = .ok (.iload_n 2, 1) := by decide +kernel
theorem d_Nd_raiseNumbers_50 : decode b_Nd_raiseNumbers 50 = .ok (.iaload, 1) := by decide +kernel
theorem d_Nd_raiseNumbers_51 : decode b_Nd_raiseNumbers 51 = .ok (.iaload, 1) := by decide +kernel
theorem d_Nd_raiseNumbers_52 : decode b_Nd_raiseNumbers 52 = .ok (.if_icmp .le 17, 3) := by decide +kernel
theorem d_Nd_raiseNumbers_55 : decode b_Nd_raiseNumbers 55 = .ok (.aload_n 0, 1) := by decide +kernel
theorem d_Nd_raiseNumbers_56 : decode b_Nd_raiseNumbers 56 = .ok (.getfield 25, 3) := by decide +kernel
theorem d_Nd_raiseNumbers_59 : decode b_Nd_raiseNumbers 59 = .ok (.aload_n 0, 1) := by decide +kernel
theorem d_Nd_raiseNumbers_60 : decode b_Nd_raiseNumbers 60 = .ok (.getfield 18, 3) := by decide +kernel
theorem d_Nd_raiseNumbers_63 : decode b_Nd_raiseNumbers 63 = .ok (.iload_n 2, 1) := by decide +kernel
theorem d_Nd_raiseNumbers_64 : decode b_Nd_raiseNumbers 64 = .ok (.iaload, 1) := by decide +kernel
theorem d_Nd_raiseNumbers_65 : decode b_Nd_raiseNumbers 65 = .ok (.iload_n 3, 1) := by decide +kernel
theorem d_Nd_raiseNumbers_66 : decode b_Nd_raiseNumbers 66 = .ok (.iastore, 1) := by decide +kernel
theorem d_Nd_raiseNumbers_67 : decode b_Nd_raiseNumbers 67 = .ok (.iconst 1, 1) := by decide +kernel
theorem d_Nd_raiseNumbers_68 : decode b_Nd_raiseNumbers 68 = .ok (.istore_n 1, 1) := by decide +kernel
theorem d_Nd_raiseNumbers_69 : decode b_Nd_raiseNumbers 69 = .ok (.iinc 2 1, 3) := by decide +kernel
theorem d_Nd_raiseNumbers_72 : decode b_Nd_raiseNumbers 72 = .ok (.goto (-68), 3) := by decide +kernel
theorem d_Nd_raiseNumbers_75 : decode b_Nd_raiseNumbers 75 = .ok (.iload_n 1, 1) := by decide +kernel
theorem d_Nd_raiseNumbers_76 : decode b_Nd_raiseNumbers 76 = .ok (.ireturn, 1) := by decide +kernel
theorem d_LR_solution_0 : decode b_LR_solution 0 = .ok (.aload_n 0, 1) := by decide +kernel
theorem d_LR_solution_1 : decode b_LR_solution 1 = .ok (.getfield 28, 3) := by decide +kernel
theorem d_LR_solution_4 : decode b_LR_solution 4 = .ok (.iload_n 1, 1) := by decide +kernel
theorem d_LR_solution_5 : decode b_LR_solution 5 = .ok (.invokevirtual 126, 3) := by decide +kernel
theorem d_LR_solution_8 : decode b_LR_solution 8 = .ok (.ireturn, 1) := by decide +kernel
theorem d_Nd_leastNumber_0 : decode b_Nd_leastNumber 0 = .ok (.aload_n 0, 1) := by decide +kernel
theorem d_Nd_leastNumber_1 : decode b_Nd_leastNumber 1 = .ok (.iload_n 1, 1) := by decide +kernel
theorem d_Nd_leastNumber_2 : decode b_Nd_leastNumber 2 = .ok (.invokevirtual 45, 3) := by decide +kernel
theorem d_Nd_leastNumber_5 : decode b_Nd_leastNumber 5 = .ok (.ifCond .eq 19, 3) := by decide +kernel
theorem d_Nd_leastNumber_8 : decode b_Nd_leastNumber 8 = .ok (.aload_n 0, 1) := by decide +kernel
theorem d_Nd_leastNumber_9 : decode b_Nd_leastNumber 9 = .ok (.invokevirtual 59, 3) := by decide +kernel
theorem d_Nd_leastNumber_12 : decode b_Nd_leastNumber 12 = .ok (.ifCond .eq 12, 3) := by decide +kernel
theorem d_Nd_leastNumber_15 : decode b_Nd_leastNumber 15 = .ok (.aload_n 0, 1) := by decide +kernel
theorem d_Nd_leastNumber_16 : decode b_Nd_leastNumber 16 = .ok (.getfield 25, 3) := by decide +kernel
theorem d_Nd_leastNumber_19 : decode b_Nd_leastNumber 19 = .ok (.iload_n 1, 1) := by decide +kernel
theorem d_Nd_leastNumber_20 : decode b_Nd_leastNumber 20 = .ok (.iaload, 1) := by decide +kernel
theorem d_Nd_leastNumber_21 : decode b_Nd_leastNumber 21 = .ok (.goto 4, 3) := by decide +kernel
theorem d_Nd_leastNumber_24 : decode b_Nd_leastNumber 24 = .ok (.iconst (-1), 1) := by decide +kernel
theorem d_Nd_leastNumber_25 : decode b_Nd_leastNumber 25 = .ok (.ireturn, 1) := by decide +kernel
theorem d_Nd_isUnknown_0 : decode b_Nd_isUnknown 0 = .ok (.iload_n 1, 1) := by decide +kernel
theorem d_Nd_isUnknown_1 : decode b_Nd_isUnknown 1 = .ok (.ifCond .lt 15, 3) := by decide +kernel
theorem d_Nd_isUnknown_4 : decode b_Nd_isUnknown 4 = .ok (.iload_n 1, 1) := by decide +kernel
theorem d_Nd_isUnknown_5 : decode b_Nd_isUnknown 5 = .ok (.aload_n 0, 1) := by decide +kernel
theorem d_Nd_isUnknown_6 : decode b_Nd_isUnknown 6 = .ok (.getfield 28, 3) := by decide +kernel
theorem d_Nd_isUnknown_9 : decode b_Nd_isUnknown 9 = .ok (.if_icmp .ge 7, 3) := by decide +kernel
theorem d_Nd_isUnknown_12 : decode b_Nd_isUnknown 12 = .ok (.iconst 1, 1) := by decide +kernel
theorem d_Nd_isUnknown_13 : decode b_Nd_isUnknown 13 = .ok (.goto 4, 3) := by decide +kernel
theorem d_Nd_isUnknown_16 : decode b_Nd_isUnknown 16 = .ok (.iconst 0, 1) := by decide +kernel
theorem d_Nd_isUnknown_17 : decode b_Nd_isUnknown 17 = .ok (.ireturn, 1) := by decide +kernel
theorem d_LR_isClash_0 : decode b_LR_isClash 0 = .ok (.aload_n 0, 1) := by decide +kernel
theorem d_LR_isClash_1 : decode b_LR_isClash 1 = .ok (.getfield 28, 3) := by decide +kernel
theorem d_LR_isClash_4 : decode b_LR_isClash 4 = .ok (.iload_n 1, 1) := by decide +kernel
theorem d_LR_isClash_5 : decode b_LR_isClash 5 = .ok (.invokevirtual 129, 3) := by decide +kernel
theorem d_LR_isClash_8 : decode b_LR_isClash 8 = .ok (.ireturn, 1) := by decide +kernel
theorem d_Nd_isInClash_0 : decode b_Nd_isInClash 0 = .ok (.iload_n 1, 1) := by decide +kernel
theorem d_Nd_isInClash_1 : decode b_Nd_isInClash 1 = .ok (.ifCond .lt 18, 3) := by decide +kernel
theorem d_Nd_isInClash_4 : decode b_Nd_isInClash 4 = .ok (.iload_n 1, 1) := by decide +kernel
theorem d_Nd_isInClash_5 : decode b_Nd_isInClash 5 = .ok (.aload_n 0, 1) := by decide +kernel
theorem d_Nd_isInClash_6 : decode b_Nd_isInClash 6 = .ok (.getfield 32, 3) := by decide +kernel
theorem d_Nd_isInClash_9 : decode b_Nd_isInClash 9 = .ok (.if_icmp .ge 10, 3) := by decide +kernel
theorem d_Nd_isInClash_12 : decode b_Nd_isInClash 12 = .ok (.aload_n 0, 1) := by decide +kernel
theorem d_Nd_isInClash_13 : decode b_Nd_isInClash 13 = .ok (.invokevirtual 59, 3) := by decide +kernel
theorem d_Nd_isInClash_16 : decode b_Nd_isInClash 16 = .ok (.ifCond .eq 5, 3) := by decide +kernel
theorem d_Nd_isInClash_19 : decode b_Nd_isInClash 19 = .ok (.iconst 0, 1) := by decide +kernel
theorem d_Nd_isInClash_20 : decode b_Nd_isInClash 20 = .ok (.ireturn, 1) := by decide +kernel
theorem d_Nd_isInClash_21 : decode b_Nd_isInClash 21 = .ok (.aload_n 0, 1) := by decide +kernel
theorem d_Nd_isInClash_22 : decode b_Nd_isInClash 22 = .ok (.getfield 42, 3) := by decide +kernel
theorem d_Nd_isInClash_25 : decode b_Nd_isInClash 25 = .ok (.ifCond .ne 12, 3) := by decide +kernel
theorem d_Nd_isInClash_28 : decode b_Nd_isInClash 28 = .ok (.aload_n 0, 1) := by decide +kernel
theorem d_Nd_isInClash_29 : decode b_Nd_isInClash 29 = .ok (.invokevirtual 62, 3) := by decide +kernel
theorem d_Nd_isInClash_32 : decode b_Nd_isInClash 32 = .ok (.aload_n 0, 1) := by decide +kernel
theorem d_Nd_isInClash_33 : decode b_Nd_isInClash 33 = .ok (.iconst 1, 1) := by decide +kernel
theorem d_Nd_isInClash_34 : decode b_Nd_isInClash 34 = .ok (.putfield 42, 3) := by decide +kernel
theorem d_Nd_isInClash_37 : decode b_Nd_isInClash 37 = .ok (.aload_n 0, 1) := by decide +kernel
theorem d_Nd_isInClash_38 : decode b_Nd_isInClash 38 = .ok (.getfield 21, 3) := by decide +kernel
theorem d_Nd_isInClash_41 : decode b_Nd_isInClash 41 = .ok (.iload_n 1, 1) := by decide +kernel
theorem d_Nd_isInClash_42 : decode b_Nd_isInClash 42 = .ok (.baload, 1) := by decide +kernel
theorem d_Nd_isInClash_43 : decode b_Nd_isInClash 43 = .ok (.ireturn, 1) := by decide +kernel
theorem d_Nd_keepClashOnly_0 : decode b_Nd_keepClashOnly 0 = .ok (.aload_n 0, 1) := by decide +kernel
theorem d_Nd_keepClashOnly_1 : decode b_Nd_keepClashOnly 1 = .ok (.getfield 32, 3) := by decide +kernel
theorem d_Nd_keepClashOnly_4 : decode b_Nd_keepClashOnly 4 = .ok (.iconst 1, 1) := by decide +kernel
theorem d_Nd_keepClashOnly_5 : decode b_Nd_keepClashOnly 5 = .ok (.isub, 1) := by decide +kernel
theorem d_Nd_keepClashOnly_6 : decode b_Nd_keepClashOnly 6 = .ok (.istore_n 1, 1) := by decide +kernel
theorem d_Nd_keepClashOnly_7 : decode b_Nd_keepClashOnly 7 = .ok (.iload_n 1, 1) := by decide +kernel
theorem d_Nd_keepClashOnly_8 : decode b_Nd_keepClashOnly 8 = .ok (.ifCond .lt 26, 3) := by decide +kernel
theorem d_Nd_keepClashOnly_11 : decode b_Nd_keepClashOnly 11 = .ok (.aload_n 0, 1) := by decide +kernel
theorem d_Nd_keepClashOnly_12 : decode b_Nd_keepClashOnly 12 = .ok (.getfield 21, 3) := by decide +kernel
theorem d_Nd_keepClashOnly_15 : decode b_Nd_keepClashOnly 15 = .ok (.iload_n 1, 1) := by decide +kernel
theorem d_Nd_keepClashOnly_16 : decode b_Nd_keepClashOnly 16 = .ok (.iconst 0, 1) := by decide +kernel
theorem d_Nd_keepClashOnly_17 : decode b_Nd_keepClashOnly 17 = .ok (.bastore, 1) := by decide +kernel
theorem d_Nd_keepClashOnly_18 : decode b_Nd_keepClashOnly 18 = .ok (.aload_n 0, 1) := by decide +kernel
theorem d_Nd_keepClashOnly_19 : decode b_Nd_keepClashOnly 19 = .ok (.getfield 21, 3) := by decide +kernel
theorem d_Nd_keepClashOnly_22 : decode b_Nd_keepClashOnly 22 = .ok (.iload_n 1, 1) := by decide +kernel
theorem d_Nd_keepClashOnly_23 : decode b_Nd_keepClashOnly 23 = .ok (.aload_n 0, 1) := by decide +kernel
theorem d_Nd_keepClashOnly_24 : decode b_Nd_keepClashOnly 24 = .ok (.invokevirtual 55, 3) := by decide +kernel
theorem d_Nd_keepClashOnly_27 : decode b_Nd_keepClashOnly 27 = .ok (.bastore, 1) := by decide +kernel
theorem d_Nd_keepClashOnly_28 : decode b_Nd_keepClashOnly 28 = .ok (.iinc 1 (-1), 3) := by decide +kernel
theorem d_Nd_keepClashOnly_31 : decode b_Nd_keepClashOnly 31 = .ok (.goto (-24), 3) := by decide +kernel
theorem d_Nd_keepClashOnly_34 : decode b_Nd_keepClashOnly 34 = .ok (.return_, 1) := by decide +kernel
theorem d_LR_undo_0 : decode b_LR_undo 0 = .ok (.aload_n 0, 1) := by decide +kernel
theorem d_LR_undo_1 : decode b_LR_undo 1 = .ok (.getfield 28, 3) := by decide +kernel
theorem d_LR_undo_4 : decode b_LR_undo 4 = .ok (.invokevirtual 132, 3) := by decide +kernel
theorem d_LR_undo_7 : decode b_LR_undo 7 = .ok (.ireturn, 1) := by decide +kernel
theorem d_Nd_removeLatest_0 : decode b_Nd_removeLatest 0 = .ok (.aload_n 0, 1) := by decide +kernel
theorem d_Nd_removeLatest_1 : decode b_Nd_removeLatest 1 = .ok (.getfield 32, 3) := by decide +kernel
theorem d_Nd_removeLatest_4 : decode b_Nd_removeLatest 4 = .ok (.ifCond .ne 5, 3) := by decide +kernel
theorem d_Nd_removeLatest_7 : decode b_Nd_removeLatest 7 = .ok (.iconst 0, 1) := by decide +kernel
theorem d_Nd_removeLatest_8 : decode b_Nd_removeLatest 8 = .ok (.ireturn, 1) := by decide +kernel
theorem d_Nd_removeLatest_9 : decode b_Nd_removeLatest 9 = .ok (.aload_n 0, 1) := by decide +kernel
theorem d_Nd_removeLatest_10 : decode b_Nd_removeLatest 10 = .ok (.dup, 1) := by decide +kernel
theorem d_Nd_removeLatest_11 : decode b_Nd_removeLatest 11 = .ok (.getfield 32, 3) := by decide +kernel
theorem d_Nd_removeLatest_14 : decode b_Nd_removeLatest 14 = .ok (.iconst 1, 1) := by decide +kernel
theorem d_Nd_removeLatest_15 : decode b_Nd_removeLatest 15 = .ok (.isub, 1) := by decide +kernel
theorem d_Nd_removeLatest_16 : decode b_Nd_removeLatest 16 = .ok (.putfield 32, 3) := by decide +kernel
theorem d_Nd_removeLatest_19 : decode b_Nd_removeLatest 19 = .ok (.aload_n 0, 1) := by decide +kernel
theorem d_Nd_removeLatest_20 : decode b_Nd_removeLatest 20 = .ok (.invokevirtual 49, 3) := by decide +kernel
theorem d_Nd_removeLatest_23 : decode b_Nd_removeLatest 23 = .ok (.iconst 1, 1) := by decide +kernel
theorem d_Nd_removeLatest_24 : decode b_Nd_removeLatest 24 = .ok (.ireturn, 1) := by decide +kernel
theorem d_Nd_forget_0 : decode b_Nd_forget 0 = .ok (.aload_n 0, 1) := by decide +kernel
theorem d_Nd_forget_1 : decode b_Nd_forget 1 = .ok (.iconst 0, 1) := by decide +kernel
theorem d_Nd_forget_2 : decode b_Nd_forget 2 = .ok (.putfield 39, 3) := by decide +kernel
theorem d_Nd_forget_5 : decode b_Nd_forget 5 = .ok (.aload_n 0, 1) := by decide +kernel
theorem d_Nd_forget_6 : decode b_Nd_forget 6 = .ok (.iconst 0, 1) := by decide +kernel
theorem d_Nd_forget_7 : decode b_Nd_forget 7 = .ok (.putfield 42, 3) := by decide +kernel
theorem d_Nd_forget_10 : decode b_Nd_forget 10 = .ok (.return_, 1) := by decide +kernel
theorem d_LR_about_0 : decode b_LR_about 0 = .ok (.iload_n 1, 1) := by decide +kernel
theorem d_LR_about_1 : decode b_LR_about 1 = .ok (.tableswitch 51 0 2 #[27, 35, 43], 27) := by decide +kernel
theorem d_LR_about_28 : decode b_LR_about 28 = .ok (.aload_n 0, 1) := by decide +kernel
theorem d_LR_about_29 : decode b_LR_about 29 = .ok (.getfield 12, 3) := by decide +kernel
theorem d_LR_about_32 : decode b_LR_about 32 = .ok (.invokevirtual 135, 3) := by decide +kernel
theorem d_LR_about_35 : decode b_LR_about 35 = .ok (.ireturn, 1) := by decide +kernel
theorem d_LR_about_36 : decode b_LR_about 36 = .ok (.aload_n 0, 1) := by decide +kernel
theorem d_LR_about_37 : decode b_LR_about 37 = .ok (.getfield 28, 3) := by decide +kernel
theorem d_LR_about_40 : decode b_LR_about 40 = .ok (.invokevirtual 92, 3) := by decide +kernel
theorem d_LR_about_43 : decode b_LR_about 43 = .ok (.ireturn, 1) := by decide +kernel
theorem d_LR_about_44 : decode b_LR_about 44 = .ok (.aload_n 0, 1) := by decide +kernel
theorem d_LR_about_45 : decode b_LR_about 45 = .ok (.getfield 28, 3) := by decide +kernel
theorem d_LR_about_48 : decode b_LR_about 48 = .ok (.invokevirtual 114, 3) := by decide +kernel
theorem d_LR_about_51 : decode b_LR_about 51 = .ok (.ireturn, 1) := by decide +kernel
theorem d_LR_about_52 : decode b_LR_about 52 = .ok (.iconst (-1), 1) := by decide +kernel
theorem d_LR_about_53 : decode b_LR_about 53 = .ok (.ireturn, 1) := by decide +kernel
theorem d_Nd_unknowns_0 : decode b_Nd_unknowns 0 = .ok (.aload_n 0, 1) := by decide +kernel
theorem d_Nd_unknowns_1 : decode b_Nd_unknowns 1 = .ok (.getfield 28, 3) := by decide +kernel
theorem d_Nd_unknowns_4 : decode b_Nd_unknowns 4 = .ok (.ireturn, 1) := by decide +kernel
theorem d_Nd_size_0 : decode b_Nd_size 0 = .ok (.aload_n 0, 1) := by decide +kernel
theorem d_Nd_size_1 : decode b_Nd_size 1 = .ok (.getfield 32, 3) := by decide +kernel
theorem d_Nd_size_4 : decode b_Nd_size 4 = .ok (.ireturn, 1) := by decide +kernel
theorem d_LR_zero_0 : decode b_LR_zero 0 = .ok (.aload_n 0, 1) := by decide +kernel
theorem d_LR_zero_1 : decode b_LR_zero 1 = .ok (.getfield 12, 3) := by decide +kernel
theorem d_LR_zero_4 : decode b_LR_zero 4 = .ok (.iconst 0, 1) := by decide +kernel
theorem d_LR_zero_5 : decode b_LR_zero 5 = .ok (.iconst (-1), 1) := by decide +kernel
theorem d_LR_zero_6 : decode b_LR_zero 6 = .ok (.iconst (-1), 1) := by decide +kernel
theorem d_LR_zero_7 : decode b_LR_zero 7 = .ok (.invokevirtual 32, 3) := by decide +kernel
theorem d_LR_zero_10 : decode b_LR_zero 10 = .ok (.ireturn, 1) := by decide +kernel
theorem d_LR_parameter_0 : decode b_LR_parameter 0 = .ok (.iload_n 1, 1) := by decide +kernel
theorem d_LR_parameter_1 : decode b_LR_parameter 1 = .ok (.invokestatic 36, 3) := by decide +kernel
theorem d_LR_parameter_4 : decode b_LR_parameter 4 = .ok (.aload_n 0, 1) := by decide +kernel
theorem d_LR_parameter_5 : decode b_LR_parameter 5 = .ok (.getfield 12, 3) := by decide +kernel
theorem d_LR_parameter_8 : decode b_LR_parameter 8 = .ok (.iconst 1, 1) := by decide +kernel
theorem d_LR_parameter_9 : decode b_LR_parameter 9 = .ok (.iload_n 1, 1) := by decide +kernel
theorem d_LR_parameter_10 : decode b_LR_parameter 10 = .ok (.iconst (-1), 1) := by decide +kernel
theorem d_LR_parameter_11 : decode b_LR_parameter 11 = .ok (.invokevirtual 32, 3) := by decide +kernel
theorem d_LR_parameter_14 : decode b_LR_parameter 14 = .ok (.ireturn, 1) := by decide +kernel
theorem d_LR_checkParameter_0 : decode b_LR_checkParameter 0 = .ok (.iload_n 0, 1) := by decide +kernel
theorem d_LR_checkParameter_1 : decode b_LR_checkParameter 1 = .ok (.ifCond .lt 8, 3) := by decide +kernel
theorem d_LR_checkParameter_4 : decode b_LR_checkParameter 4 = .ok (.iload_n 0, 1) := by decide +kernel
theorem d_LR_checkParameter_5 : decode b_LR_checkParameter 5 = .ok (.iconst 5, 1) := by decide +kernel
theorem d_LR_checkParameter_6 : decode b_LR_checkParameter 6 = .ok (.if_icmp .lt 13, 3) := by decide +kernel
theorem d_LR_checkParameter_9 : decode b_LR_checkParameter 9 = .ok (.new 58, 3) := by decide +kernel
theorem d_LR_checkParameter_12 : decode b_LR_checkParameter 12 = .ok (.dup, 1) := by decide +kernel
theorem d_LR_checkParameter_13 : decode b_LR_checkParameter 13 = .ok (.ldc 138, 2) := by decide +kernel
theorem d_LR_checkParameter_15 : decode b_LR_checkParameter 15 = .ok (.invokespecial 62, 3) := by decide +kernel
theorem d_LR_checkParameter_18 : decode b_LR_checkParameter 18 = .ok (.athrow, 1) := by decide +kernel
theorem d_LR_checkParameter_19 : decode b_LR_checkParameter 19 = .ok (.return_, 1) := by decide +kernel
theorem d_LR_next_0 : decode b_LR_next 0 = .ok (.aload_n 0, 1) := by decide +kernel
theorem d_LR_next_1 : decode b_LR_next 1 = .ok (.iload_n 1, 1) := by decide +kernel
theorem d_LR_next_2 : decode b_LR_next 2 = .ok (.invokevirtual 40, 3) := by decide +kernel
theorem d_LR_next_5 : decode b_LR_next 5 = .ok (.aload_n 0, 1) := by decide +kernel
theorem d_LR_next_6 : decode b_LR_next 6 = .ok (.getfield 12, 3) := by decide +kernel
theorem d_LR_next_9 : decode b_LR_next 9 = .ok (.iconst 2, 1) := by decide +kernel
theorem d_LR_next_10 : decode b_LR_next 10 = .ok (.iload_n 1, 1) := by decide +kernel
theorem d_LR_next_11 : decode b_LR_next 11 = .ok (.iconst (-1), 1) := by decide +kernel
theorem d_LR_next_12 : decode b_LR_next 12 = .ok (.invokevirtual 32, 3) := by decide +kernel
theorem d_LR_next_15 : decode b_LR_next 15 = .ok (.ireturn, 1) := by decide +kernel
theorem d_LR_checkLevel_0 : decode b_LR_checkLevel 0 = .ok (.aload_n 0, 1) := by decide +kernel
theorem d_LR_checkLevel_1 : decode b_LR_checkLevel 1 = .ok (.getfield 12, 3) := by decide +kernel
theorem d_LR_checkLevel_4 : decode b_LR_checkLevel 4 = .ok (.iload_n 1, 1) := by decide +kernel
theorem d_LR_checkLevel_5 : decode b_LR_checkLevel 5 = .ok (.invokevirtual 43, 3) := by decide +kernel
theorem d_LR_checkLevel_8 : decode b_LR_checkLevel 8 = .ok (.ifCond .ne 13, 3) := by decide +kernel
theorem d_LR_checkLevel_11 : decode b_LR_checkLevel 11 = .ok (.new 58, 3) := by decide +kernel
theorem d_LR_checkLevel_14 : decode b_LR_checkLevel 14 = .ok (.dup, 1) := by decide +kernel
theorem d_LR_checkLevel_15 : decode b_LR_checkLevel 15 = .ok (.ldc 136, 2) := by decide +kernel
theorem d_LR_checkLevel_17 : decode b_LR_checkLevel 17 = .ok (.invokespecial 62, 3) := by decide +kernel
theorem d_LR_checkLevel_20 : decode b_LR_checkLevel 20 = .ok (.athrow, 1) := by decide +kernel
theorem d_LR_checkLevel_21 : decode b_LR_checkLevel 21 = .ok (.return_, 1) := by decide +kernel
theorem d_LR_join_0 : decode b_LR_join 0 = .ok (.aload_n 0, 1) := by decide +kernel
theorem d_LR_join_1 : decode b_LR_join 1 = .ok (.iload_n 1, 1) := by decide +kernel
theorem d_LR_join_2 : decode b_LR_join 2 = .ok (.invokevirtual 40, 3) := by decide +kernel
theorem d_LR_join_5 : decode b_LR_join 5 = .ok (.aload_n 0, 1) := by decide +kernel
theorem d_LR_join_6 : decode b_LR_join 6 = .ok (.iload_n 2, 1) := by decide +kernel
theorem d_LR_join_7 : decode b_LR_join 7 = .ok (.invokevirtual 40, 3) := by decide +kernel
theorem d_LR_join_10 : decode b_LR_join 10 = .ok (.aload_n 0, 1) := by decide +kernel
theorem d_LR_join_11 : decode b_LR_join 11 = .ok (.getfield 12, 3) := by decide +kernel
theorem d_LR_join_14 : decode b_LR_join 14 = .ok (.iload_n 3, 1) := by decide +kernel
theorem d_LR_join_15 : decode b_LR_join 15 = .ok (.ifCond .eq 7, 3) := by decide +kernel
theorem d_LR_join_18 : decode b_LR_join 18 = .ok (.iconst 4, 1) := by decide +kernel
theorem d_LR_join_19 : decode b_LR_join 19 = .ok (.goto 4, 3) := by decide +kernel
theorem d_LR_join_22 : decode b_LR_join 22 = .ok (.iconst 3, 1) := by decide +kernel
theorem d_LR_join_23 : decode b_LR_join 23 = .ok (.iload_n 1, 1) := by decide +kernel
theorem d_LR_join_24 : decode b_LR_join 24 = .ok (.iload_n 2, 1) := by decide +kernel
theorem d_LR_join_25 : decode b_LR_join 25 = .ok (.invokevirtual 32, 3) := by decide +kernel
theorem d_LR_join_28 : decode b_LR_join 28 = .ok (.ireturn, 1) := by decide +kernel
theorem d_LR_put_0 : decode b_LR_put 0 = .ok (.aload_n 0, 1) := by decide +kernel
theorem d_LR_put_1 : decode b_LR_put 1 = .ok (.iload_n 1, 1) := by decide +kernel
theorem d_LR_put_2 : decode b_LR_put 2 = .ok (.invokevirtual 40, 3) := by decide +kernel
theorem d_LR_put_5 : decode b_LR_put 5 = .ok (.iload_n 2, 1) := by decide +kernel
theorem d_LR_put_6 : decode b_LR_put 6 = .ok (.invokestatic 36, 3) := by decide +kernel
theorem d_LR_put_9 : decode b_LR_put 9 = .ok (.aload_n 0, 1) := by decide +kernel
theorem d_LR_put_10 : decode b_LR_put 10 = .ok (.iload_n 3, 1) := by decide +kernel
theorem d_LR_put_11 : decode b_LR_put 11 = .ok (.invokevirtual 40, 3) := by decide +kernel
theorem d_LR_put_14 : decode b_LR_put 14 = .ok (.aload_n 0, 1) := by decide +kernel
theorem d_LR_put_15 : decode b_LR_put 15 = .ok (.getfield 21, 3) := by decide +kernel
theorem d_LR_put_18 : decode b_LR_put 18 = .ok (.iload_n 1, 1) := by decide +kernel
theorem d_LR_put_19 : decode b_LR_put 19 = .ok (.iload_n 2, 1) := by decide +kernel
theorem d_LR_put_20 : decode b_LR_put 20 = .ok (.iload_n 3, 1) := by decide +kernel
theorem d_LR_put_21 : decode b_LR_put 21 = .ok (.invokevirtual 51, 3) := by decide +kernel
theorem d_LR_put_24 : decode b_LR_put 24 = .ok (.ireturn, 1) := by decide +kernel
theorem d_Rp_replaced_0 : decode b_Rp_replaced 0 = .ok (.iconst 0, 1) := by decide +kernel
theorem d_Rp_replaced_1 : decode b_Rp_replaced 1 = .ok (.istore 4, 2) := by decide +kernel
theorem d_Rp_replaced_3 : decode b_Rp_replaced 3 = .ok (.iload 4, 2) := by decide +kernel
theorem d_Rp_replaced_5 : decode b_Rp_replaced 5 = .ok (.iload_n 1, 1) := by decide +kernel
theorem d_Rp_replaced_6 : decode b_Rp_replaced 6 = .ok (.if_icmp .gt 24, 3) := by decide +kernel
theorem d_Rp_replaced_9 : decode b_Rp_replaced 9 = .ok (.aload_n 0, 1) := by decide +kernel
theorem d_Rp_replaced_10 : decode b_Rp_replaced 10 = .ok (.getfield 9, 3) := by decide +kernel
theorem d_Rp_replaced_13 : decode b_Rp_replaced 13 = .ok (.iload 4, 2) := by decide +kernel
theorem d_Rp_replaced_15 : decode b_Rp_replaced 15 = .ok (.aload_n 0, 1) := by decide +kernel
theorem d_Rp_replaced_16 : decode b_Rp_replaced 16 = .ok (.iload 4, 2) := by decide +kernel
theorem d_Rp_replaced_18 : decode b_Rp_replaced 18 = .ok (.iload_n 2, 1) := by decide +kernel
theorem d_Rp_replaced_19 : decode b_Rp_replaced 19 = .ok (.iload_n 3, 1) := by decide +kernel
theorem d_Rp_replaced_20 : decode b_Rp_replaced 20 = .ok (.invokevirtual 22, 3) := by decide +kernel
theorem d_Rp_replaced_23 : decode b_Rp_replaced 23 = .ok (.iastore, 1) := by decide +kernel
theorem d_Rp_replaced_24 : decode b_Rp_replaced 24 = .ok (.iinc 4 1, 3) := by decide +kernel
theorem d_Rp_replaced_27 : decode b_Rp_replaced 27 = .ok (.goto (-24), 3) := by decide +kernel
theorem d_Rp_replaced_30 : decode b_Rp_replaced 30 = .ok (.aload_n 0, 1) := by decide +kernel
theorem d_Rp_replaced_31 : decode b_Rp_replaced 31 = .ok (.getfield 15, 3) := by decide +kernel
theorem d_Rp_replaced_34 : decode b_Rp_replaced 34 = .ok (.iconst 0, 1) := by decide +kernel
theorem d_Rp_replaced_35 : decode b_Rp_replaced 35 = .ok (.iload_n 1, 1) := by decide +kernel
theorem d_Rp_replaced_36 : decode b_Rp_replaced 36 = .ok (.iastore, 1) := by decide +kernel
theorem d_Rp_replaced_37 : decode b_Rp_replaced 37 = .ok (.iconst 0, 1) := by decide +kernel
theorem d_Rp_replaced_38 : decode b_Rp_replaced 38 = .ok (.istore 4, 2) := by decide +kernel
theorem d_Rp_replaced_40 : decode b_Rp_replaced 40 = .ok (.iconst 0, 1) := by decide +kernel
theorem d_Rp_replaced_41 : decode b_Rp_replaced 41 = .ok (.istore 5, 2) := by decide +kernel
theorem d_Rp_replaced_43 : decode b_Rp_replaced 43 = .ok (.iload 5, 2) := by decide +kernel
theorem d_Rp_replaced_45 : decode b_Rp_replaced 45 = .ok (.sipush 240, 3) := by decide +kernel
theorem d_Rp_replaced_48 : decode b_Rp_replaced 48 = .ok (.if_icmp .ge 73, 3) := by decide +kernel
theorem d_Rp_replaced_51 : decode b_Rp_replaced 51 = .ok (.aload_n 0, 1) := by decide +kernel
theorem d_Rp_replaced_52 : decode b_Rp_replaced 52 = .ok (.getfield 9, 3) := by decide +kernel
theorem d_Rp_replaced_55 : decode b_Rp_replaced 55 = .ok (.iload_n 1, 1) := by decide +kernel
theorem d_Rp_replaced_56 : decode b_Rp_replaced 56 = .ok (.iaload, 1) := by decide +kernel
theorem d_Rp_replaced_57 : decode b_Rp_replaced 57 = .ok (.iconst (-1), 1) := by decide +kernel
theorem d_Rp_replaced_58 : decode b_Rp_replaced 58 = .ok (.if_icmp .ne 63, 3) := by decide +kernel
theorem d_Rp_replaced_61 : decode b_Rp_replaced 61 = .ok (.aload_n 0, 1) := by decide +kernel
theorem d_Rp_replaced_62 : decode b_Rp_replaced 62 = .ok (.getfield 15, 3) := by decide +kernel
theorem d_Rp_replaced_65 : decode b_Rp_replaced 65 = .ok (.iload 4, 2) := by decide +kernel
theorem d_Rp_replaced_67 : decode b_Rp_replaced 67 = .ok (.iaload, 1) := by decide +kernel
theorem d_Rp_replaced_68 : decode b_Rp_replaced 68 = .ok (.istore 6, 2) := by decide +kernel
theorem d_Rp_replaced_70 : decode b_Rp_replaced 70 = .ok (.aload_n 0, 1) := by decide +kernel
theorem d_Rp_replaced_71 : decode b_Rp_replaced 71 = .ok (.iload 6, 2) := by decide +kernel
theorem d_Rp_replaced_73 : decode b_Rp_replaced 73 = .ok (.invokevirtual 26, 3) := by decide +kernel
theorem d_Rp_replaced_76 : decode b_Rp_replaced 76 = .ok (.istore 7, 2) := by decide +kernel
theorem d_Rp_replaced_78 : decode b_Rp_replaced 78 = .ok (.iload 7, 2) := by decide +kernel
theorem d_Rp_replaced_80 : decode b_Rp_replaced 80 = .ok (.iconst (-1), 1) := by decide +kernel
theorem d_Rp_replaced_81 : decode b_Rp_replaced 81 = .ok (.if_icmp .ne 22, 3) := by decide +kernel
theorem d_Rp_replaced_84 : decode b_Rp_replaced 84 = .ok (.aload_n 0, 1) := by decide +kernel
theorem d_Rp_replaced_85 : decode b_Rp_replaced 85 = .ok (.getfield 9, 3) := by decide +kernel
theorem d_Rp_replaced_88 : decode b_Rp_replaced 88 = .ok (.iload 6, 2) := by decide +kernel
theorem d_Rp_replaced_90 : decode b_Rp_replaced 90 = .ok (.aload_n 0, 1) := by decide +kernel
theorem d_Rp_replaced_91 : decode b_Rp_replaced 91 = .ok (.iload 6, 2) := by decide +kernel
theorem d_Rp_replaced_93 : decode b_Rp_replaced 93 = .ok (.invokevirtual 30, 3) := by decide +kernel
theorem d_Rp_replaced_96 : decode b_Rp_replaced 96 = .ok (.iastore, 1) := by decide +kernel
theorem d_Rp_replaced_97 : decode b_Rp_replaced 97 = .ok (.iinc 4 (-1), 3) := by decide +kernel
theorem d_Rp_replaced_100 : decode b_Rp_replaced 100 = .ok (.goto 15, 3) := by decide +kernel
theorem d_Rp_replaced_103 : decode b_Rp_replaced 103 = .ok (.iinc 4 1, 3) := by decide +kernel
theorem d_Rp_replaced_106 : decode b_Rp_replaced 106 = .ok (.aload_n 0, 1) := by decide +kernel
theorem d_Rp_replaced_107 : decode b_Rp_replaced 107 = .ok (.getfield 15, 3) := by decide +kernel
theorem d_Rp_replaced_110 : decode b_Rp_replaced 110 = .ok (.iload 4, 2) := by decide +kernel
theorem d_Rp_replaced_112 : decode b_Rp_replaced 112 = .ok (.iload 7, 2) := by decide +kernel
theorem d_Rp_replaced_114 : decode b_Rp_replaced 114 = .ok (.iastore, 1) := by decide +kernel
theorem d_Rp_replaced_115 : decode b_Rp_replaced 115 = .ok (.iinc 5 1, 3) := by decide +kernel
theorem d_Rp_replaced_118 : decode b_Rp_replaced 118 = .ok (.goto (-75), 3) := by decide +kernel
theorem d_Rp_replaced_121 : decode b_Rp_replaced 121 = .ok (.aload_n 0, 1) := by decide +kernel
theorem d_Rp_replaced_122 : decode b_Rp_replaced 122 = .ok (.getfield 9, 3) := by decide +kernel
theorem d_Rp_replaced_125 : decode b_Rp_replaced 125 = .ok (.iload_n 1, 1) := by decide +kernel
theorem d_Rp_replaced_126 : decode b_Rp_replaced 126 = .ok (.iaload, 1) := by decide +kernel
theorem d_Rp_replaced_127 : decode b_Rp_replaced 127 = .ok (.ireturn, 1) := by decide +kernel
theorem d_Rp_resultAhead_0 : decode b_Rp_resultAhead 0 = .ok (.aload_n 0, 1) := by decide +kernel
theorem d_Rp_resultAhead_1 : decode b_Rp_resultAhead 1 = .ok (.getfield 18, 3) := by decide +kernel
theorem d_Rp_resultAhead_4 : decode b_Rp_resultAhead 4 = .ok (.iload_n 1, 1) := by decide +kernel
theorem d_Rp_resultAhead_5 : decode b_Rp_resultAhead 5 = .ok (.iload_n 2, 1) := by decide +kernel
theorem d_Rp_resultAhead_6 : decode b_Rp_resultAhead 6 = .ok (.invokevirtual 33, 3) := by decide +kernel
theorem d_Rp_resultAhead_9 : decode b_Rp_resultAhead 9 = .ok (.ifCond .ne 5, 3) := by decide +kernel
theorem d_Rp_resultAhead_12 : decode b_Rp_resultAhead 12 = .ok (.iload_n 1, 1) := by decide +kernel
theorem d_Rp_resultAhead_13 : decode b_Rp_resultAhead 13 = .ok (.ireturn, 1) := by decide +kernel
theorem d_Rp_resultAhead_14 : decode b_Rp_resultAhead 14 = .ok (.aload_n 0, 1) := by decide +kernel
theorem d_Rp_resultAhead_15 : decode b_Rp_resultAhead 15 = .ok (.getfield 18, 3) := by decide +kernel
theorem d_Rp_resultAhead_18 : decode b_Rp_resultAhead 18 = .ok (.iload_n 1, 1) := by decide +kernel
theorem d_Rp_resultAhead_19 : decode b_Rp_resultAhead 19 = .ok (.iload_n 2, 1) := by decide +kernel
theorem d_Rp_resultAhead_20 : decode b_Rp_resultAhead 20 = .ok (.invokevirtual 39, 3) := by decide +kernel
theorem d_Rp_resultAhead_23 : decode b_Rp_resultAhead 23 = .ok (.ifCond .eq 7, 3) := by decide +kernel
theorem d_Rp_resultAhead_26 : decode b_Rp_resultAhead 26 = .ok (.iload_n 3, 1) := by decide +kernel
theorem d_Rp_resultAhead_27 : decode b_Rp_resultAhead 27 = .ok (.goto 4, 3) := by decide +kernel
theorem d_Rp_resultAhead_30 : decode b_Rp_resultAhead 30 = .ok (.iconst (-1), 1) := by decide +kernel
theorem d_Rp_resultAhead_31 : decode b_Rp_resultAhead 31 = .ok (.ireturn, 1) := by decide +kernel
theorem d_Rp_missingPart_0 : decode b_Rp_missingPart 0 = .ok (.aload_n 0, 1) := by decide +kernel
theorem d_Rp_missingPart_1 : decode b_Rp_missingPart 1 = .ok (.getfield 18, 3) := by decide +kernel
theorem d_Rp_missingPart_4 : decode b_Rp_missingPart 4 = .ok (.iload_n 1, 1) := by decide +kernel
theorem d_Rp_missingPart_5 : decode b_Rp_missingPart 5 = .ok (.iconst 1, 1) := by decide +kernel
theorem d_Rp_missingPart_6 : decode b_Rp_missingPart 6 = .ok (.invokevirtual 42, 3) := by decide +kernel
theorem d_Rp_missingPart_9 : decode b_Rp_missingPart 9 = .ok (.istore_n 2, 1) := by decide +kernel
theorem d_Rp_missingPart_10 : decode b_Rp_missingPart 10 = .ok (.aload_n 0, 1) := by decide +kernel
theorem d_Rp_missingPart_11 : decode b_Rp_missingPart 11 = .ok (.getfield 9, 3) := by decide +kernel
theorem d_Rp_missingPart_14 : decode b_Rp_missingPart 14 = .ok (.iload_n 2, 1) := by decide +kernel
theorem d_Rp_missingPart_15 : decode b_Rp_missingPart 15 = .ok (.iaload, 1) := by decide +kernel
theorem d_Rp_missingPart_16 : decode b_Rp_missingPart 16 = .ok (.iconst (-1), 1) := by decide +kernel
theorem d_Rp_missingPart_17 : decode b_Rp_missingPart 17 = .ok (.if_icmp .ne 5, 3) := by decide +kernel
theorem d_Rp_missingPart_20 : decode b_Rp_missingPart 20 = .ok (.iload_n 2, 1) := by decide +kernel
theorem d_Rp_missingPart_21 : decode b_Rp_missingPart 21 = .ok (.ireturn, 1) := by decide +kernel
theorem d_Rp_missingPart_22 : decode b_Rp_missingPart 22 = .ok (.aload_n 0, 1) := by decide +kernel
theorem d_Rp_missingPart_23 : decode b_Rp_missingPart 23 = .ok (.getfield 18, 3) := by decide +kernel
theorem d_Rp_missingPart_26 : decode b_Rp_missingPart 26 = .ok (.iload_n 1, 1) := by decide +kernel
theorem d_Rp_missingPart_27 : decode b_Rp_missingPart 27 = .ok (.iconst 2, 1) := by decide +kernel
theorem d_Rp_missingPart_28 : decode b_Rp_missingPart 28 = .ok (.invokevirtual 42, 3) := by decide +kernel
theorem d_Rp_missingPart_31 : decode b_Rp_missingPart 31 = .ok (.istore_n 3, 1) := by decide +kernel
theorem d_Rp_missingPart_32 : decode b_Rp_missingPart 32 = .ok (.iload_n 3, 1) := by decide +kernel
theorem d_Rp_missingPart_33 : decode b_Rp_missingPart 33 = .ok (.iconst (-1), 1) := by decide +kernel
theorem d_Rp_missingPart_34 : decode b_Rp_missingPart 34 = .ok (.if_icmp .eq 17, 3) := by decide +kernel
theorem d_Rp_missingPart_37 : decode b_Rp_missingPart 37 = .ok (.aload_n 0, 1) := by decide +kernel
theorem d_Rp_missingPart_38 : decode b_Rp_missingPart 38 = .ok (.getfield 9, 3) := by decide +kernel
theorem d_Rp_missingPart_41 : decode b_Rp_missingPart 41 = .ok (.iload_n 3, 1) := by decide +kernel
theorem d_Rp_missingPart_42 : decode b_Rp_missingPart 42 = .ok (.iaload, 1) := by decide +kernel
theorem d_Rp_missingPart_43 : decode b_Rp_missingPart 43 = .ok (.iconst (-1), 1) := by decide +kernel
theorem d_Rp_missingPart_44 : decode b_Rp_missingPart 44 = .ok (.if_icmp .ne 7, 3) := by decide +kernel
theorem d_Rp_missingPart_47 : decode b_Rp_missingPart 47 = .ok (.iload_n 3, 1) := by decide +kernel
theorem d_Rp_missingPart_48 : decode b_Rp_missingPart 48 = .ok (.goto 4, 3) := by decide +kernel
theorem d_Rp_missingPart_51 : decode b_Rp_missingPart 51 = .ok (.iconst (-1), 1) := by decide +kernel
theorem d_Rp_missingPart_52 : decode b_Rp_missingPart 52 = .ok (.ireturn, 1) := by decide +kernel
theorem d_Rp_remade_0 : decode b_Rp_remade 0 = .ok (.aload_n 0, 1) := by decide +kernel
theorem d_Rp_remade_1 : decode b_Rp_remade 1 = .ok (.getfield 18, 3) := by decide +kernel
theorem d_Rp_remade_4 : decode b_Rp_remade 4 = .ok (.iload_n 1, 1) := by decide +kernel
theorem d_Rp_remade_5 : decode b_Rp_remade 5 = .ok (.iconst 1, 1) := by decide +kernel
theorem d_Rp_remade_6 : decode b_Rp_remade 6 = .ok (.invokevirtual 42, 3) := by decide +kernel
theorem d_Rp_remade_9 : decode b_Rp_remade 9 = .ok (.istore_n 2, 1) := by decide +kernel
theorem d_Rp_remade_10 : decode b_Rp_remade 10 = .ok (.aload_n 0, 1) := by decide +kernel
theorem d_Rp_remade_11 : decode b_Rp_remade 11 = .ok (.getfield 18, 3) := by decide +kernel
theorem d_Rp_remade_14 : decode b_Rp_remade 14 = .ok (.iload_n 1, 1) := by decide +kernel
theorem d_Rp_remade_15 : decode b_Rp_remade 15 = .ok (.iconst 2, 1) := by decide +kernel
theorem d_Rp_remade_16 : decode b_Rp_remade 16 = .ok (.invokevirtual 42, 3) := by decide +kernel
theorem d_Rp_remade_19 : decode b_Rp_remade 19 = .ok (.istore_n 3, 1) := by decide +kernel
theorem d_Rp_remade_20 : decode b_Rp_remade 20 = .ok (.aload_n 0, 1) := by decide +kernel
theorem d_Rp_remade_21 : decode b_Rp_remade 21 = .ok (.getfield 18, 3) := by decide +kernel
theorem d_Rp_remade_24 : decode b_Rp_remade 24 = .ok (.aload_n 0, 1) := by decide +kernel
theorem d_Rp_remade_25 : decode b_Rp_remade 25 = .ok (.getfield 18, 3) := by decide +kernel
theorem d_Rp_remade_28 : decode b_Rp_remade 28 = .ok (.iload_n 1, 1) := by decide +kernel
theorem d_Rp_remade_29 : decode b_Rp_remade 29 = .ok (.iconst 0, 1) := by decide +kernel
theorem d_Rp_remade_30 : decode b_Rp_remade 30 = .ok (.invokevirtual 42, 3) := by decide +kernel
theorem d_Rp_remade_33 : decode b_Rp_remade 33 = .ok (.aload_n 0, 1) := by decide +kernel
theorem d_Rp_remade_34 : decode b_Rp_remade 34 = .ok (.getfield 9, 3) := by decide +kernel
theorem d_Rp_remade_37 : decode b_Rp_remade 37 = .ok (.iload_n 2, 1) := by decide +kernel
theorem d_Rp_remade_38 : decode b_Rp_remade 38 = .ok (.iaload, 1) := by decide +kernel
theorem d_Rp_remade_39 : decode b_Rp_remade 39 = .ok (.iload_n 3, 1) := by decide +kernel
theorem d_Rp_remade_40 : decode b_Rp_remade 40 = .ok (.iconst (-1), 1) := by decide +kernel
theorem d_Rp_remade_41 : decode b_Rp_remade 41 = .ok (.if_icmp .ne 7, 3) := by decide +kernel
theorem d_Rp_remade_44 : decode b_Rp_remade 44 = .ok (.iconst (-1), 1) := by decide +kernel
theorem d_Rp_remade_45 : decode b_Rp_remade 45 = .ok (.goto 9, 3) := by decide +kernel
theorem d_Rp_remade_48 : decode b_Rp_remade 48 = .ok (.aload_n 0, 1) := by decide +kernel
theorem d_Rp_remade_49 : decode b_Rp_remade 49 = .ok (.getfield 9, 3) := by decide +kernel
theorem d_Rp_remade_52 : decode b_Rp_remade 52 = .ok (.iload_n 3, 1) := by decide +kernel
theorem d_Rp_remade_53 : decode b_Rp_remade 53 = .ok (.iaload, 1) := by decide +kernel
theorem d_Rp_remade_54 : decode b_Rp_remade 54 = .ok (.invokevirtual 46, 3) := by decide +kernel
theorem d_Rp_remade_57 : decode b_Rp_remade 57 = .ok (.ireturn, 1) := by decide +kernel
theorem d_LR_part_0 : decode b_LR_part 0 = .ok (.aload_n 0, 1) := by decide +kernel
theorem d_LR_part_1 : decode b_LR_part 1 = .ok (.iload_n 1, 1) := by decide +kernel
theorem d_LR_part_2 : decode b_LR_part 2 = .ok (.invokevirtual 40, 3) := by decide +kernel
theorem d_LR_part_5 : decode b_LR_part 5 = .ok (.iload_n 2, 1) := by decide +kernel
theorem d_LR_part_6 : decode b_LR_part 6 = .ok (.ifCond .lt 9, 3) := by decide +kernel
theorem d_LR_part_9 : decode b_LR_part 9 = .ok (.iload_n 2, 1) := by decide +kernel
theorem d_LR_part_10 : decode b_LR_part 10 = .ok (.bipush 32, 2) := by decide +kernel
theorem d_LR_part_12 : decode b_LR_part 12 = .ok (.if_icmp .lt 13, 3) := by decide +kernel
theorem d_LR_part_15 : decode b_LR_part 15 = .ok (.new 58, 3) := by decide +kernel
theorem d_LR_part_18 : decode b_LR_part 18 = .ok (.dup, 1) := by decide +kernel
theorem d_LR_part_19 : decode b_LR_part 19 = .ok (.ldc 60, 2) := by decide +kernel
theorem d_LR_part_21 : decode b_LR_part 21 = .ok (.invokespecial 62, 3) := by decide +kernel
theorem d_LR_part_24 : decode b_LR_part 24 = .ok (.athrow, 1) := by decide +kernel
theorem d_LR_part_25 : decode b_LR_part 25 = .ok (.iload_n 3, 1) := by decide +kernel
theorem d_LR_part_26 : decode b_LR_part 26 = .ok (.iconst (-1), 1) := by decide +kernel
theorem d_LR_part_27 : decode b_LR_part 27 = .ok (.if_icmp .ne 17, 3) := by decide +kernel
theorem d_LR_part_30 : decode b_LR_part 30 = .ok (.aload_n 0, 1) := by decide +kernel
theorem d_LR_part_31 : decode b_LR_part 31 = .ok (.getfield 12, 3) := by decide +kernel
theorem d_LR_part_34 : decode b_LR_part 34 = .ok (.iload_n 1, 1) := by decide +kernel
theorem d_LR_part_35 : decode b_LR_part 35 = .ok (.iload_n 2, 1) := by decide +kernel
theorem d_LR_part_36 : decode b_LR_part 36 = .ok (.invokevirtual 65, 3) := by decide +kernel
theorem d_LR_part_39 : decode b_LR_part 39 = .ok (.iconst 5, 1) := by decide +kernel
theorem d_LR_part_40 : decode b_LR_part 40 = .ok (.invokestatic 71, 3) := by decide +kernel
theorem d_LR_part_43 : decode b_LR_part 43 = .ok (.ireturn, 1) := by decide +kernel
theorem d_LR_part_44 : decode b_LR_part 44 = .ok (.iload_n 3, 1) := by decide +kernel
theorem d_LR_part_45 : decode b_LR_part 45 = .ok (.invokestatic 36, 3) := by decide +kernel
theorem d_LR_part_48 : decode b_LR_part 48 = .ok (.aload_n 0, 1) := by decide +kernel
theorem d_LR_part_49 : decode b_LR_part 49 = .ok (.getfield 12, 3) := by decide +kernel
theorem d_LR_part_52 : decode b_LR_part 52 = .ok (.iload_n 1, 1) := by decide +kernel
theorem d_LR_part_53 : decode b_LR_part 53 = .ok (.iload_n 2, 1) := by decide +kernel
theorem d_LR_part_54 : decode b_LR_part 54 = .ok (.invokevirtual 65, 3) := by decide +kernel
theorem d_LR_part_57 : decode b_LR_part 57 = .ok (.iload_n 3, 1) := by decide +kernel
theorem d_LR_part_58 : decode b_LR_part 58 = .ok (.invokestatic 71, 3) := by decide +kernel
theorem d_LR_part_61 : decode b_LR_part 61 = .ok (.ireturn, 1) := by decide +kernel
theorem d_LR_isAtMost_0 : decode b_LR_isAtMost 0 = .ok (.aload_n 0, 1) := by decide +kernel
theorem d_LR_isAtMost_1 : decode b_LR_isAtMost 1 = .ok (.iload_n 1, 1) := by decide +kernel
theorem d_LR_isAtMost_2 : decode b_LR_isAtMost 2 = .ok (.invokevirtual 40, 3) := by decide +kernel
theorem d_LR_isAtMost_5 : decode b_LR_isAtMost 5 = .ok (.aload_n 0, 1) := by decide +kernel
theorem d_LR_isAtMost_6 : decode b_LR_isAtMost 6 = .ok (.iload_n 2, 1) := by decide +kernel
theorem d_LR_isAtMost_7 : decode b_LR_isAtMost 7 = .ok (.invokevirtual 40, 3) := by decide +kernel
theorem d_LR_isAtMost_10 : decode b_LR_isAtMost 10 = .ok (.aload_n 0, 1) := by decide +kernel
theorem d_LR_isAtMost_11 : decode b_LR_isAtMost 11 = .ok (.getfield 12, 3) := by decide +kernel
theorem d_LR_isAtMost_14 : decode b_LR_isAtMost 14 = .ok (.iload_n 1, 1) := by decide +kernel
theorem d_LR_isAtMost_15 : decode b_LR_isAtMost 15 = .ok (.iload_n 2, 1) := by decide +kernel
theorem d_LR_isAtMost_16 : decode b_LR_isAtMost 16 = .ok (.invokevirtual 75, 3) := by decide +kernel
theorem d_LR_isAtMost_19 : decode b_LR_isAtMost 19 = .ok (.iconst (-1), 1) := by decide +kernel
theorem d_LR_isAtMost_20 : decode b_LR_isAtMost 20 = .ok (.if_icmp .ne 7, 3) := by decide +kernel
theorem d_LR_isAtMost_23 : decode b_LR_isAtMost 23 = .ok (.iconst 1, 1) := by decide +kernel
theorem d_LR_isAtMost_24 : decode b_LR_isAtMost 24 = .ok (.goto 4, 3) := by decide +kernel
theorem d_LR_isAtMost_27 : decode b_LR_isAtMost 27 = .ok (.iconst 0, 1) := by decide +kernel
theorem d_LR_isAtMost_28 : decode b_LR_isAtMost 28 = .ok (.ireturn, 1) := by decide +kernel
theorem d_LR_isSame_0 : decode b_LR_isSame 0 = .ok (.aload_n 0, 1) := by decide +kernel
theorem d_LR_isSame_1 : decode b_LR_isSame 1 = .ok (.iload_n 1, 1) := by decide +kernel
theorem d_LR_isSame_2 : decode b_LR_isSame 2 = .ok (.invokevirtual 40, 3) := by decide +kernel
theorem d_LR_isSame_5 : decode b_LR_isSame 5 = .ok (.aload_n 0, 1) := by decide +kernel
theorem d_LR_isSame_6 : decode b_LR_isSame 6 = .ok (.iload_n 2, 1) := by decide +kernel
theorem d_LR_isSame_7 : decode b_LR_isSame 7 = .ok (.invokevirtual 40, 3) := by decide +kernel
theorem d_LR_isSame_10 : decode b_LR_isSame 10 = .ok (.aload_n 0, 1) := by decide +kernel
theorem d_LR_isSame_11 : decode b_LR_isSame 11 = .ok (.getfield 12, 3) := by decide +kernel
theorem d_LR_isSame_14 : decode b_LR_isSame 14 = .ok (.iload_n 1, 1) := by decide +kernel
theorem d_LR_isSame_15 : decode b_LR_isSame 15 = .ok (.iload_n 2, 1) := by decide +kernel
theorem d_LR_isSame_16 : decode b_LR_isSame 16 = .ok (.invokevirtual 78, 3) := by decide +kernel
theorem d_LR_isSame_19 : decode b_LR_isSame 19 = .ok (.ireturn, 1) := by decide +kernel
theorem d_LR_least_0 : decode b_LR_least 0 = .ok (.aload_n 0, 1) := by decide +kernel
theorem d_LR_least_1 : decode b_LR_least 1 = .ok (.iload_n 1, 1) := by decide +kernel
theorem d_LR_least_2 : decode b_LR_least 2 = .ok (.invokevirtual 40, 3) := by decide +kernel
theorem d_LR_least_5 : decode b_LR_least 5 = .ok (.aload_n 0, 1) := by decide +kernel
theorem d_LR_least_6 : decode b_LR_least 6 = .ok (.getfield 12, 3) := by decide +kernel
theorem d_LR_least_9 : decode b_LR_least 9 = .ok (.iload_n 1, 1) := by decide +kernel
theorem d_LR_least_10 : decode b_LR_least 10 = .ok (.invokevirtual 82, 3) := by decide +kernel
theorem d_LR_least_13 : decode b_LR_least 13 = .ok (.ireturn, 1) := by decide +kernel
theorem d_LR_above_0 : decode b_LR_above 0 = .ok (.aload_n 0, 1) := by decide +kernel
theorem d_LR_above_1 : decode b_LR_above 1 = .ok (.iload_n 1, 1) := by decide +kernel
theorem d_LR_above_2 : decode b_LR_above 2 = .ok (.invokevirtual 40, 3) := by decide +kernel
theorem d_LR_above_5 : decode b_LR_above 5 = .ok (.aload_n 0, 1) := by decide +kernel
theorem d_LR_above_6 : decode b_LR_above 6 = .ok (.iload_n 2, 1) := by decide +kernel
theorem d_LR_above_7 : decode b_LR_above 7 = .ok (.invokevirtual 40, 3) := by decide +kernel
theorem d_LR_above_10 : decode b_LR_above 10 = .ok (.aload_n 0, 1) := by decide +kernel
theorem d_LR_above_11 : decode b_LR_above 11 = .ok (.getfield 12, 3) := by decide +kernel
theorem d_LR_above_14 : decode b_LR_above 14 = .ok (.iload_n 1, 1) := by decide +kernel
theorem d_LR_above_15 : decode b_LR_above 15 = .ok (.iload_n 2, 1) := by decide +kernel
theorem d_LR_above_16 : decode b_LR_above 16 = .ok (.invokevirtual 75, 3) := by decide +kernel
theorem d_LR_above_19 : decode b_LR_above 19 = .ok (.istore_n 3, 1) := by decide +kernel
theorem d_LR_above_20 : decode b_LR_above 20 = .ok (.iload_n 3, 1) := by decide +kernel
theorem d_LR_above_21 : decode b_LR_above 21 = .ok (.iconst (-1), 1) := by decide +kernel
theorem d_LR_above_22 : decode b_LR_above 22 = .ok (.if_icmp .ne 7, 3) := by decide +kernel
theorem d_LR_above_25 : decode b_LR_above 25 = .ok (.ldc2_w 86, 3) := by decide +kernel
theorem d_LR_above_28 : decode b_LR_above 28 = .ok (.lreturn, 1) := by decide +kernel
theorem d_LR_above_29 : decode b_LR_above 29 = .ok (.aload_n 0, 1) := by decide +kernel
theorem d_LR_above_30 : decode b_LR_above 30 = .ok (.getfield 12, 3) := by decide +kernel
theorem d_LR_above_33 : decode b_LR_above 33 = .ok (.iload_n 1, 1) := by decide +kernel
theorem d_LR_above_34 : decode b_LR_above 34 = .ok (.iload_n 3, 1) := by decide +kernel
theorem d_LR_above_35 : decode b_LR_above 35 = .ok (.invokevirtual 65, 3) := by decide +kernel
theorem d_LR_above_38 : decode b_LR_above 38 = .ok (.aload_n 0, 1) := by decide +kernel
theorem d_LR_above_39 : decode b_LR_above 39 = .ok (.getfield 12, 3) := by decide +kernel
theorem d_LR_above_42 : decode b_LR_above 42 = .ok (.iload_n 2, 1) := by decide +kernel
theorem d_LR_above_43 : decode b_LR_above 43 = .ok (.iload_n 3, 1) := by decide +kernel
theorem d_LR_above_44 : decode b_LR_above 44 = .ok (.invokevirtual 65, 3) := by decide +kernel
theorem d_LR_above_47 : decode b_LR_above 47 = .ok (.iload_n 3, 1) := by decide +kernel
theorem d_LR_above_48 : decode b_LR_above 48 = .ok (.invokestatic 88, 3) := by decide +kernel
theorem d_LR_above_51 : decode b_LR_above 51 = .ok (.lreturn, 1) := by decide +kernel
theorem d_LR_unknown_0 : decode b_LR_unknown 0 = .ok (.aload_n 0, 1) := by decide +kernel
theorem d_LR_unknown_1 : decode b_LR_unknown 1 = .ok (.getfield 28, 3) := by decide +kernel
theorem d_LR_unknown_4 : decode b_LR_unknown 4 = .ok (.invokevirtual 92, 3) := by decide +kernel
theorem d_LR_unknown_7 : decode b_LR_unknown 7 = .ok (.bipush 10, 2) := by decide +kernel
theorem d_LR_unknown_9 : decode b_LR_unknown 9 = .ok (.if_icmp .lt 13, 3) := by decide +kernel
theorem d_LR_unknown_12 : decode b_LR_unknown 12 = .ok (.new 96, 3) := by decide +kernel
theorem d_LR_unknown_15 : decode b_LR_unknown 15 = .ok (.dup, 1) := by decide +kernel
theorem d_LR_unknown_16 : decode b_LR_unknown 16 = .ok (.ldc 98, 2) := by decide +kernel
theorem d_LR_unknown_18 : decode b_LR_unknown 18 = .ok (.invokespecial 100, 3) := by decide +kernel
theorem d_LR_unknown_21 : decode b_LR_unknown 21 = .ok (.athrow, 1) := by decide +kernel
theorem d_LR_unknown_22 : decode b_LR_unknown 22 = .ok (.aload_n 0, 1) := by decide +kernel
theorem d_LR_unknown_23 : decode b_LR_unknown 23 = .ok (.getfield 28, 3) := by decide +kernel
theorem d_LR_unknown_26 : decode b_LR_unknown 26 = .ok (.invokevirtual 101, 3) := by decide +kernel
theorem d_LR_unknown_29 : decode b_LR_unknown 29 = .ok (.ireturn, 1) := by decide +kernel
theorem d_Nd_addUnknown_0 : decode b_Nd_addUnknown 0 = .ok (.aload_n 0, 1) := by decide +kernel
theorem d_Nd_addUnknown_1 : decode b_Nd_addUnknown 1 = .ok (.dup, 1) := by decide +kernel
theorem d_Nd_addUnknown_2 : decode b_Nd_addUnknown 2 = .ok (.getfield 28, 3) := by decide +kernel
theorem d_Nd_addUnknown_5 : decode b_Nd_addUnknown 5 = .ok (.iconst 1, 1) := by decide +kernel
theorem d_Nd_addUnknown_6 : decode b_Nd_addUnknown 6 = .ok (.iadd, 1) := by decide +kernel
theorem d_Nd_addUnknown_7 : decode b_Nd_addUnknown 7 = .ok (.putfield 28, 3) := by decide +kernel
theorem d_Nd_addUnknown_10 : decode b_Nd_addUnknown 10 = .ok (.aload_n 0, 1) := by decide +kernel
theorem d_Nd_addUnknown_11 : decode b_Nd_addUnknown 11 = .ok (.getfield 28, 3) := by decide +kernel
theorem d_Nd_addUnknown_14 : decode b_Nd_addUnknown 14 = .ok (.iconst 1, 1) := by decide +kernel
theorem d_Nd_addUnknown_15 : decode b_Nd_addUnknown 15 = .ok (.isub, 1) := by decide +kernel
theorem d_Nd_addUnknown_16 : decode b_Nd_addUnknown 16 = .ok (.ireturn, 1) := by decide +kernel
theorem d_LR_need_0 : decode b_LR_need 0 = .ok (.aload_n 0, 1) := by decide +kernel
theorem d_LR_need_1 : decode b_LR_need 1 = .ok (.getfield 28, 3) := by decide +kernel
theorem d_LR_need_4 : decode b_LR_need 4 = .ok (.iload_n 1, 1) := by decide +kernel
theorem d_LR_need_5 : decode b_LR_need 5 = .ok (.invokevirtual 104, 3) := by decide +kernel
theorem d_LR_need_8 : decode b_LR_need 8 = .ok (.ifCond .eq 14, 3) := by decide +kernel
theorem d_LR_need_11 : decode b_LR_need 11 = .ok (.aload_n 0, 1) := by decide +kernel
theorem d_LR_need_12 : decode b_LR_need 12 = .ok (.getfield 28, 3) := by decide +kernel
theorem d_LR_need_15 : decode b_LR_need 15 = .ok (.iload_n 3, 1) := by decide +kernel
theorem d_LR_need_16 : decode b_LR_need 16 = .ok (.invokevirtual 104, 3) := by decide +kernel
theorem d_LR_need_19 : decode b_LR_need 19 = .ok (.ifCond .ne 13, 3) := by decide +kernel
theorem d_LR_need_22 : decode b_LR_need 22 = .ok (.new 58, 3) := by decide +kernel
theorem d_LR_need_25 : decode b_LR_need 25 = .ok (.dup, 1) := by decide +kernel
theorem d_LR_need_26 : decode b_LR_need 26 = .ok (.ldc 107, 2) := by decide +kernel
theorem d_LR_need_28 : decode b_LR_need 28 = .ok (.invokespecial 62, 3) := by decide +kernel
theorem d_LR_need_31 : decode b_LR_need 31 = .ok (.athrow, 1) := by decide +kernel
theorem d_LR_need_32 : decode b_LR_need 32 = .ok (.iload_n 2, 1) := by decide +kernel
theorem d_LR_need_33 : decode b_LR_need 33 = .ok (.bipush (-20), 2) := by decide +kernel
theorem d_LR_need_35 : decode b_LR_need 35 = .ok (.if_icmp .lt 9, 3) := by decide +kernel
theorem d_LR_need_38 : decode b_LR_need 38 = .ok (.iload_n 2, 1) := by decide +kernel
theorem d_LR_need_39 : decode b_LR_need 39 = .ok (.bipush 20, 2) := by decide +kernel
theorem d_LR_need_41 : decode b_LR_need 41 = .ok (.if_icmp .le 13, 3) := by decide +kernel
theorem d_LR_need_44 : decode b_LR_need 44 = .ok (.new 109, 3) := by decide +kernel
theorem d_LR_need_47 : decode b_LR_need 47 = .ok (.dup, 1) := by decide +kernel
theorem d_LR_need_48 : decode b_LR_need 48 = .ok (.ldc 111, 2) := by decide +kernel
theorem d_LR_need_50 : decode b_LR_need 50 = .ok (.invokespecial 113, 3) := by decide +kernel
theorem d_LR_need_53 : decode b_LR_need 53 = .ok (.athrow, 1) := by decide +kernel
theorem d_LR_need_54 : decode b_LR_need 54 = .ok (.aload_n 0, 1) := by decide +kernel
theorem d_LR_need_55 : decode b_LR_need 55 = .ok (.getfield 28, 3) := by decide +kernel
theorem d_LR_need_58 : decode b_LR_need 58 = .ok (.invokevirtual 114, 3) := by decide +kernel
theorem d_LR_need_61 : decode b_LR_need 61 = .ok (.bipush 30, 2) := by decide +kernel
theorem d_LR_need_63 : decode b_LR_need 63 = .ok (.if_icmp .lt 13, 3) := by decide +kernel
theorem d_LR_need_66 : decode b_LR_need 66 = .ok (.new 96, 3) := by decide +kernel
theorem d_LR_need_69 : decode b_LR_need 69 = .ok (.dup, 1) := by decide +kernel
theorem d_LR_need_70 : decode b_LR_need 70 = .ok (.ldc 117, 2) := by decide +kernel
theorem d_LR_need_72 : decode b_LR_need 72 = .ok (.invokespecial 100, 3) := by decide +kernel
theorem d_LR_need_75 : decode b_LR_need 75 = .ok (.athrow, 1) := by decide +kernel
theorem d_LR_need_76 : decode b_LR_need 76 = .ok (.aload_n 0, 1) := by decide +kernel
theorem d_LR_need_77 : decode b_LR_need 77 = .ok (.getfield 28, 3) := by decide +kernel
theorem d_LR_need_80 : decode b_LR_need 80 = .ok (.iload_n 1, 1) := by decide +kernel
theorem d_LR_need_81 : decode b_LR_need 81 = .ok (.iload_n 2, 1) := by decide +kernel
theorem d_LR_need_82 : decode b_LR_need 82 = .ok (.iload_n 3, 1) := by decide +kernel
theorem d_LR_need_83 : decode b_LR_need 83 = .ok (.invokevirtual 119, 3) := by decide +kernel
theorem d_LR_need_86 : decode b_LR_need 86 = .ok (.ireturn, 1) := by decide +kernel
theorem d_Nd_isSide_0 : decode b_Nd_isSide 0 = .ok (.iload_n 1, 1) := by decide +kernel
theorem d_Nd_isSide_1 : decode b_Nd_isSide 1 = .ok (.iconst (-1), 1) := by decide +kernel
theorem d_Nd_isSide_2 : decode b_Nd_isSide 2 = .ok (.if_icmp .eq 11, 3) := by decide +kernel
theorem d_Nd_isSide_5 : decode b_Nd_isSide 5 = .ok (.aload_n 0, 1) := by decide +kernel
theorem d_Nd_isSide_6 : decode b_Nd_isSide 6 = .ok (.iload_n 1, 1) := by decide +kernel
theorem d_Nd_isSide_7 : decode b_Nd_isSide 7 = .ok (.invokevirtual 45, 3) := by decide +kernel
theorem d_Nd_isSide_10 : decode b_Nd_isSide 10 = .ok (.ifCond .eq 7, 3) := by decide +kernel
theorem d_Nd_isSide_13 : decode b_Nd_isSide 13 = .ok (.iconst 1, 1) := by decide +kernel
theorem d_Nd_isSide_14 : decode b_Nd_isSide 14 = .ok (.goto 4, 3) := by decide +kernel
theorem d_Nd_isSide_17 : decode b_Nd_isSide 17 = .ok (.iconst 0, 1) := by decide +kernel
theorem d_Nd_isSide_18 : decode b_Nd_isSide 18 = .ok (.ireturn, 1) := by decide +kernel
theorem d_Nd_add_0 : decode b_Nd_add 0 = .ok (.aload_n 0, 1) := by decide +kernel
theorem d_Nd_add_1 : decode b_Nd_add 1 = .ok (.getfield 9, 3) := by decide +kernel
theorem d_Nd_add_4 : decode b_Nd_add 4 = .ok (.aload_n 0, 1) := by decide +kernel
theorem d_Nd_add_5 : decode b_Nd_add 5 = .ok (.getfield 32, 3) := by decide +kernel
theorem d_Nd_add_8 : decode b_Nd_add 8 = .ok (.iload_n 1, 1) := by decide +kernel
theorem d_Nd_add_9 : decode b_Nd_add 9 = .ok (.iconst (-1), 1) := by decide +kernel
theorem d_Nd_add_10 : decode b_Nd_add 10 = .ok (.if_icmp .ne 8, 3) := by decide +kernel
theorem d_Nd_add_13 : decode b_Nd_add 13 = .ok (.bipush 10, 2) := by decide +kernel
theorem d_Nd_add_15 : decode b_Nd_add 15 = .ok (.goto 4, 3) := by decide +kernel
theorem d_Nd_add_18 : decode b_Nd_add 18 = .ok (.iload_n 1, 1) := by decide +kernel
theorem d_Nd_add_19 : decode b_Nd_add 19 = .ok (.iastore, 1) := by decide +kernel
theorem d_Nd_add_20 : decode b_Nd_add 20 = .ok (.aload_n 0, 1) := by decide +kernel
theorem d_Nd_add_21 : decode b_Nd_add 21 = .ok (.getfield 15, 3) := by decide +kernel
theorem d_Nd_add_24 : decode b_Nd_add 24 = .ok (.aload_n 0, 1) := by decide +kernel
theorem d_Nd_add_25 : decode b_Nd_add 25 = .ok (.getfield 32, 3) := by decide +kernel
theorem d_Nd_add_28 : decode b_Nd_add 28 = .ok (.iload_n 2, 1) := by decide +kernel
theorem d_Nd_add_29 : decode b_Nd_add 29 = .ok (.iastore, 1) := by decide +kernel
theorem d_Nd_add_30 : decode b_Nd_add 30 = .ok (.aload_n 0, 1) := by decide +kernel
theorem d_Nd_add_31 : decode b_Nd_add 31 = .ok (.getfield 18, 3) := by decide +kernel
theorem d_Nd_add_34 : decode b_Nd_add 34 = .ok (.aload_n 0, 1) := by decide +kernel
theorem d_Nd_add_35 : decode b_Nd_add 35 = .ok (.getfield 32, 3) := by decide +kernel
theorem d_Nd_add_38 : decode b_Nd_add 38 = .ok (.iload_n 3, 1) := by decide +kernel
theorem d_Nd_add_39 : decode b_Nd_add 39 = .ok (.iconst (-1), 1) := by decide +kernel
theorem d_Nd_add_40 : decode b_Nd_add 40 = .ok (.if_icmp .ne 8, 3) := by decide +kernel
theorem d_Nd_add_43 : decode b_Nd_add 43 = .ok (.bipush 10, 2) := by decide +kernel
theorem d_Nd_add_45 : decode b_Nd_add 45 = .ok (.goto 4, 3) := by decide +kernel
theorem d_Nd_add_48 : decode b_Nd_add 48 = .ok (.iload_n 3, 1) := by decide +kernel
theorem d_Nd_add_49 : decode b_Nd_add 49 = .ok (.iastore, 1) := by decide +kernel
theorem d_Nd_add_50 : decode b_Nd_add 50 = .ok (.aload_n 0, 1) := by decide +kernel
theorem d_Nd_add_51 : decode b_Nd_add 51 = .ok (.dup, 1) := by decide +kernel
theorem d_Nd_add_52 : decode b_Nd_add 52 = .ok (.getfield 32, 3) := by decide +kernel
theorem d_Nd_add_55 : decode b_Nd_add 55 = .ok (.iconst 1, 1) := by decide +kernel
theorem d_Nd_add_56 : decode b_Nd_add 56 = .ok (.iadd, 1) := by decide +kernel
theorem d_Nd_add_57 : decode b_Nd_add 57 = .ok (.putfield 32, 3) := by decide +kernel
theorem d_Nd_add_60 : decode b_Nd_add 60 = .ok (.aload_n 0, 1) := by decide +kernel
theorem d_Nd_add_61 : decode b_Nd_add 61 = .ok (.invokevirtual 49, 3) := by decide +kernel
theorem d_Nd_add_64 : decode b_Nd_add 64 = .ok (.aload_n 0, 1) := by decide +kernel
theorem d_Nd_add_65 : decode b_Nd_add 65 = .ok (.getfield 32, 3) := by decide +kernel
theorem d_Nd_add_68 : decode b_Nd_add 68 = .ok (.iconst 1, 1) := by decide +kernel
theorem d_Nd_add_69 : decode b_Nd_add 69 = .ok (.isub, 1) := by decide +kernel
theorem d_Nd_add_70 : decode b_Nd_add 70 = .ok (.ireturn, 1) := by decide +kernel
