theorem d_Law_zero_0 : decode b_Law_zero 0 = .ok (.aload_n 1, 1) := by decide +kernel
theorem d_Law_zero_1 : decode b_Law_zero 1 = .ok (.iconst 0, 1) := by decide +kernel
theorem d_Law_zero_2 : decode b_Law_zero 2 = .ok (.aload_n 0, 1) := by decide +kernel
theorem d_Law_zero_3 : decode b_Law_zero 3 = .ok (.invokevirtual 7, 3) := by decide +kernel
theorem d_Law_zero_6 : decode b_Law_zero 6 = .ok (.i2l, 1) := by decide +kernel
theorem d_Law_zero_7 : decode b_Law_zero 7 = .ok (.lastore, 1) := by decide +kernel
theorem d_Law_zero_8 : decode b_Law_zero 8 = .ok (.goto 6, 3) := by decide +kernel
theorem d_Law_zero_11 : decode b_Law_zero 11 = .ok (.astore_n 2, 1) := by decide +kernel
theorem d_Law_zero_12 : decode b_Law_zero 12 = .ok (.iconst 1, 1) := by decide +kernel
theorem d_Law_zero_13 : decode b_Law_zero 13 = .ok (.ireturn, 1) := by decide +kernel
theorem d_Law_zero_14 : decode b_Law_zero 14 = .ok (.iconst 0, 1) := by decide +kernel
theorem d_Law_zero_15 : decode b_Law_zero 15 = .ok (.ireturn, 1) := by decide +kernel
theorem d_Law_parameter_0 : decode b_Law_parameter 0 = .ok (.aload_n 2, 1) := by decide +kernel
theorem d_Law_parameter_1 : decode b_Law_parameter 1 = .ok (.iconst 0, 1) := by decide +kernel
theorem d_Law_parameter_2 : decode b_Law_parameter 2 = .ok (.aload_n 0, 1) := by decide +kernel
theorem d_Law_parameter_3 : decode b_Law_parameter 3 = .ok (.iload_n 1, 1) := by decide +kernel
theorem d_Law_parameter_4 : decode b_Law_parameter 4 = .ok (.invokevirtual 15, 3) := by decide +kernel
theorem d_Law_parameter_7 : decode b_Law_parameter 7 = .ok (.i2l, 1) := by decide +kernel
theorem d_Law_parameter_8 : decode b_Law_parameter 8 = .ok (.lastore, 1) := by decide +kernel
theorem d_Law_parameter_9 : decode b_Law_parameter 9 = .ok (.goto 9, 3) := by decide +kernel
theorem d_Law_parameter_12 : decode b_Law_parameter 12 = .ok (.astore_n 3, 1) := by decide +kernel
theorem d_Law_parameter_13 : decode b_Law_parameter 13 = .ok (.iconst 1, 1) := by decide +kernel
theorem d_Law_parameter_14 : decode b_Law_parameter 14 = .ok (.ireturn, 1) := by decide +kernel
theorem d_Law_parameter_15 : decode b_Law_parameter 15 = .ok (.astore_n 3, 1) := by decide +kernel
theorem d_Law_parameter_16 : decode b_Law_parameter 16 = .ok (.iconst 2, 1) := by decide +kernel
theorem d_Law_parameter_17 : decode b_Law_parameter 17 = .ok (.ireturn, 1) := by decide +kernel
theorem d_Law_parameter_18 : decode b_Law_parameter 18 = .ok (.iconst 0, 1) := by decide +kernel
theorem d_Law_parameter_19 : decode b_Law_parameter 19 = .ok (.ireturn, 1) := by decide +kernel
theorem d_Law_next_0 : decode b_Law_next 0 = .ok (.aload_n 2, 1) := by decide +kernel
theorem d_Law_next_1 : decode b_Law_next 1 = .ok (.iconst 0, 1) := by decide +kernel
theorem d_Law_next_2 : decode b_Law_next 2 = .ok (.aload_n 0, 1) := by decide +kernel
theorem d_Law_next_3 : decode b_Law_next 3 = .ok (.iload_n 1, 1) := by decide +kernel
theorem d_Law_next_4 : decode b_Law_next 4 = .ok (.invokevirtual 21, 3) := by decide +kernel
theorem d_Law_next_7 : decode b_Law_next 7 = .ok (.i2l, 1) := by decide +kernel
theorem d_Law_next_8 : decode b_Law_next 8 = .ok (.lastore, 1) := by decide +kernel
theorem d_Law_next_9 : decode b_Law_next 9 = .ok (.goto 12, 3) := by decide +kernel
theorem d_Law_next_12 : decode b_Law_next 12 = .ok (.astore_n 3, 1) := by decide +kernel
theorem d_Law_next_13 : decode b_Law_next 13 = .ok (.iconst 1, 1) := by decide +kernel
theorem d_Law_next_14 : decode b_Law_next 14 = .ok (.ireturn, 1) := by decide +kernel
theorem d_Law_next_15 : decode b_Law_next 15 = .ok (.astore_n 3, 1) := by decide +kernel
theorem d_Law_next_16 : decode b_Law_next 16 = .ok (.iconst 2, 1) := by decide +kernel
theorem d_Law_next_17 : decode b_Law_next 17 = .ok (.ireturn, 1) := by decide +kernel
theorem d_Law_next_18 : decode b_Law_next 18 = .ok (.astore_n 3, 1) := by decide +kernel
theorem d_Law_next_19 : decode b_Law_next 19 = .ok (.iconst 3, 1) := by decide +kernel
theorem d_Law_next_20 : decode b_Law_next 20 = .ok (.ireturn, 1) := by decide +kernel
theorem d_Law_next_21 : decode b_Law_next 21 = .ok (.iconst 0, 1) := by decide +kernel
theorem d_Law_next_22 : decode b_Law_next 22 = .ok (.ireturn, 1) := by decide +kernel
theorem d_Law_join_0 : decode b_Law_join 0 = .ok (.aload 4, 2) := by decide +kernel
theorem d_Law_join_2 : decode b_Law_join 2 = .ok (.iconst 0, 1) := by decide +kernel
theorem d_Law_join_3 : decode b_Law_join 3 = .ok (.aload_n 0, 1) := by decide +kernel
theorem d_Law_join_4 : decode b_Law_join 4 = .ok (.iload_n 1, 1) := by decide +kernel
theorem d_Law_join_5 : decode b_Law_join 5 = .ok (.iload_n 2, 1) := by decide +kernel
theorem d_Law_join_6 : decode b_Law_join 6 = .ok (.iload_n 3, 1) := by decide +kernel
theorem d_Law_join_7 : decode b_Law_join 7 = .ok (.invokevirtual 26, 3) := by decide +kernel
theorem d_Law_join_10 : decode b_Law_join 10 = .ok (.i2l, 1) := by decide +kernel
theorem d_Law_join_11 : decode b_Law_join 11 = .ok (.lastore, 1) := by decide +kernel
theorem d_Law_join_12 : decode b_Law_join 12 = .ok (.goto 11, 3) := by decide +kernel
theorem d_Law_join_15 : decode b_Law_join 15 = .ok (.astore 5, 2) := by decide +kernel
theorem d_Law_join_17 : decode b_Law_join 17 = .ok (.iconst 1, 1) := by decide +kernel
theorem d_Law_join_18 : decode b_Law_join 18 = .ok (.ireturn, 1) := by decide +kernel
theorem d_Law_join_19 : decode b_Law_join 19 = .ok (.astore 5, 2) := by decide +kernel
theorem d_Law_join_21 : decode b_Law_join 21 = .ok (.iconst 2, 1) := by decide +kernel
theorem d_Law_join_22 : decode b_Law_join 22 = .ok (.ireturn, 1) := by decide +kernel
theorem d_Law_join_23 : decode b_Law_join 23 = .ok (.iconst 0, 1) := by decide +kernel
theorem d_Law_join_24 : decode b_Law_join 24 = .ok (.ireturn, 1) := by decide +kernel
theorem d_Law_put_0 : decode b_Law_put 0 = .ok (.aload 4, 2) := by decide +kernel
theorem d_Law_put_2 : decode b_Law_put 2 = .ok (.iconst 0, 1) := by decide +kernel
theorem d_Law_put_3 : decode b_Law_put 3 = .ok (.aload_n 0, 1) := by decide +kernel
theorem d_Law_put_4 : decode b_Law_put 4 = .ok (.iload_n 1, 1) := by decide +kernel
theorem d_Law_put_5 : decode b_Law_put 5 = .ok (.iload_n 2, 1) := by decide +kernel
theorem d_Law_put_6 : decode b_Law_put 6 = .ok (.iload_n 3, 1) := by decide +kernel
theorem d_Law_put_7 : decode b_Law_put 7 = .ok (.invokevirtual 30, 3) := by decide +kernel
theorem d_Law_put_10 : decode b_Law_put 10 = .ok (.i2l, 1) := by decide +kernel
theorem d_Law_put_11 : decode b_Law_put 11 = .ok (.lastore, 1) := by decide +kernel
theorem d_Law_put_12 : decode b_Law_put 12 = .ok (.goto 15, 3) := by decide +kernel
theorem d_Law_put_15 : decode b_Law_put 15 = .ok (.astore 5, 2) := by decide +kernel
theorem d_Law_put_17 : decode b_Law_put 17 = .ok (.iconst 1, 1) := by decide +kernel
theorem d_Law_put_18 : decode b_Law_put 18 = .ok (.ireturn, 1) := by decide +kernel
theorem d_Law_put_19 : decode b_Law_put 19 = .ok (.astore 5, 2) := by decide +kernel
theorem d_Law_put_21 : decode b_Law_put 21 = .ok (.iconst 2, 1) := by decide +kernel
theorem d_Law_put_22 : decode b_Law_put 22 = .ok (.ireturn, 1) := by decide +kernel
theorem d_Law_put_23 : decode b_Law_put 23 = .ok (.astore 5, 2) := by decide +kernel
theorem d_Law_put_25 : decode b_Law_put 25 = .ok (.iconst 3, 1) := by decide +kernel
theorem d_Law_put_26 : decode b_Law_put 26 = .ok (.ireturn, 1) := by decide +kernel
theorem d_Law_put_27 : decode b_Law_put 27 = .ok (.iconst 0, 1) := by decide +kernel
theorem d_Law_put_28 : decode b_Law_put 28 = .ok (.ireturn, 1) := by decide +kernel
theorem d_Law_part_0 : decode b_Law_part 0 = .ok (.aload 4, 2) := by decide +kernel
theorem d_Law_part_2 : decode b_Law_part 2 = .ok (.iconst 0, 1) := by decide +kernel
theorem d_Law_part_3 : decode b_Law_part 3 = .ok (.aload_n 0, 1) := by decide +kernel
theorem d_Law_part_4 : decode b_Law_part 4 = .ok (.iload_n 1, 1) := by decide +kernel
theorem d_Law_part_5 : decode b_Law_part 5 = .ok (.iload_n 2, 1) := by decide +kernel
theorem d_Law_part_6 : decode b_Law_part 6 = .ok (.iload_n 3, 1) := by decide +kernel
theorem d_Law_part_7 : decode b_Law_part 7 = .ok (.invokevirtual 34, 3) := by decide +kernel
theorem d_Law_part_10 : decode b_Law_part 10 = .ok (.i2l, 1) := by decide +kernel
theorem d_Law_part_11 : decode b_Law_part 11 = .ok (.lastore, 1) := by decide +kernel
theorem d_Law_part_12 : decode b_Law_part 12 = .ok (.goto 7, 3) := by decide +kernel
theorem d_Law_part_15 : decode b_Law_part 15 = .ok (.astore 5, 2) := by decide +kernel
theorem d_Law_part_17 : decode b_Law_part 17 = .ok (.iconst 1, 1) := by decide +kernel
theorem d_Law_part_18 : decode b_Law_part 18 = .ok (.ireturn, 1) := by decide +kernel
theorem d_Law_part_19 : decode b_Law_part 19 = .ok (.iconst 0, 1) := by decide +kernel
theorem d_Law_part_20 : decode b_Law_part 20 = .ok (.ireturn, 1) := by decide +kernel
theorem d_Law_isAtMost_0 : decode b_Law_isAtMost 0 = .ok (.aload_n 3, 1) := by decide +kernel
theorem d_Law_isAtMost_1 : decode b_Law_isAtMost 1 = .ok (.iconst 0, 1) := by decide +kernel
theorem d_Law_isAtMost_2 : decode b_Law_isAtMost 2 = .ok (.aload_n 0, 1) := by decide +kernel
theorem d_Law_isAtMost_3 : decode b_Law_isAtMost 3 = .ok (.iload_n 1, 1) := by decide +kernel
theorem d_Law_isAtMost_4 : decode b_Law_isAtMost 4 = .ok (.iload_n 2, 1) := by decide +kernel
theorem d_Law_isAtMost_5 : decode b_Law_isAtMost 5 = .ok (.invokevirtual 37, 3) := by decide +kernel
theorem d_Law_isAtMost_8 : decode b_Law_isAtMost 8 = .ok (.ifCond .eq 7, 3) := by decide +kernel
theorem d_Law_isAtMost_11 : decode b_Law_isAtMost 11 = .ok (.lconst 1, 1) := by decide +kernel
theorem d_Law_isAtMost_12 : decode b_Law_isAtMost 12 = .ok (.goto 4, 3) := by decide +kernel
theorem d_Law_isAtMost_15 : decode b_Law_isAtMost 15 = .ok (.lconst 0, 1) := by decide +kernel
theorem d_Law_isAtMost_16 : decode b_Law_isAtMost 16 = .ok (.lastore, 1) := by decide +kernel
theorem d_Law_isAtMost_17 : decode b_Law_isAtMost 17 = .ok (.goto 7, 3) := by decide +kernel
theorem d_Law_isAtMost_20 : decode b_Law_isAtMost 20 = .ok (.astore 4, 2) := by decide +kernel
theorem d_Law_isAtMost_22 : decode b_Law_isAtMost 22 = .ok (.iconst 1, 1) := by decide +kernel
theorem d_Law_isAtMost_23 : decode b_Law_isAtMost 23 = .ok (.ireturn, 1) := by decide +kernel
theorem d_Law_isAtMost_24 : decode b_Law_isAtMost 24 = .ok (.iconst 0, 1) := by decide +kernel
theorem d_Law_isAtMost_25 : decode b_Law_isAtMost 25 = .ok (.ireturn, 1) := by decide +kernel
theorem d_Law_isSame_0 : decode b_Law_isSame 0 = .ok (.aload_n 3, 1) := by decide +kernel
theorem d_Law_isSame_1 : decode b_Law_isSame 1 = .ok (.iconst 0, 1) := by decide +kernel
theorem d_Law_isSame_2 : decode b_Law_isSame 2 = .ok (.aload_n 0, 1) := by decide +kernel
theorem d_Law_isSame_3 : decode b_Law_isSame 3 = .ok (.iload_n 1, 1) := by decide +kernel
theorem d_Law_isSame_4 : decode b_Law_isSame 4 = .ok (.iload_n 2, 1) := by decide +kernel
theorem d_Law_isSame_5 : decode b_Law_isSame 5 = .ok (.invokevirtual 41, 3) := by decide +kernel
theorem d_Law_isSame_8 : decode b_Law_isSame 8 = .ok (.ifCond .eq 7, 3) := by decide +kernel
theorem d_Law_isSame_11 : decode b_Law_isSame 11 = .ok (.lconst 1, 1) := by decide +kernel
theorem d_Law_isSame_12 : decode b_Law_isSame 12 = .ok (.goto 4, 3) := by decide +kernel
theorem d_Law_isSame_15 : decode b_Law_isSame 15 = .ok (.lconst 0, 1) := by decide +kernel
theorem d_Law_isSame_16 : decode b_Law_isSame 16 = .ok (.lastore, 1) := by decide +kernel
theorem d_Law_isSame_17 : decode b_Law_isSame 17 = .ok (.goto 7, 3) := by decide +kernel
theorem d_Law_isSame_20 : decode b_Law_isSame 20 = .ok (.astore 4, 2) := by decide +kernel
theorem d_Law_isSame_22 : decode b_Law_isSame 22 = .ok (.iconst 1, 1) := by decide +kernel
theorem d_Law_isSame_23 : decode b_Law_isSame 23 = .ok (.ireturn, 1) := by decide +kernel
theorem d_Law_isSame_24 : decode b_Law_isSame 24 = .ok (.iconst 0, 1) := by decide +kernel
theorem d_Law_isSame_25 : decode b_Law_isSame 25 = .ok (.ireturn, 1) := by decide +kernel
theorem d_Law_least_0 : decode b_Law_least 0 = .ok (.aload_n 2, 1) := by decide +kernel
theorem d_Law_least_1 : decode b_Law_least 1 = .ok (.iconst 0, 1) := by decide +kernel
theorem d_Law_least_2 : decode b_Law_least 2 = .ok (.aload_n 0, 1) := by decide +kernel
theorem d_Law_least_3 : decode b_Law_least 3 = .ok (.iload_n 1, 1) := by decide +kernel
theorem d_Law_least_4 : decode b_Law_least 4 = .ok (.invokevirtual 44, 3) := by decide +kernel
theorem d_Law_least_7 : decode b_Law_least 7 = .ok (.i2l, 1) := by decide +kernel
theorem d_Law_least_8 : decode b_Law_least 8 = .ok (.lastore, 1) := by decide +kernel
theorem d_Law_least_9 : decode b_Law_least 9 = .ok (.goto 6, 3) := by decide +kernel
theorem d_Law_least_12 : decode b_Law_least 12 = .ok (.astore_n 3, 1) := by decide +kernel
theorem d_Law_least_13 : decode b_Law_least 13 = .ok (.iconst 1, 1) := by decide +kernel
theorem d_Law_least_14 : decode b_Law_least 14 = .ok (.ireturn, 1) := by decide +kernel
theorem d_Law_least_15 : decode b_Law_least 15 = .ok (.iconst 0, 1) := by decide +kernel
theorem d_Law_least_16 : decode b_Law_least 16 = .ok (.ireturn, 1) := by decide +kernel
theorem d_Law_above_0 : decode b_Law_above 0 = .ok (.aload_n 3, 1) := by decide +kernel
theorem d_Law_above_1 : decode b_Law_above 1 = .ok (.iconst 0, 1) := by decide +kernel
theorem d_Law_above_2 : decode b_Law_above 2 = .ok (.aload_n 0, 1) := by decide +kernel
theorem d_Law_above_3 : decode b_Law_above 3 = .ok (.iload_n 1, 1) := by decide +kernel
theorem d_Law_above_4 : decode b_Law_above 4 = .ok (.iload_n 2, 1) := by decide +kernel
theorem d_Law_above_5 : decode b_Law_above 5 = .ok (.invokevirtual 47, 3) := by decide +kernel
theorem d_Law_above_8 : decode b_Law_above 8 = .ok (.lastore, 1) := by decide +kernel
theorem d_Law_above_9 : decode b_Law_above 9 = .ok (.goto 7, 3) := by decide +kernel
theorem d_Law_above_12 : decode b_Law_above 12 = .ok (.astore 4, 2) := by decide +kernel
theorem d_Law_above_14 : decode b_Law_above 14 = .ok (.iconst 1, 1) := by decide +kernel
theorem d_Law_above_15 : decode b_Law_above 15 = .ok (.ireturn, 1) := by decide +kernel
theorem d_Law_above_16 : decode b_Law_above 16 = .ok (.iconst 0, 1) := by decide +kernel
theorem d_Law_above_17 : decode b_Law_above 17 = .ok (.ireturn, 1) := by decide +kernel
theorem d_Law_unknown_0 : decode b_Law_unknown 0 = .ok (.aload_n 1, 1) := by decide +kernel
theorem d_Law_unknown_1 : decode b_Law_unknown 1 = .ok (.iconst 0, 1) := by decide +kernel
theorem d_Law_unknown_2 : decode b_Law_unknown 2 = .ok (.aload_n 0, 1) := by decide +kernel
theorem d_Law_unknown_3 : decode b_Law_unknown 3 = .ok (.invokevirtual 51, 3) := by decide +kernel
theorem d_Law_unknown_6 : decode b_Law_unknown 6 = .ok (.i2l, 1) := by decide +kernel
theorem d_Law_unknown_7 : decode b_Law_unknown 7 = .ok (.lastore, 1) := by decide +kernel
theorem d_Law_unknown_8 : decode b_Law_unknown 8 = .ok (.goto 6, 3) := by decide +kernel
theorem d_Law_unknown_11 : decode b_Law_unknown 11 = .ok (.astore_n 2, 1) := by decide +kernel
theorem d_Law_unknown_12 : decode b_Law_unknown 12 = .ok (.iconst 1, 1) := by decide +kernel
theorem d_Law_unknown_13 : decode b_Law_unknown 13 = .ok (.ireturn, 1) := by decide +kernel
theorem d_Law_unknown_14 : decode b_Law_unknown 14 = .ok (.iconst 0, 1) := by decide +kernel
theorem d_Law_unknown_15 : decode b_Law_unknown 15 = .ok (.ireturn, 1) := by decide +kernel
theorem d_Law_need_0 : decode b_Law_need 0 = .ok (.aload 4, 2) := by decide +kernel
theorem d_Law_need_2 : decode b_Law_need 2 = .ok (.iconst 0, 1) := by decide +kernel
theorem d_Law_need_3 : decode b_Law_need 3 = .ok (.aload_n 0, 1) := by decide +kernel
theorem d_Law_need_4 : decode b_Law_need 4 = .ok (.iload_n 1, 1) := by decide +kernel
theorem d_Law_need_5 : decode b_Law_need 5 = .ok (.iload_n 2, 1) := by decide +kernel
theorem d_Law_need_6 : decode b_Law_need 6 = .ok (.iload_n 3, 1) := by decide +kernel
theorem d_Law_need_7 : decode b_Law_need 7 = .ok (.invokevirtual 54, 3) := by decide +kernel
theorem d_Law_need_10 : decode b_Law_need 10 = .ok (.i2l, 1) := by decide +kernel
theorem d_Law_need_11 : decode b_Law_need 11 = .ok (.lastore, 1) := by decide +kernel
theorem d_Law_need_12 : decode b_Law_need 12 = .ok (.goto 15, 3) := by decide +kernel
theorem d_Law_need_15 : decode b_Law_need 15 = .ok (.astore 5, 2) := by decide +kernel
theorem d_Law_need_17 : decode b_Law_need 17 = .ok (.iconst 1, 1) := by decide +kernel
theorem d_Law_need_18 : decode b_Law_need 18 = .ok (.ireturn, 1) := by decide +kernel
theorem d_Law_need_19 : decode b_Law_need 19 = .ok (.astore 5, 2) := by decide +kernel
theorem d_Law_need_21 : decode b_Law_need 21 = .ok (.iconst 2, 1) := by decide +kernel
theorem d_Law_need_22 : decode b_Law_need 22 = .ok (.ireturn, 1) := by decide +kernel
theorem d_Law_need_23 : decode b_Law_need 23 = .ok (.astore 5, 2) := by decide +kernel
theorem d_Law_need_25 : decode b_Law_need 25 = .ok (.iconst 3, 1) := by decide +kernel
theorem d_Law_need_26 : decode b_Law_need 26 = .ok (.ireturn, 1) := by decide +kernel
theorem d_Law_need_27 : decode b_Law_need 27 = .ok (.iconst 0, 1) := by decide +kernel
theorem d_Law_need_28 : decode b_Law_need 28 = .ok (.ireturn, 1) := by decide +kernel
