theorem d_L_days_0 : decode b_L_days 0 = .ok (.aload_n 0, 1) := by decide +kernel
theorem d_L_days_1 : decode b_L_days 1 = .ok (.iload_n 1, 1) := by decide +kernel
theorem d_L_days_2 : decode b_L_days 2 = .ok (.invokevirtual 7, 3) := by decide +kernel
theorem d_L_days_5 : decode b_L_days 5 = .ok (.goto 6, 3) := by decide +kernel
theorem d_L_days_8 : decode b_L_days 8 = .ok (.astore_n 2, 1) := by decide +kernel
theorem d_L_days_9 : decode b_L_days 9 = .ok (.iconst 1, 1) := by decide +kernel
theorem d_L_days_10 : decode b_L_days 10 = .ok (.ireturn, 1) := by decide +kernel
theorem d_L_days_11 : decode b_L_days 11 = .ok (.iconst 0, 1) := by decide +kernel
theorem d_L_days_12 : decode b_L_days 12 = .ok (.ireturn, 1) := by decide +kernel
theorem d_L_person_0 : decode b_L_person 0 = .ok (.aload_n 3, 1) := by decide +kernel
theorem d_L_person_1 : decode b_L_person 1 = .ok (.iconst 0, 1) := by decide +kernel
theorem d_L_person_2 : decode b_L_person 2 = .ok (.aload_n 0, 1) := by decide +kernel
theorem d_L_person_3 : decode b_L_person 3 = .ok (.iload_n 1, 1) := by decide +kernel
theorem d_L_person_4 : decode b_L_person 4 = .ok (.iload_n 2, 1) := by decide +kernel
theorem d_L_person_5 : decode b_L_person 5 = .ok (.invokevirtual 15, 3) := by decide +kernel
theorem d_L_person_8 : decode b_L_person 8 = .ok (.i2l, 1) := by decide +kernel
theorem d_L_person_9 : decode b_L_person 9 = .ok (.lastore, 1) := by decide +kernel
theorem d_L_person_10 : decode b_L_person 10 = .ok (.goto 11, 3) := by decide +kernel
theorem d_L_person_13 : decode b_L_person 13 = .ok (.astore 4, 2) := by decide +kernel
theorem d_L_person_15 : decode b_L_person 15 = .ok (.iconst 1, 1) := by decide +kernel
theorem d_L_person_16 : decode b_L_person 16 = .ok (.ireturn, 1) := by decide +kernel
theorem d_L_person_17 : decode b_L_person 17 = .ok (.astore 4, 2) := by decide +kernel
theorem d_L_person_19 : decode b_L_person 19 = .ok (.iconst 2, 1) := by decide +kernel
theorem d_L_person_20 : decode b_L_person 20 = .ok (.ireturn, 1) := by decide +kernel
theorem d_L_person_21 : decode b_L_person 21 = .ok (.iconst 0, 1) := by decide +kernel
theorem d_L_person_22 : decode b_L_person 22 = .ok (.ireturn, 1) := by decide +kernel
theorem d_L_need_0 : decode b_L_need 0 = .ok (.aload_n 0, 1) := by decide +kernel
theorem d_L_need_1 : decode b_L_need 1 = .ok (.iload_n 1, 1) := by decide +kernel
theorem d_L_need_2 : decode b_L_need 2 = .ok (.iload_n 2, 1) := by decide +kernel
theorem d_L_need_3 : decode b_L_need 3 = .ok (.iload_n 3, 1) := by decide +kernel
theorem d_L_need_4 : decode b_L_need 4 = .ok (.iload 4, 2) := by decide +kernel
theorem d_L_need_6 : decode b_L_need 6 = .ok (.invokevirtual 21, 3) := by decide +kernel
theorem d_L_need_9 : decode b_L_need 9 = .ok (.goto 11, 3) := by decide +kernel
theorem d_L_need_12 : decode b_L_need 12 = .ok (.astore 5, 2) := by decide +kernel
theorem d_L_need_14 : decode b_L_need 14 = .ok (.iconst 1, 1) := by decide +kernel
theorem d_L_need_15 : decode b_L_need 15 = .ok (.ireturn, 1) := by decide +kernel
theorem d_L_need_16 : decode b_L_need 16 = .ok (.astore 5, 2) := by decide +kernel
theorem d_L_need_18 : decode b_L_need 18 = .ok (.iconst 2, 1) := by decide +kernel
theorem d_L_need_19 : decode b_L_need 19 = .ok (.ireturn, 1) := by decide +kernel
theorem d_L_need_20 : decode b_L_need 20 = .ok (.iconst 0, 1) := by decide +kernel
theorem d_L_need_21 : decode b_L_need 21 = .ok (.ireturn, 1) := by decide +kernel
theorem d_L_rules_0 : decode b_L_rules 0 = .ok (.aload_n 0, 1) := by decide +kernel
theorem d_L_rules_1 : decode b_L_rules 1 = .ok (.iload_n 1, 1) := by decide +kernel
theorem d_L_rules_2 : decode b_L_rules 2 = .ok (.iload_n 2, 1) := by decide +kernel
theorem d_L_rules_3 : decode b_L_rules 3 = .ok (.iload_n 3, 1) := by decide +kernel
theorem d_L_rules_4 : decode b_L_rules 4 = .ok (.invokevirtual 27, 3) := by decide +kernel
theorem d_L_rules_7 : decode b_L_rules 7 = .ok (.goto 7, 3) := by decide +kernel
theorem d_L_rules_10 : decode b_L_rules 10 = .ok (.astore 4, 2) := by decide +kernel
theorem d_L_rules_12 : decode b_L_rules 12 = .ok (.iconst 1, 1) := by decide +kernel
theorem d_L_rules_13 : decode b_L_rules 13 = .ok (.ireturn, 1) := by decide +kernel
theorem d_L_rules_14 : decode b_L_rules 14 = .ok (.iconst 0, 1) := by decide +kernel
theorem d_L_rules_15 : decode b_L_rules 15 = .ok (.ireturn, 1) := by decide +kernel
theorem d_L_bar_0 : decode b_L_bar 0 = .ok (.aload_n 0, 1) := by decide +kernel
theorem d_L_bar_1 : decode b_L_bar 1 = .ok (.iload_n 1, 1) := by decide +kernel
theorem d_L_bar_2 : decode b_L_bar 2 = .ok (.iload_n 2, 1) := by decide +kernel
theorem d_L_bar_3 : decode b_L_bar 3 = .ok (.iload_n 3, 1) := by decide +kernel
theorem d_L_bar_4 : decode b_L_bar 4 = .ok (.iload 4, 2) := by decide +kernel
theorem d_L_bar_6 : decode b_L_bar 6 = .ok (.invokevirtual 31, 3) := by decide +kernel
theorem d_L_bar_9 : decode b_L_bar 9 = .ok (.goto 7, 3) := by decide +kernel
theorem d_L_bar_12 : decode b_L_bar 12 = .ok (.astore 5, 2) := by decide +kernel
theorem d_L_bar_14 : decode b_L_bar 14 = .ok (.iconst 1, 1) := by decide +kernel
theorem d_L_bar_15 : decode b_L_bar 15 = .ok (.ireturn, 1) := by decide +kernel
theorem d_L_bar_16 : decode b_L_bar 16 = .ok (.iconst 0, 1) := by decide +kernel
theorem d_L_bar_17 : decode b_L_bar 17 = .ok (.ireturn, 1) := by decide +kernel
theorem d_L_wish_0 : decode b_L_wish 0 = .ok (.aload 6, 2) := by decide +kernel
theorem d_L_wish_2 : decode b_L_wish 2 = .ok (.iconst 0, 1) := by decide +kernel
theorem d_L_wish_3 : decode b_L_wish 3 = .ok (.aload_n 0, 1) := by decide +kernel
theorem d_L_wish_4 : decode b_L_wish 4 = .ok (.iload_n 1, 1) := by decide +kernel
theorem d_L_wish_5 : decode b_L_wish 5 = .ok (.iload_n 2, 1) := by decide +kernel
theorem d_L_wish_6 : decode b_L_wish 6 = .ok (.iload_n 3, 1) := by decide +kernel
theorem d_L_wish_7 : decode b_L_wish 7 = .ok (.iload 4, 2) := by decide +kernel
theorem d_L_wish_9 : decode b_L_wish 9 = .ok (.iload 5, 2) := by decide +kernel
theorem d_L_wish_11 : decode b_L_wish 11 = .ok (.invokevirtual 35, 3) := by decide +kernel
theorem d_L_wish_14 : decode b_L_wish 14 = .ok (.i2l, 1) := by decide +kernel
theorem d_L_wish_15 : decode b_L_wish 15 = .ok (.lastore, 1) := by decide +kernel
theorem d_L_wish_16 : decode b_L_wish 16 = .ok (.goto 19, 3) := by decide +kernel
theorem d_L_wish_19 : decode b_L_wish 19 = .ok (.astore 7, 2) := by decide +kernel
theorem d_L_wish_21 : decode b_L_wish 21 = .ok (.iconst 1, 1) := by decide +kernel
theorem d_L_wish_22 : decode b_L_wish 22 = .ok (.ireturn, 1) := by decide +kernel
theorem d_L_wish_23 : decode b_L_wish 23 = .ok (.astore 7, 2) := by decide +kernel
theorem d_L_wish_25 : decode b_L_wish 25 = .ok (.iconst 2, 1) := by decide +kernel
theorem d_L_wish_26 : decode b_L_wish 26 = .ok (.ireturn, 1) := by decide +kernel
theorem d_L_wish_27 : decode b_L_wish 27 = .ok (.astore 7, 2) := by decide +kernel
theorem d_L_wish_29 : decode b_L_wish 29 = .ok (.iconst 3, 1) := by decide +kernel
theorem d_L_wish_30 : decode b_L_wish 30 = .ok (.ireturn, 1) := by decide +kernel
theorem d_L_wish_31 : decode b_L_wish 31 = .ok (.astore 7, 2) := by decide +kernel
theorem d_L_wish_33 : decode b_L_wish 33 = .ok (.iconst 4, 1) := by decide +kernel
theorem d_L_wish_34 : decode b_L_wish 34 = .ok (.ireturn, 1) := by decide +kernel
theorem d_L_wish_35 : decode b_L_wish 35 = .ok (.iconst 0, 1) := by decide +kernel
theorem d_L_wish_36 : decode b_L_wish 36 = .ok (.ireturn, 1) := by decide +kernel
theorem d_L_freeze_0 : decode b_L_freeze 0 = .ok (.aload_n 0, 1) := by decide +kernel
theorem d_L_freeze_1 : decode b_L_freeze 1 = .ok (.iload_n 1, 1) := by decide +kernel
theorem d_L_freeze_2 : decode b_L_freeze 2 = .ok (.invokevirtual 41, 3) := by decide +kernel
theorem d_L_freeze_5 : decode b_L_freeze 5 = .ok (.goto 6, 3) := by decide +kernel
theorem d_L_freeze_8 : decode b_L_freeze 8 = .ok (.astore_n 2, 1) := by decide +kernel
theorem d_L_freeze_9 : decode b_L_freeze 9 = .ok (.iconst 1, 1) := by decide +kernel
theorem d_L_freeze_10 : decode b_L_freeze 10 = .ok (.ireturn, 1) := by decide +kernel
theorem d_L_freeze_11 : decode b_L_freeze 11 = .ok (.iconst 0, 1) := by decide +kernel
theorem d_L_freeze_12 : decode b_L_freeze 12 = .ok (.ireturn, 1) := by decide +kernel
theorem d_L_set_0 : decode b_L_set 0 = .ok (.aload_n 0, 1) := by decide +kernel
theorem d_L_set_1 : decode b_L_set 1 = .ok (.iload_n 1, 1) := by decide +kernel
theorem d_L_set_2 : decode b_L_set 2 = .ok (.iload_n 2, 1) := by decide +kernel
theorem d_L_set_3 : decode b_L_set 3 = .ok (.iload_n 3, 1) := by decide +kernel
theorem d_L_set_4 : decode b_L_set 4 = .ok (.invokevirtual 44, 3) := by decide +kernel
theorem d_L_set_7 : decode b_L_set 7 = .ok (.goto 11, 3) := by decide +kernel
theorem d_L_set_10 : decode b_L_set 10 = .ok (.astore 4, 2) := by decide +kernel
theorem d_L_set_12 : decode b_L_set 12 = .ok (.iconst 1, 1) := by decide +kernel
theorem d_L_set_13 : decode b_L_set 13 = .ok (.ireturn, 1) := by decide +kernel
theorem d_L_set_14 : decode b_L_set 14 = .ok (.astore 4, 2) := by decide +kernel
theorem d_L_set_16 : decode b_L_set 16 = .ok (.iconst 2, 1) := by decide +kernel
theorem d_L_set_17 : decode b_L_set 17 = .ok (.ireturn, 1) := by decide +kernel
theorem d_L_set_18 : decode b_L_set 18 = .ok (.iconst 0, 1) := by decide +kernel
theorem d_L_set_19 : decode b_L_set 19 = .ok (.ireturn, 1) := by decide +kernel
theorem d_L_solve_0 : decode b_L_solve 0 = .ok (.aload_n 2, 1) := by decide +kernel
theorem d_L_solve_1 : decode b_L_solve 1 = .ok (.iconst 0, 1) := by decide +kernel
theorem d_L_solve_2 : decode b_L_solve 2 = .ok (.aload_n 0, 1) := by decide +kernel
theorem d_L_solve_3 : decode b_L_solve 3 = .ok (.iload_n 1, 1) := by decide +kernel
theorem d_L_solve_4 : decode b_L_solve 4 = .ok (.invokevirtual 47, 3) := by decide +kernel
theorem d_L_solve_7 : decode b_L_solve 7 = .ok (.i2l, 1) := by decide +kernel
theorem d_L_solve_8 : decode b_L_solve 8 = .ok (.lastore, 1) := by decide +kernel
theorem d_L_solve_9 : decode b_L_solve 9 = .ok (.goto 6, 3) := by decide +kernel
theorem d_L_solve_12 : decode b_L_solve 12 = .ok (.astore_n 3, 1) := by decide +kernel
theorem d_L_solve_13 : decode b_L_solve 13 = .ok (.iconst 1, 1) := by decide +kernel
theorem d_L_solve_14 : decode b_L_solve 14 = .ok (.ireturn, 1) := by decide +kernel
theorem d_L_solve_15 : decode b_L_solve 15 = .ok (.iconst 0, 1) := by decide +kernel
theorem d_L_solve_16 : decode b_L_solve 16 = .ok (.ireturn, 1) := by decide +kernel
theorem d_L_solved_0 : decode b_L_solved 0 = .ok (.aload_n 2, 1) := by decide +kernel
theorem d_L_solved_1 : decode b_L_solved 1 = .ok (.iconst 0, 1) := by decide +kernel
theorem d_L_solved_2 : decode b_L_solved 2 = .ok (.aload_n 0, 1) := by decide +kernel
theorem d_L_solved_3 : decode b_L_solved 3 = .ok (.iload_n 1, 1) := by decide +kernel
theorem d_L_solved_4 : decode b_L_solved 4 = .ok (.invokevirtual 51, 3) := by decide +kernel
theorem d_L_solved_7 : decode b_L_solved 7 = .ok (.i2l, 1) := by decide +kernel
theorem d_L_solved_8 : decode b_L_solved 8 = .ok (.lastore, 1) := by decide +kernel
theorem d_L_solved_9 : decode b_L_solved 9 = .ok (.goto 6, 3) := by decide +kernel
theorem d_L_solved_12 : decode b_L_solved 12 = .ok (.astore_n 3, 1) := by decide +kernel
theorem d_L_solved_13 : decode b_L_solved 13 = .ok (.iconst 1, 1) := by decide +kernel
theorem d_L_solved_14 : decode b_L_solved 14 = .ok (.ireturn, 1) := by decide +kernel
theorem d_L_solved_15 : decode b_L_solved 15 = .ok (.iconst 0, 1) := by decide +kernel
theorem d_L_solved_16 : decode b_L_solved 16 = .ok (.ireturn, 1) := by decide +kernel
theorem d_L_swap_0 : decode b_L_swap 0 = .ok (.aload_n 0, 1) := by decide +kernel
theorem d_L_swap_1 : decode b_L_swap 1 = .ok (.iload_n 1, 1) := by decide +kernel
theorem d_L_swap_2 : decode b_L_swap 2 = .ok (.iload_n 2, 1) := by decide +kernel
theorem d_L_swap_3 : decode b_L_swap 3 = .ok (.iload_n 3, 1) := by decide +kernel
theorem d_L_swap_4 : decode b_L_swap 4 = .ok (.invokevirtual 54, 3) := by decide +kernel
theorem d_L_swap_7 : decode b_L_swap 7 = .ok (.goto 11, 3) := by decide +kernel
theorem d_L_swap_10 : decode b_L_swap 10 = .ok (.astore 4, 2) := by decide +kernel
theorem d_L_swap_12 : decode b_L_swap 12 = .ok (.iconst 1, 1) := by decide +kernel
theorem d_L_swap_13 : decode b_L_swap 13 = .ok (.ireturn, 1) := by decide +kernel
theorem d_L_swap_14 : decode b_L_swap 14 = .ok (.astore 4, 2) := by decide +kernel
theorem d_L_swap_16 : decode b_L_swap 16 = .ok (.iconst 2, 1) := by decide +kernel
theorem d_L_swap_17 : decode b_L_swap 17 = .ok (.ireturn, 1) := by decide +kernel
theorem d_L_swap_18 : decode b_L_swap 18 = .ok (.iconst 0, 1) := by decide +kernel
theorem d_L_swap_19 : decode b_L_swap 19 = .ok (.ireturn, 1) := by decide +kernel
theorem d_L_shift_0 : decode b_L_shift 0 = .ok (.aload_n 3, 1) := by decide +kernel
theorem d_L_shift_1 : decode b_L_shift 1 = .ok (.iconst 0, 1) := by decide +kernel
theorem d_L_shift_2 : decode b_L_shift 2 = .ok (.aload_n 0, 1) := by decide +kernel
theorem d_L_shift_3 : decode b_L_shift 3 = .ok (.iload_n 1, 1) := by decide +kernel
theorem d_L_shift_4 : decode b_L_shift 4 = .ok (.iload_n 2, 1) := by decide +kernel
theorem d_L_shift_5 : decode b_L_shift 5 = .ok (.invokevirtual 57, 3) := by decide +kernel
theorem d_L_shift_8 : decode b_L_shift 8 = .ok (.i2l, 1) := by decide +kernel
theorem d_L_shift_9 : decode b_L_shift 9 = .ok (.lastore, 1) := by decide +kernel
theorem d_L_shift_10 : decode b_L_shift 10 = .ok (.goto 7, 3) := by decide +kernel
theorem d_L_shift_13 : decode b_L_shift 13 = .ok (.astore 4, 2) := by decide +kernel
theorem d_L_shift_15 : decode b_L_shift 15 = .ok (.iconst 1, 1) := by decide +kernel
theorem d_L_shift_16 : decode b_L_shift 16 = .ok (.ireturn, 1) := by decide +kernel
theorem d_L_shift_17 : decode b_L_shift 17 = .ok (.iconst 0, 1) := by decide +kernel
theorem d_L_shift_18 : decode b_L_shift 18 = .ok (.ireturn, 1) := by decide +kernel
theorem d_L_share_0 : decode b_L_share 0 = .ok (.aload_n 2, 1) := by decide +kernel
theorem d_L_share_1 : decode b_L_share 1 = .ok (.iconst 0, 1) := by decide +kernel
theorem d_L_share_2 : decode b_L_share 2 = .ok (.aload_n 0, 1) := by decide +kernel
theorem d_L_share_3 : decode b_L_share 3 = .ok (.iload_n 1, 1) := by decide +kernel
theorem d_L_share_4 : decode b_L_share 4 = .ok (.invokevirtual 60, 3) := by decide +kernel
theorem d_L_share_7 : decode b_L_share 7 = .ok (.i2l, 1) := by decide +kernel
theorem d_L_share_8 : decode b_L_share 8 = .ok (.lastore, 1) := by decide +kernel
theorem d_L_share_9 : decode b_L_share 9 = .ok (.goto 9, 3) := by decide +kernel
theorem d_L_share_12 : decode b_L_share 12 = .ok (.astore_n 3, 1) := by decide +kernel
theorem d_L_share_13 : decode b_L_share 13 = .ok (.iconst 1, 1) := by decide +kernel
theorem d_L_share_14 : decode b_L_share 14 = .ok (.ireturn, 1) := by decide +kernel
theorem d_L_share_15 : decode b_L_share 15 = .ok (.astore_n 3, 1) := by decide +kernel
theorem d_L_share_16 : decode b_L_share 16 = .ok (.iconst 2, 1) := by decide +kernel
theorem d_L_share_17 : decode b_L_share 17 = .ok (.ireturn, 1) := by decide +kernel
theorem d_L_share_18 : decode b_L_share 18 = .ok (.iconst 0, 1) := by decide +kernel
theorem d_L_share_19 : decode b_L_share 19 = .ok (.ireturn, 1) := by decide +kernel
theorem d_L_count_0 : decode b_L_count 0 = .ok (.aload_n 2, 1) := by decide +kernel
theorem d_L_count_1 : decode b_L_count 1 = .ok (.iconst 0, 1) := by decide +kernel
theorem d_L_count_2 : decode b_L_count 2 = .ok (.aload_n 0, 1) := by decide +kernel
theorem d_L_count_3 : decode b_L_count 3 = .ok (.iload_n 1, 1) := by decide +kernel
theorem d_L_count_4 : decode b_L_count 4 = .ok (.invokevirtual 65, 3) := by decide +kernel
theorem d_L_count_7 : decode b_L_count 7 = .ok (.i2l, 1) := by decide +kernel
theorem d_L_count_8 : decode b_L_count 8 = .ok (.lastore, 1) := by decide +kernel
theorem d_L_count_9 : decode b_L_count 9 = .ok (.goto 6, 3) := by decide +kernel
theorem d_L_count_12 : decode b_L_count 12 = .ok (.astore_n 3, 1) := by decide +kernel
theorem d_L_count_13 : decode b_L_count 13 = .ok (.iconst 1, 1) := by decide +kernel
theorem d_L_count_14 : decode b_L_count 14 = .ok (.ireturn, 1) := by decide +kernel
theorem d_L_count_15 : decode b_L_count 15 = .ok (.iconst 0, 1) := by decide +kernel
theorem d_L_count_16 : decode b_L_count 16 = .ok (.ireturn, 1) := by decide +kernel
