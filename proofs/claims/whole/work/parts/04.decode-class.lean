theorem d_R_init_0 : decode b_R_init 0 = .ok (.aload_n 0, 1) := by decide +kernel
theorem d_R_init_1 : decode b_R_init 1 = .ok (.invokespecial 3, 3) := by decide +kernel
theorem d_R_init_4 : decode b_R_init 4 = .ok (.aload_n 0, 1) := by decide +kernel
theorem d_R_init_5 : decode b_R_init 5 = .ok (.new 9, 3) := by decide +kernel
theorem d_R_init_8 : decode b_R_init 8 = .ok (.dup, 1) := by decide +kernel
theorem d_R_init_9 : decode b_R_init 9 = .ok (.invokespecial 11, 3) := by decide +kernel
theorem d_R_init_12 : decode b_R_init 12 = .ok (.putfield 12, 3) := by decide +kernel
theorem d_R_init_15 : decode b_R_init 15 = .ok (.aload_n 0, 1) := by decide +kernel
theorem d_R_init_16 : decode b_R_init 16 = .ok (.new 16, 3) := by decide +kernel
theorem d_R_init_19 : decode b_R_init 19 = .ok (.dup, 1) := by decide +kernel
theorem d_R_init_20 : decode b_R_init 20 = .ok (.aload_n 0, 1) := by decide +kernel
theorem d_R_init_21 : decode b_R_init 21 = .ok (.getfield 12, 3) := by decide +kernel
theorem d_R_init_24 : decode b_R_init 24 = .ok (.invokespecial 18, 3) := by decide +kernel
theorem d_R_init_27 : decode b_R_init 27 = .ok (.putfield 21, 3) := by decide +kernel
theorem d_R_init_30 : decode b_R_init 30 = .ok (.aload_n 0, 1) := by decide +kernel
theorem d_R_init_31 : decode b_R_init 31 = .ok (.bipush 42, 2) := by decide +kernel
theorem d_R_init_33 : decode b_R_init 33 = .ok (.newarray .int, 2) := by decide +kernel
theorem d_R_init_35 : decode b_R_init 35 = .ok (.putfield 25, 3) := by decide +kernel
theorem d_R_init_38 : decode b_R_init 38 = .ok (.aload_n 0, 1) := by decide +kernel
theorem d_R_init_39 : decode b_R_init 39 = .ok (.bipush 42, 2) := by decide +kernel
theorem d_R_init_41 : decode b_R_init 41 = .ok (.newarray .int, 2) := by decide +kernel
theorem d_R_init_43 : decode b_R_init 43 = .ok (.putfield 29, 3) := by decide +kernel
theorem d_R_init_46 : decode b_R_init 46 = .ok (.aload_n 0, 1) := by decide +kernel
theorem d_R_init_47 : decode b_R_init 47 = .ok (.iconst 0, 1) := by decide +kernel
theorem d_R_init_48 : decode b_R_init 48 = .ok (.putfield 32, 3) := by decide +kernel
theorem d_R_init_51 : decode b_R_init 51 = .ok (.aload_n 0, 1) := by decide +kernel
theorem d_R_init_52 : decode b_R_init 52 = .ok (.iconst 0, 1) := by decide +kernel
theorem d_R_init_53 : decode b_R_init 53 = .ok (.putfield 36, 3) := by decide +kernel
theorem d_R_init_56 : decode b_R_init 56 = .ok (.return_, 1) := by decide +kernel
theorem d_R_days_0 : decode b_R_days 0 = .ok (.iload_n 1, 1) := by decide +kernel
theorem d_R_days_1 : decode b_R_days 1 = .ok (.iconst 0, 1) := by decide +kernel
theorem d_R_days_2 : decode b_R_days 2 = .ok (.bipush 7, 2) := by decide +kernel
theorem d_R_days_4 : decode b_R_days 4 = .ok (.invokestatic 39, 3) := by decide +kernel
theorem d_R_days_7 : decode b_R_days 7 = .ok (.aload_n 0, 1) := by decide +kernel
theorem d_R_days_8 : decode b_R_days 8 = .ok (.getfield 12, 3) := by decide +kernel
theorem d_R_days_11 : decode b_R_days 11 = .ok (.iload_n 1, 1) := by decide +kernel
theorem d_R_days_12 : decode b_R_days 12 = .ok (.invokevirtual 43, 3) := by decide +kernel
theorem d_R_days_15 : decode b_R_days 15 = .ok (.aload_n 0, 1) := by decide +kernel
theorem d_R_days_16 : decode b_R_days 16 = .ok (.getfield 25, 3) := by decide +kernel
theorem d_R_days_19 : decode b_R_days 19 = .ok (.invokestatic 47, 3) := by decide +kernel
theorem d_R_days_22 : decode b_R_days 22 = .ok (.aload_n 0, 1) := by decide +kernel
theorem d_R_days_23 : decode b_R_days 23 = .ok (.iconst 0, 1) := by decide +kernel
theorem d_R_days_24 : decode b_R_days 24 = .ok (.putfield 32, 3) := by decide +kernel
theorem d_R_days_27 : decode b_R_days 27 = .ok (.return_, 1) := by decide +kernel
theorem d_R_person_0 : decode b_R_person 0 = .ok (.iload_n 1, 1) := by decide +kernel
theorem d_R_person_1 : decode b_R_person 1 = .ok (.iconst 0, 1) := by decide +kernel
theorem d_R_person_2 : decode b_R_person 2 = .ok (.bipush 15, 2) := by decide +kernel
theorem d_R_person_4 : decode b_R_person 4 = .ok (.invokestatic 39, 3) := by decide +kernel
theorem d_R_person_7 : decode b_R_person 7 = .ok (.iload_n 2, 1) := by decide +kernel
theorem d_R_person_8 : decode b_R_person 8 = .ok (.iconst 0, 1) := by decide +kernel
theorem d_R_person_9 : decode b_R_person 9 = .ok (.sipush 10000, 3) := by decide +kernel
theorem d_R_person_12 : decode b_R_person 12 = .ok (.invokestatic 39, 3) := by decide +kernel
theorem d_R_person_15 : decode b_R_person 15 = .ok (.aload_n 0, 1) := by decide +kernel
theorem d_R_person_16 : decode b_R_person 16 = .ok (.getfield 12, 3) := by decide +kernel
theorem d_R_person_19 : decode b_R_person 19 = .ok (.getfield 51, 3) := by decide +kernel
theorem d_R_person_22 : decode b_R_person 22 = .ok (.bipush 6, 2) := by decide +kernel
theorem d_R_person_24 : decode b_R_person 24 = .ok (.invokestatic 54, 3) := by decide +kernel
theorem d_R_person_27 : decode b_R_person 27 = .ok (.aload_n 0, 1) := by decide +kernel
theorem d_R_person_28 : decode b_R_person 28 = .ok (.getfield 12, 3) := by decide +kernel
theorem d_R_person_31 : decode b_R_person 31 = .ok (.iload_n 1, 1) := by decide +kernel
theorem d_R_person_32 : decode b_R_person 32 = .ok (.iload_n 2, 1) := by decide +kernel
theorem d_R_person_33 : decode b_R_person 33 = .ok (.invokevirtual 58, 3) := by decide +kernel
theorem d_R_person_36 : decode b_R_person 36 = .ok (.ireturn, 1) := by decide +kernel
theorem d_R_need_0 : decode b_R_need 0 = .ok (.aload_n 0, 1) := by decide +kernel
theorem d_R_need_1 : decode b_R_need 1 = .ok (.iload_n 1, 1) := by decide +kernel
theorem d_R_need_2 : decode b_R_need 2 = .ok (.invokevirtual 62, 3) := by decide +kernel
theorem d_R_need_5 : decode b_R_need 5 = .ok (.iload_n 2, 1) := by decide +kernel
theorem d_R_need_6 : decode b_R_need 6 = .ok (.iconst 1, 1) := by decide +kernel
theorem d_R_need_7 : decode b_R_need 7 = .ok (.iconst 3, 1) := by decide +kernel
theorem d_R_need_8 : decode b_R_need 8 = .ok (.invokestatic 65, 3) := by decide +kernel
theorem d_R_need_11 : decode b_R_need 11 = .ok (.iload_n 3, 1) := by decide +kernel
theorem d_R_need_12 : decode b_R_need 12 = .ok (.iconst 0, 1) := by decide +kernel
theorem d_R_need_13 : decode b_R_need 13 = .ok (.bipush 6, 2) := by decide +kernel
theorem d_R_need_15 : decode b_R_need 15 = .ok (.invokestatic 39, 3) := by decide +kernel
theorem d_R_need_18 : decode b_R_need 18 = .ok (.iload 4, 2) := by decide +kernel
theorem d_R_need_20 : decode b_R_need 20 = .ok (.iconst 0, 1) := by decide +kernel
theorem d_R_need_21 : decode b_R_need 21 = .ok (.bipush 15, 2) := by decide +kernel
theorem d_R_need_23 : decode b_R_need 23 = .ok (.invokestatic 39, 3) := by decide +kernel
theorem d_R_need_26 : decode b_R_need 26 = .ok (.aload_n 0, 1) := by decide +kernel
theorem d_R_need_27 : decode b_R_need 27 = .ok (.getfield 12, 3) := by decide +kernel
theorem d_R_need_30 : decode b_R_need 30 = .ok (.iload_n 1, 1) := by decide +kernel
theorem d_R_need_31 : decode b_R_need 31 = .ok (.iload_n 2, 1) := by decide +kernel
theorem d_R_need_32 : decode b_R_need 32 = .ok (.iload_n 3, 1) := by decide +kernel
theorem d_R_need_33 : decode b_R_need 33 = .ok (.iload 4, 2) := by decide +kernel
theorem d_R_need_35 : decode b_R_need 35 = .ok (.invokevirtual 68, 3) := by decide +kernel
theorem d_R_need_38 : decode b_R_need 38 = .ok (.return_, 1) := by decide +kernel
theorem d_R_rules_0 : decode b_R_rules 0 = .ok (.iload_n 1, 1) := by decide +kernel
theorem d_R_rules_1 : decode b_R_rules 1 = .ok (.iconst 0, 1) := by decide +kernel
theorem d_R_rules_2 : decode b_R_rules 2 = .ok (.bipush 24, 2) := by decide +kernel
theorem d_R_rules_4 : decode b_R_rules 4 = .ok (.invokestatic 39, 3) := by decide +kernel
theorem d_R_rules_7 : decode b_R_rules 7 = .ok (.iload_n 2, 1) := by decide +kernel
theorem d_R_rules_8 : decode b_R_rules 8 = .ok (.iconst 0, 1) := by decide +kernel
theorem d_R_rules_9 : decode b_R_rules 9 = .ok (.bipush 7, 2) := by decide +kernel
theorem d_R_rules_11 : decode b_R_rules 11 = .ok (.invokestatic 39, 3) := by decide +kernel
theorem d_R_rules_14 : decode b_R_rules 14 = .ok (.iload_n 3, 1) := by decide +kernel
theorem d_R_rules_15 : decode b_R_rules 15 = .ok (.iconst 0, 1) := by decide +kernel
theorem d_R_rules_16 : decode b_R_rules 16 = .ok (.bipush 7, 2) := by decide +kernel
theorem d_R_rules_18 : decode b_R_rules 18 = .ok (.invokestatic 39, 3) := by decide +kernel
theorem d_R_rules_21 : decode b_R_rules 21 = .ok (.aload_n 0, 1) := by decide +kernel
theorem d_R_rules_22 : decode b_R_rules 22 = .ok (.getfield 12, 3) := by decide +kernel
theorem d_R_rules_25 : decode b_R_rules 25 = .ok (.iload_n 1, 1) := by decide +kernel
theorem d_R_rules_26 : decode b_R_rules 26 = .ok (.iload_n 2, 1) := by decide +kernel
theorem d_R_rules_27 : decode b_R_rules 27 = .ok (.iload_n 3, 1) := by decide +kernel
theorem d_R_rules_28 : decode b_R_rules 28 = .ok (.invokevirtual 72, 3) := by decide +kernel
theorem d_R_rules_31 : decode b_R_rules 31 = .ok (.return_, 1) := by decide +kernel
theorem d_R_bar_0 : decode b_R_bar 0 = .ok (.aload_n 0, 1) := by decide +kernel
theorem d_R_bar_1 : decode b_R_bar 1 = .ok (.iload_n 1, 1) := by decide +kernel
theorem d_R_bar_2 : decode b_R_bar 2 = .ok (.invokevirtual 75, 3) := by decide +kernel
theorem d_R_bar_5 : decode b_R_bar 5 = .ok (.aload_n 0, 1) := by decide +kernel
theorem d_R_bar_6 : decode b_R_bar 6 = .ok (.iload_n 2, 1) := by decide +kernel
theorem d_R_bar_7 : decode b_R_bar 7 = .ok (.invokevirtual 62, 3) := by decide +kernel
theorem d_R_bar_10 : decode b_R_bar 10 = .ok (.iload_n 3, 1) := by decide +kernel
theorem d_R_bar_11 : decode b_R_bar 11 = .ok (.iconst 1, 1) := by decide +kernel
theorem d_R_bar_12 : decode b_R_bar 12 = .ok (.iconst 3, 1) := by decide +kernel
theorem d_R_bar_13 : decode b_R_bar 13 = .ok (.invokestatic 65, 3) := by decide +kernel
theorem d_R_bar_16 : decode b_R_bar 16 = .ok (.aload_n 0, 1) := by decide +kernel
theorem d_R_bar_17 : decode b_R_bar 17 = .ok (.getfield 12, 3) := by decide +kernel
theorem d_R_bar_20 : decode b_R_bar 20 = .ok (.getfield 78, 3) := by decide +kernel
theorem d_R_bar_23 : decode b_R_bar 23 = .ok (.iload_n 1, 1) := by decide +kernel
theorem d_R_bar_24 : decode b_R_bar 24 = .ok (.iload_n 2, 1) := by decide +kernel
theorem d_R_bar_25 : decode b_R_bar 25 = .ok (.iload_n 3, 1) := by decide +kernel
theorem d_R_bar_26 : decode b_R_bar 26 = .ok (.invokestatic 82, 3) := by decide +kernel
theorem d_R_bar_29 : decode b_R_bar 29 = .ok (.iload 4, 2) := by decide +kernel
theorem d_R_bar_31 : decode b_R_bar 31 = .ok (.bastore, 1) := by decide +kernel
theorem d_R_bar_32 : decode b_R_bar 32 = .ok (.return_, 1) := by decide +kernel
theorem d_R_wish_0 : decode b_R_wish 0 = .ok (.aload_n 0, 1) := by decide +kernel
theorem d_R_wish_1 : decode b_R_wish 1 = .ok (.iload_n 1, 1) := by decide +kernel
theorem d_R_wish_2 : decode b_R_wish 2 = .ok (.invokevirtual 75, 3) := by decide +kernel
theorem d_R_wish_5 : decode b_R_wish 5 = .ok (.aload_n 0, 1) := by decide +kernel
theorem d_R_wish_6 : decode b_R_wish 6 = .ok (.iload_n 2, 1) := by decide +kernel
theorem d_R_wish_7 : decode b_R_wish 7 = .ok (.invokevirtual 62, 3) := by decide +kernel
theorem d_R_wish_10 : decode b_R_wish 10 = .ok (.iload_n 3, 1) := by decide +kernel
theorem d_R_wish_11 : decode b_R_wish 11 = .ok (.iconst 0, 1) := by decide +kernel
theorem d_R_wish_12 : decode b_R_wish 12 = .ok (.iconst 3, 1) := by decide +kernel
theorem d_R_wish_13 : decode b_R_wish 13 = .ok (.invokestatic 65, 3) := by decide +kernel
theorem d_R_wish_16 : decode b_R_wish 16 = .ok (.iload 5, 2) := by decide +kernel
theorem d_R_wish_18 : decode b_R_wish 18 = .ok (.iconst 1, 1) := by decide +kernel
theorem d_R_wish_19 : decode b_R_wish 19 = .ok (.bipush 100, 2) := by decide +kernel
theorem d_R_wish_21 : decode b_R_wish 21 = .ok (.invokestatic 39, 3) := by decide +kernel
theorem d_R_wish_24 : decode b_R_wish 24 = .ok (.aload_n 0, 1) := by decide +kernel
theorem d_R_wish_25 : decode b_R_wish 25 = .ok (.iload_n 2, 1) := by decide +kernel
theorem d_R_wish_26 : decode b_R_wish 26 = .ok (.invokevirtual 86, 3) := by decide +kernel
theorem d_R_wish_29 : decode b_R_wish 29 = .ok (.aload_n 0, 1) := by decide +kernel
theorem d_R_wish_30 : decode b_R_wish 30 = .ok (.getfield 12, 3) := by decide +kernel
theorem d_R_wish_33 : decode b_R_wish 33 = .ok (.getfield 89, 3) := by decide +kernel
theorem d_R_wish_36 : decode b_R_wish 36 = .ok (.bipush 20, 2) := by decide +kernel
theorem d_R_wish_38 : decode b_R_wish 38 = .ok (.invokestatic 54, 3) := by decide +kernel
theorem d_R_wish_41 : decode b_R_wish 41 = .ok (.aload_n 0, 1) := by decide +kernel
theorem d_R_wish_42 : decode b_R_wish 42 = .ok (.getfield 12, 3) := by decide +kernel
theorem d_R_wish_45 : decode b_R_wish 45 = .ok (.iload_n 1, 1) := by decide +kernel
theorem d_R_wish_46 : decode b_R_wish 46 = .ok (.iload_n 2, 1) := by decide +kernel
theorem d_R_wish_47 : decode b_R_wish 47 = .ok (.iconst 0, 1) := by decide +kernel
theorem d_R_wish_48 : decode b_R_wish 48 = .ok (.invokestatic 82, 3) := by decide +kernel
theorem d_R_wish_51 : decode b_R_wish 51 = .ok (.iload_n 3, 1) := by decide +kernel
theorem d_R_wish_52 : decode b_R_wish 52 = .ok (.iload 4, 2) := by decide +kernel
theorem d_R_wish_54 : decode b_R_wish 54 = .ok (.iload 5, 2) := by decide +kernel
theorem d_R_wish_56 : decode b_R_wish 56 = .ok (.invokevirtual 92, 3) := by decide +kernel
theorem d_R_wish_59 : decode b_R_wish 59 = .ok (.ireturn, 1) := by decide +kernel
theorem d_R_freeze_0 : decode b_R_freeze 0 = .ok (.iload_n 1, 1) := by decide +kernel
theorem d_R_freeze_1 : decode b_R_freeze 1 = .ok (.aload_n 0, 1) := by decide +kernel
theorem d_R_freeze_2 : decode b_R_freeze 2 = .ok (.getfield 32, 3) := by decide +kernel
theorem d_R_freeze_5 : decode b_R_freeze 5 = .ok (.aload_n 0, 1) := by decide +kernel
theorem d_R_freeze_6 : decode b_R_freeze 6 = .ok (.getfield 12, 3) := by decide +kernel
theorem d_R_freeze_9 : decode b_R_freeze 9 = .ok (.getfield 96, 3) := by decide +kernel
theorem d_R_freeze_12 : decode b_R_freeze 12 = .ok (.invokestatic 39, 3) := by decide +kernel
theorem d_R_freeze_15 : decode b_R_freeze 15 = .ok (.aload_n 0, 1) := by decide +kernel
theorem d_R_freeze_16 : decode b_R_freeze 16 = .ok (.iload_n 1, 1) := by decide +kernel
theorem d_R_freeze_17 : decode b_R_freeze 17 = .ok (.putfield 32, 3) := by decide +kernel
theorem d_R_freeze_20 : decode b_R_freeze 20 = .ok (.return_, 1) := by decide +kernel
theorem d_R_set_0 : decode b_R_set 0 = .ok (.aload_n 0, 1) := by decide +kernel
theorem d_R_set_1 : decode b_R_set 1 = .ok (.iload_n 1, 1) := by decide +kernel
theorem d_R_set_2 : decode b_R_set 2 = .ok (.invokevirtual 75, 3) := by decide +kernel
theorem d_R_set_5 : decode b_R_set 5 = .ok (.aload_n 0, 1) := by decide +kernel
theorem d_R_set_6 : decode b_R_set 6 = .ok (.iload_n 2, 1) := by decide +kernel
theorem d_R_set_7 : decode b_R_set 7 = .ok (.invokevirtual 62, 3) := by decide +kernel
theorem d_R_set_10 : decode b_R_set 10 = .ok (.iload_n 3, 1) := by decide +kernel
theorem d_R_set_11 : decode b_R_set 11 = .ok (.iconst 0, 1) := by decide +kernel
theorem d_R_set_12 : decode b_R_set 12 = .ok (.iconst 3, 1) := by decide +kernel
theorem d_R_set_13 : decode b_R_set 13 = .ok (.invokestatic 65, 3) := by decide +kernel
theorem d_R_set_16 : decode b_R_set 16 = .ok (.aload_n 0, 1) := by decide +kernel
theorem d_R_set_17 : decode b_R_set 17 = .ok (.iload_n 2, 1) := by decide +kernel
theorem d_R_set_18 : decode b_R_set 18 = .ok (.invokevirtual 86, 3) := by decide +kernel
theorem d_R_set_21 : decode b_R_set 21 = .ok (.aload_n 0, 1) := by decide +kernel
theorem d_R_set_22 : decode b_R_set 22 = .ok (.getfield 25, 3) := by decide +kernel
theorem d_R_set_25 : decode b_R_set 25 = .ok (.iload_n 1, 1) := by decide +kernel
theorem d_R_set_26 : decode b_R_set 26 = .ok (.iload_n 2, 1) := by decide +kernel
theorem d_R_set_27 : decode b_R_set 27 = .ok (.invokestatic 99, 3) := by decide +kernel
theorem d_R_set_30 : decode b_R_set 30 = .ok (.iload_n 3, 1) := by decide +kernel
theorem d_R_set_31 : decode b_R_set 31 = .ok (.iastore, 1) := by decide +kernel
theorem d_R_set_32 : decode b_R_set 32 = .ok (.return_, 1) := by decide +kernel
theorem d_R_solve_0 : decode b_R_solve 0 = .ok (.iload_n 1, 1) := by decide +kernel
theorem d_R_solve_1 : decode b_R_solve 1 = .ok (.iconst 0, 1) := by decide +kernel
theorem d_R_solve_2 : decode b_R_solve 2 = .ok (.sipush 20000, 3) := by decide +kernel
theorem d_R_solve_5 : decode b_R_solve 5 = .ok (.invokestatic 39, 3) := by decide +kernel
theorem d_R_solve_8 : decode b_R_solve 8 = .ok (.aload_n 0, 1) := by decide +kernel
theorem d_R_solve_9 : decode b_R_solve 9 = .ok (.getfield 21, 3) := by decide +kernel
theorem d_R_solve_12 : decode b_R_solve 12 = .ok (.aload_n 0, 1) := by decide +kernel
theorem d_R_solve_13 : decode b_R_solve 13 = .ok (.getfield 25, 3) := by decide +kernel
theorem d_R_solve_16 : decode b_R_solve 16 = .ok (.aload_n 0, 1) := by decide +kernel
theorem d_R_solve_17 : decode b_R_solve 17 = .ok (.getfield 32, 3) := by decide +kernel
theorem d_R_solve_20 : decode b_R_solve 20 = .ok (.iload_n 1, 1) := by decide +kernel
theorem d_R_solve_21 : decode b_R_solve 21 = .ok (.invokevirtual 102, 3) := by decide +kernel
theorem d_R_solve_24 : decode b_R_solve 24 = .ok (.aload_n 0, 1) := by decide +kernel
theorem d_R_solve_25 : decode b_R_solve 25 = .ok (.getfield 21, 3) := by decide +kernel
theorem d_R_solve_28 : decode b_R_solve 28 = .ok (.getfield 106, 3) := by decide +kernel
theorem d_R_solve_31 : decode b_R_solve 31 = .ok (.ifCond .ne 5, 3) := by decide +kernel
theorem d_R_solve_34 : decode b_R_solve 34 = .ok (.iconst (-1), 1) := by decide +kernel
theorem d_R_solve_35 : decode b_R_solve 35 = .ok (.ireturn, 1) := by decide +kernel
theorem d_R_solve_36 : decode b_R_solve 36 = .ok (.aload_n 0, 1) := by decide +kernel
theorem d_R_solve_37 : decode b_R_solve 37 = .ok (.getfield 21, 3) := by decide +kernel
theorem d_R_solve_40 : decode b_R_solve 40 = .ok (.getfield 109, 3) := by decide +kernel
theorem d_R_solve_43 : decode b_R_solve 43 = .ok (.iconst 0, 1) := by decide +kernel
theorem d_R_solve_44 : decode b_R_solve 44 = .ok (.aload_n 0, 1) := by decide +kernel
theorem d_R_solve_45 : decode b_R_solve 45 = .ok (.getfield 25, 3) := by decide +kernel
theorem d_R_solve_48 : decode b_R_solve 48 = .ok (.iconst 0, 1) := by decide +kernel
theorem d_R_solve_49 : decode b_R_solve 49 = .ok (.bipush 42, 2) := by decide +kernel
theorem d_R_solve_51 : decode b_R_solve 51 = .ok (.invokestatic 112, 3) := by decide +kernel
theorem d_R_solve_54 : decode b_R_solve 54 = .ok (.aload_n 0, 1) := by decide +kernel
theorem d_R_solve_55 : decode b_R_solve 55 = .ok (.getfield 21, 3) := by decide +kernel
theorem d_R_solve_58 : decode b_R_solve 58 = .ok (.getfield 118, 3) := by decide +kernel
theorem d_R_solve_61 : decode b_R_solve 61 = .ok (.ireturn, 1) := by decide +kernel
theorem d_R_solved_0 : decode b_R_solved 0 = .ok (.iload_n 1, 1) := by decide +kernel
theorem d_R_solved_1 : decode b_R_solved 1 = .ok (.iconst 0, 1) := by decide +kernel
theorem d_R_solved_2 : decode b_R_solved 2 = .ok (.iconst 2, 1) := by decide +kernel
theorem d_R_solved_3 : decode b_R_solved 3 = .ok (.invokestatic 65, 3) := by decide +kernel
theorem d_R_solved_6 : decode b_R_solved 6 = .ok (.iload_n 1, 1) := by decide +kernel
theorem d_R_solved_7 : decode b_R_solved 7 = .ok (.ifCond .ne 19, 3) := by decide +kernel
theorem d_R_solved_10 : decode b_R_solved 10 = .ok (.aload_n 0, 1) := by decide +kernel
theorem d_R_solved_11 : decode b_R_solved 11 = .ok (.getfield 21, 3) := by decide +kernel
theorem d_R_solved_14 : decode b_R_solved 14 = .ok (.getfield 121, 3) := by decide +kernel
theorem d_R_solved_17 : decode b_R_solved 17 = .ok (.ifCond .eq 7, 3) := by decide +kernel
theorem d_R_solved_20 : decode b_R_solved 20 = .ok (.iconst 1, 1) := by decide +kernel
theorem d_R_solved_21 : decode b_R_solved 21 = .ok (.goto 4, 3) := by decide +kernel
theorem d_R_solved_24 : decode b_R_solved 24 = .ok (.iconst 0, 1) := by decide +kernel
theorem d_R_solved_25 : decode b_R_solved 25 = .ok (.ireturn, 1) := by decide +kernel
theorem d_R_solved_26 : decode b_R_solved 26 = .ok (.iload_n 1, 1) := by decide +kernel
theorem d_R_solved_27 : decode b_R_solved 27 = .ok (.iconst 1, 1) := by decide +kernel
theorem d_R_solved_28 : decode b_R_solved 28 = .ok (.if_icmp .ne 13, 3) := by decide +kernel
theorem d_R_solved_31 : decode b_R_solved 31 = .ok (.aload_n 0, 1) := by decide +kernel
theorem d_R_solved_32 : decode b_R_solved 32 = .ok (.getfield 21, 3) := by decide +kernel
theorem d_R_solved_35 : decode b_R_solved 35 = .ok (.getfield 125, 3) := by decide +kernel
theorem d_R_solved_38 : decode b_R_solved 38 = .ok (.goto 10, 3) := by decide +kernel
theorem d_R_solved_41 : decode b_R_solved 41 = .ok (.aload_n 0, 1) := by decide +kernel
theorem d_R_solved_42 : decode b_R_solved 42 = .ok (.getfield 21, 3) := by decide +kernel
theorem d_R_solved_45 : decode b_R_solved 45 = .ok (.getfield 106, 3) := by decide +kernel
theorem d_R_solved_48 : decode b_R_solved 48 = .ok (.ireturn, 1) := by decide +kernel
theorem d_R_swap_0 : decode b_R_swap 0 = .ok (.aload_n 0, 1) := by decide +kernel
theorem d_R_swap_1 : decode b_R_swap 1 = .ok (.iload_n 1, 1) := by decide +kernel
theorem d_R_swap_2 : decode b_R_swap 2 = .ok (.invokevirtual 75, 3) := by decide +kernel
theorem d_R_swap_5 : decode b_R_swap 5 = .ok (.aload_n 0, 1) := by decide +kernel
theorem d_R_swap_6 : decode b_R_swap 6 = .ok (.iload_n 2, 1) := by decide +kernel
theorem d_R_swap_7 : decode b_R_swap 7 = .ok (.invokevirtual 75, 3) := by decide +kernel
theorem d_R_swap_10 : decode b_R_swap 10 = .ok (.iload_n 1, 1) := by decide +kernel
theorem d_R_swap_11 : decode b_R_swap 11 = .ok (.iload_n 2, 1) := by decide +kernel
theorem d_R_swap_12 : decode b_R_swap 12 = .ok (.invokestatic 128, 3) := by decide +kernel
theorem d_R_swap_15 : decode b_R_swap 15 = .ok (.aload_n 0, 1) := by decide +kernel
theorem d_R_swap_16 : decode b_R_swap 16 = .ok (.iload_n 3, 1) := by decide +kernel
theorem d_R_swap_17 : decode b_R_swap 17 = .ok (.invokevirtual 62, 3) := by decide +kernel
theorem d_R_swap_20 : decode b_R_swap 20 = .ok (.aload_n 0, 1) := by decide +kernel
theorem d_R_swap_21 : decode b_R_swap 21 = .ok (.iload_n 3, 1) := by decide +kernel
theorem d_R_swap_22 : decode b_R_swap 22 = .ok (.invokevirtual 86, 3) := by decide +kernel
theorem d_R_swap_25 : decode b_R_swap 25 = .ok (.aload_n 0, 1) := by decide +kernel
theorem d_R_swap_26 : decode b_R_swap 26 = .ok (.iload_n 1, 1) := by decide +kernel
theorem d_R_swap_27 : decode b_R_swap 27 = .ok (.iload_n 3, 1) := by decide +kernel
theorem d_R_swap_28 : decode b_R_swap 28 = .ok (.invokestatic 99, 3) := by decide +kernel
theorem d_R_swap_31 : decode b_R_swap 31 = .ok (.iload_n 2, 1) := by decide +kernel
theorem d_R_swap_32 : decode b_R_swap 32 = .ok (.iload_n 3, 1) := by decide +kernel
theorem d_R_swap_33 : decode b_R_swap 33 = .ok (.invokestatic 99, 3) := by decide +kernel
theorem d_R_swap_36 : decode b_R_swap 36 = .ok (.invokevirtual 131, 3) := by decide +kernel
theorem d_R_swap_39 : decode b_R_swap 39 = .ok (.aload_n 0, 1) := by decide +kernel
theorem d_R_swap_40 : decode b_R_swap 40 = .ok (.getfield 12, 3) := by decide +kernel
theorem d_R_swap_43 : decode b_R_swap 43 = .ok (.aload_n 0, 1) := by decide +kernel
theorem d_R_swap_44 : decode b_R_swap 44 = .ok (.getfield 25, 3) := by decide +kernel
theorem d_R_swap_47 : decode b_R_swap 47 = .ok (.invokevirtual 134, 3) := by decide +kernel
theorem d_R_swap_50 : decode b_R_swap 50 = .ok (.ifCond .eq 27, 3) := by decide +kernel
theorem d_R_swap_53 : decode b_R_swap 53 = .ok (.aload_n 0, 1) := by decide +kernel
theorem d_R_swap_54 : decode b_R_swap 54 = .ok (.iload_n 1, 1) := by decide +kernel
theorem d_R_swap_55 : decode b_R_swap 55 = .ok (.iload_n 3, 1) := by decide +kernel
theorem d_R_swap_56 : decode b_R_swap 56 = .ok (.invokestatic 99, 3) := by decide +kernel
theorem d_R_swap_59 : decode b_R_swap 59 = .ok (.iload_n 2, 1) := by decide +kernel
theorem d_R_swap_60 : decode b_R_swap 60 = .ok (.iload_n 3, 1) := by decide +kernel
theorem d_R_swap_61 : decode b_R_swap 61 = .ok (.invokestatic 99, 3) := by decide +kernel
theorem d_R_swap_64 : decode b_R_swap 64 = .ok (.invokevirtual 131, 3) := by decide +kernel
theorem d_R_swap_67 : decode b_R_swap 67 = .ok (.new 138, 3) := by decide +kernel
theorem d_R_swap_70 : decode b_R_swap 70 = .ok (.dup, 1) := by decide +kernel
theorem d_R_swap_71 : decode b_R_swap 71 = .ok (.ldc 140, 2) := by decide +kernel
theorem d_R_swap_73 : decode b_R_swap 73 = .ok (.invokespecial 142, 3) := by decide +kernel
theorem d_R_swap_76 : decode b_R_swap 76 = .ok (.athrow, 1) := by decide +kernel
theorem d_R_swap_77 : decode b_R_swap 77 = .ok (.return_, 1) := by decide +kernel
theorem d_R_shift_0 : decode b_R_shift 0 = .ok (.aload_n 0, 1) := by decide +kernel
theorem d_R_shift_1 : decode b_R_shift 1 = .ok (.iload_n 1, 1) := by decide +kernel
theorem d_R_shift_2 : decode b_R_shift 2 = .ok (.invokevirtual 75, 3) := by decide +kernel
theorem d_R_shift_5 : decode b_R_shift 5 = .ok (.aload_n 0, 1) := by decide +kernel
theorem d_R_shift_6 : decode b_R_shift 6 = .ok (.iload_n 2, 1) := by decide +kernel
theorem d_R_shift_7 : decode b_R_shift 7 = .ok (.invokevirtual 62, 3) := by decide +kernel
theorem d_R_shift_10 : decode b_R_shift 10 = .ok (.aload_n 0, 1) := by decide +kernel
theorem d_R_shift_11 : decode b_R_shift 11 = .ok (.getfield 25, 3) := by decide +kernel
theorem d_R_shift_14 : decode b_R_shift 14 = .ok (.iload_n 1, 1) := by decide +kernel
theorem d_R_shift_15 : decode b_R_shift 15 = .ok (.iload_n 2, 1) := by decide +kernel
theorem d_R_shift_16 : decode b_R_shift 16 = .ok (.invokestatic 99, 3) := by decide +kernel
theorem d_R_shift_19 : decode b_R_shift 19 = .ok (.iaload, 1) := by decide +kernel
theorem d_R_shift_20 : decode b_R_shift 20 = .ok (.ireturn, 1) := by decide +kernel
theorem d_R_wrong_0 : decode b_R_wrong 0 = .ok (.aload_n 0, 1) := by decide +kernel
theorem d_R_wrong_1 : decode b_R_wrong 1 = .ok (.getfield 12, 3) := by decide +kernel
theorem d_R_wrong_4 : decode b_R_wrong 4 = .ok (.aload_n 0, 1) := by decide +kernel
theorem d_R_wrong_5 : decode b_R_wrong 5 = .ok (.getfield 25, 3) := by decide +kernel
theorem d_R_wrong_8 : decode b_R_wrong 8 = .ok (.invokevirtual 134, 3) := by decide +kernel
theorem d_R_wrong_11 : decode b_R_wrong 11 = .ok (.ireturn, 1) := by decide +kernel
theorem d_R_unmet_0 : decode b_R_unmet 0 = .ok (.aload_n 0, 1) := by decide +kernel
theorem d_R_unmet_1 : decode b_R_unmet 1 = .ok (.getfield 12, 3) := by decide +kernel
theorem d_R_unmet_4 : decode b_R_unmet 4 = .ok (.aload_n 0, 1) := by decide +kernel
theorem d_R_unmet_5 : decode b_R_unmet 5 = .ok (.getfield 25, 3) := by decide +kernel
theorem d_R_unmet_8 : decode b_R_unmet 8 = .ok (.invokevirtual 145, 3) := by decide +kernel
theorem d_R_unmet_11 : decode b_R_unmet 11 = .ok (.ireturn, 1) := by decide +kernel
theorem d_R_cost_0 : decode b_R_cost 0 = .ok (.aload_n 0, 1) := by decide +kernel
theorem d_R_cost_1 : decode b_R_cost 1 = .ok (.getfield 12, 3) := by decide +kernel
theorem d_R_cost_4 : decode b_R_cost 4 = .ok (.aload_n 0, 1) := by decide +kernel
theorem d_R_cost_5 : decode b_R_cost 5 = .ok (.getfield 25, 3) := by decide +kernel
theorem d_R_cost_8 : decode b_R_cost 8 = .ok (.invokevirtual 148, 3) := by decide +kernel
theorem d_R_cost_11 : decode b_R_cost 11 = .ok (.ireturn, 1) := by decide +kernel
theorem d_R_share_0 : decode b_R_share 0 = .ok (.aload_n 0, 1) := by decide +kernel
theorem d_R_share_1 : decode b_R_share 1 = .ok (.iload_n 1, 1) := by decide +kernel
theorem d_R_share_2 : decode b_R_share 2 = .ok (.invokevirtual 75, 3) := by decide +kernel
theorem d_R_share_5 : decode b_R_share 5 = .ok (.aload_n 0, 1) := by decide +kernel
theorem d_R_share_6 : decode b_R_share 6 = .ok (.getfield 12, 3) := by decide +kernel
theorem d_R_share_9 : decode b_R_share 9 = .ok (.aload_n 0, 1) := by decide +kernel
theorem d_R_share_10 : decode b_R_share 10 = .ok (.getfield 25, 3) := by decide +kernel
theorem d_R_share_13 : decode b_R_share 13 = .ok (.invokevirtual 148, 3) := by decide +kernel
theorem d_R_share_16 : decode b_R_share 16 = .ok (.istore_n 2, 1) := by decide +kernel
theorem d_R_share_17 : decode b_R_share 17 = .ok (.iload_n 2, 1) := by decide +kernel
theorem d_R_share_18 : decode b_R_share 18 = .ok (.ifCond .ne 13, 3) := by decide +kernel
theorem d_R_share_21 : decode b_R_share 21 = .ok (.new 151, 3) := by decide +kernel
theorem d_R_share_24 : decode b_R_share 24 = .ok (.dup, 1) := by decide +kernel
theorem d_R_share_25 : decode b_R_share 25 = .ok (.ldc 153, 2) := by decide +kernel
theorem d_R_share_27 : decode b_R_share 27 = .ok (.invokespecial 155, 3) := by decide +kernel
theorem d_R_share_30 : decode b_R_share 30 = .ok (.athrow, 1) := by decide +kernel
theorem d_R_share_31 : decode b_R_share 31 = .ok (.ldc2_w 156, 3) := by decide +kernel
theorem d_R_share_34 : decode b_R_share 34 = .ok (.aload_n 0, 1) := by decide +kernel
theorem d_R_share_35 : decode b_R_share 35 = .ok (.getfield 12, 3) := by decide +kernel
theorem d_R_share_38 : decode b_R_share 38 = .ok (.aload_n 0, 1) := by decide +kernel
theorem d_R_share_39 : decode b_R_share 39 = .ok (.getfield 25, 3) := by decide +kernel
theorem d_R_share_42 : decode b_R_share 42 = .ok (.iload_n 1, 1) := by decide +kernel
theorem d_R_share_43 : decode b_R_share 43 = .ok (.invokevirtual 158, 3) := by decide +kernel
theorem d_R_share_46 : decode b_R_share 46 = .ok (.i2l, 1) := by decide +kernel
theorem d_R_share_47 : decode b_R_share 47 = .ok (.lmul, 1) := by decide +kernel
theorem d_R_share_48 : decode b_R_share 48 = .ok (.iload_n 2, 1) := by decide +kernel
theorem d_R_share_49 : decode b_R_share 49 = .ok (.i2l, 1) := by decide +kernel
theorem d_R_share_50 : decode b_R_share 50 = .ok (.ldiv, 1) := by decide +kernel
theorem d_R_share_51 : decode b_R_share 51 = .ok (.l2i, 1) := by decide +kernel
theorem d_R_share_52 : decode b_R_share 52 = .ok (.ireturn, 1) := by decide +kernel
theorem d_R_publish_0 : decode b_R_publish 0 = .ok (.iconst 0, 1) := by decide +kernel
theorem d_R_publish_1 : decode b_R_publish 1 = .ok (.istore_n 1, 1) := by decide +kernel
theorem d_R_publish_2 : decode b_R_publish 2 = .ok (.iconst 0, 1) := by decide +kernel
theorem d_R_publish_3 : decode b_R_publish 3 = .ok (.istore_n 2, 1) := by decide +kernel
theorem d_R_publish_4 : decode b_R_publish 4 = .ok (.iload_n 2, 1) := by decide +kernel
theorem d_R_publish_5 : decode b_R_publish 5 = .ok (.aload_n 0, 1) := by decide +kernel
theorem d_R_publish_6 : decode b_R_publish 6 = .ok (.getfield 12, 3) := by decide +kernel
theorem d_R_publish_9 : decode b_R_publish 9 = .ok (.getfield 96, 3) := by decide +kernel
theorem d_R_publish_12 : decode b_R_publish 12 = .ok (.if_icmp .ge 55, 3) := by decide +kernel
theorem d_R_publish_15 : decode b_R_publish 15 = .ok (.iconst 0, 1) := by decide +kernel
theorem d_R_publish_16 : decode b_R_publish 16 = .ok (.istore_n 3, 1) := by decide +kernel
theorem d_R_publish_17 : decode b_R_publish 17 = .ok (.iload_n 3, 1) := by decide +kernel
theorem d_R_publish_18 : decode b_R_publish 18 = .ok (.aload_n 0, 1) := by decide +kernel
theorem d_R_publish_19 : decode b_R_publish 19 = .ok (.getfield 12, 3) := by decide +kernel
theorem d_R_publish_22 : decode b_R_publish 22 = .ok (.getfield 51, 3) := by decide +kernel
theorem d_R_publish_25 : decode b_R_publish 25 = .ok (.if_icmp .ge 36, 3) := by decide +kernel
theorem d_R_publish_28 : decode b_R_publish 28 = .ok (.iload_n 3, 1) := by decide +kernel
theorem d_R_publish_29 : decode b_R_publish 29 = .ok (.iload_n 2, 1) := by decide +kernel
theorem d_R_publish_30 : decode b_R_publish 30 = .ok (.invokestatic 99, 3) := by decide +kernel
theorem d_R_publish_33 : decode b_R_publish 33 = .ok (.istore 4, 2) := by decide +kernel
theorem d_R_publish_35 : decode b_R_publish 35 = .ok (.aload_n 0, 1) := by decide +kernel
theorem d_R_publish_36 : decode b_R_publish 36 = .ok (.getfield 25, 3) := by decide +kernel
theorem d_R_publish_39 : decode b_R_publish 39 = .ok (.iload 4, 2) := by decide +kernel
theorem d_R_publish_41 : decode b_R_publish 41 = .ok (.iaload, 1) := by decide +kernel
theorem d_R_publish_42 : decode b_R_publish 42 = .ok (.aload_n 0, 1) := by decide +kernel
theorem d_R_publish_43 : decode b_R_publish 43 = .ok (.getfield 29, 3) := by decide +kernel
theorem d_R_publish_46 : decode b_R_publish 46 = .ok (.iload 4, 2) := by decide +kernel
theorem d_R_publish_48 : decode b_R_publish 48 = .ok (.iaload, 1) := by decide +kernel
theorem d_R_publish_49 : decode b_R_publish 49 = .ok (.if_icmp .eq 6, 3) := by decide +kernel
theorem d_R_publish_52 : decode b_R_publish 52 = .ok (.iinc 1 1, 3) := by decide +kernel
theorem d_R_publish_55 : decode b_R_publish 55 = .ok (.iinc 3 1, 3) := by decide +kernel
theorem d_R_publish_58 : decode b_R_publish 58 = .ok (.goto (-41), 3) := by decide +kernel
theorem d_R_publish_61 : decode b_R_publish 61 = .ok (.iinc 2 1, 3) := by decide +kernel
theorem d_R_publish_64 : decode b_R_publish 64 = .ok (.goto (-60), 3) := by decide +kernel
theorem d_R_publish_67 : decode b_R_publish 67 = .ok (.aload_n 0, 1) := by decide +kernel
theorem d_R_publish_68 : decode b_R_publish 68 = .ok (.getfield 25, 3) := by decide +kernel
theorem d_R_publish_71 : decode b_R_publish 71 = .ok (.iconst 0, 1) := by decide +kernel
theorem d_R_publish_72 : decode b_R_publish 72 = .ok (.aload_n 0, 1) := by decide +kernel
theorem d_R_publish_73 : decode b_R_publish 73 = .ok (.getfield 29, 3) := by decide +kernel
theorem d_R_publish_76 : decode b_R_publish 76 = .ok (.iconst 0, 1) := by decide +kernel
theorem d_R_publish_77 : decode b_R_publish 77 = .ok (.bipush 42, 2) := by decide +kernel
theorem d_R_publish_79 : decode b_R_publish 79 = .ok (.invokestatic 112, 3) := by decide +kernel
theorem d_R_publish_82 : decode b_R_publish 82 = .ok (.aload_n 0, 1) := by decide +kernel
theorem d_R_publish_83 : decode b_R_publish 83 = .ok (.dup, 1) := by decide +kernel
theorem d_R_publish_84 : decode b_R_publish 84 = .ok (.getfield 36, 3) := by decide +kernel
theorem d_R_publish_87 : decode b_R_publish 87 = .ok (.iconst 1, 1) := by decide +kernel
theorem d_R_publish_88 : decode b_R_publish 88 = .ok (.iadd, 1) := by decide +kernel
theorem d_R_publish_89 : decode b_R_publish 89 = .ok (.putfield 36, 3) := by decide +kernel
theorem d_R_publish_92 : decode b_R_publish 92 = .ok (.iload_n 1, 1) := by decide +kernel
theorem d_R_publish_93 : decode b_R_publish 93 = .ok (.ireturn, 1) := by decide +kernel
theorem d_R_count_0 : decode b_R_count 0 = .ok (.iload_n 1, 1) := by decide +kernel
theorem d_R_count_1 : decode b_R_count 1 = .ok (.iconst 0, 1) := by decide +kernel
theorem d_R_count_2 : decode b_R_count 2 = .ok (.iconst 4, 1) := by decide +kernel
theorem d_R_count_3 : decode b_R_count 3 = .ok (.invokestatic 65, 3) := by decide +kernel
theorem d_R_count_6 : decode b_R_count 6 = .ok (.iload_n 1, 1) := by decide +kernel
theorem d_R_count_7 : decode b_R_count 7 = .ok (.tableswitch 58 0 3 #[29, 37, 45, 53], 29) := by decide +kernel
theorem d_R_count_36 : decode b_R_count 36 = .ok (.aload_n 0, 1) := by decide +kernel
theorem d_R_count_37 : decode b_R_count 37 = .ok (.getfield 12, 3) := by decide +kernel
theorem d_R_count_40 : decode b_R_count 40 = .ok (.getfield 51, 3) := by decide +kernel
theorem d_R_count_43 : decode b_R_count 43 = .ok (.ireturn, 1) := by decide +kernel
theorem d_R_count_44 : decode b_R_count 44 = .ok (.aload_n 0, 1) := by decide +kernel
theorem d_R_count_45 : decode b_R_count 45 = .ok (.getfield 12, 3) := by decide +kernel
theorem d_R_count_48 : decode b_R_count 48 = .ok (.getfield 96, 3) := by decide +kernel
theorem d_R_count_51 : decode b_R_count 51 = .ok (.ireturn, 1) := by decide +kernel
theorem d_R_count_52 : decode b_R_count 52 = .ok (.aload_n 0, 1) := by decide +kernel
theorem d_R_count_53 : decode b_R_count 53 = .ok (.getfield 12, 3) := by decide +kernel
theorem d_R_count_56 : decode b_R_count 56 = .ok (.getfield 89, 3) := by decide +kernel
theorem d_R_count_59 : decode b_R_count 59 = .ok (.ireturn, 1) := by decide +kernel
theorem d_R_count_60 : decode b_R_count 60 = .ok (.aload_n 0, 1) := by decide +kernel
theorem d_R_count_61 : decode b_R_count 61 = .ok (.getfield 32, 3) := by decide +kernel
theorem d_R_count_64 : decode b_R_count 64 = .ok (.ireturn, 1) := by decide +kernel
theorem d_R_count_65 : decode b_R_count 65 = .ok (.aload_n 0, 1) := by decide +kernel
theorem d_R_count_66 : decode b_R_count 66 = .ok (.getfield 36, 3) := by decide +kernel
theorem d_R_count_69 : decode b_R_count 69 = .ok (.ireturn, 1) := by decide +kernel
theorem d_R_exchange_0 : decode b_R_exchange 0 = .ok (.aload_n 0, 1) := by decide +kernel
theorem d_R_exchange_1 : decode b_R_exchange 1 = .ok (.getfield 25, 3) := by decide +kernel
theorem d_R_exchange_4 : decode b_R_exchange 4 = .ok (.iload_n 1, 1) := by decide +kernel
theorem d_R_exchange_5 : decode b_R_exchange 5 = .ok (.iaload, 1) := by decide +kernel
theorem d_R_exchange_6 : decode b_R_exchange 6 = .ok (.istore_n 3, 1) := by decide +kernel
theorem d_R_exchange_7 : decode b_R_exchange 7 = .ok (.aload_n 0, 1) := by decide +kernel
theorem d_R_exchange_8 : decode b_R_exchange 8 = .ok (.getfield 25, 3) := by decide +kernel
theorem d_R_exchange_11 : decode b_R_exchange 11 = .ok (.iload_n 1, 1) := by decide +kernel
theorem d_R_exchange_12 : decode b_R_exchange 12 = .ok (.aload_n 0, 1) := by decide +kernel
theorem d_R_exchange_13 : decode b_R_exchange 13 = .ok (.getfield 25, 3) := by decide +kernel
theorem d_R_exchange_16 : decode b_R_exchange 16 = .ok (.iload_n 2, 1) := by decide +kernel
theorem d_R_exchange_17 : decode b_R_exchange 17 = .ok (.iaload, 1) := by decide +kernel
theorem d_R_exchange_18 : decode b_R_exchange 18 = .ok (.iastore, 1) := by decide +kernel
theorem d_R_exchange_19 : decode b_R_exchange 19 = .ok (.aload_n 0, 1) := by decide +kernel
theorem d_R_exchange_20 : decode b_R_exchange 20 = .ok (.getfield 25, 3) := by decide +kernel
theorem d_R_exchange_23 : decode b_R_exchange 23 = .ok (.iload_n 2, 1) := by decide +kernel
theorem d_R_exchange_24 : decode b_R_exchange 24 = .ok (.iload_n 3, 1) := by decide +kernel
theorem d_R_exchange_25 : decode b_R_exchange 25 = .ok (.iastore, 1) := by decide +kernel
theorem d_R_exchange_26 : decode b_R_exchange 26 = .ok (.return_, 1) := by decide +kernel
theorem d_R_refuseUnknownPerson_0 : decode b_R_refuseUnknownPerson 0 = .ok (.iload_n 1, 1) := by decide +kernel
theorem d_R_refuseUnknownPerson_1 : decode b_R_refuseUnknownPerson 1 = .ok (.iconst 0, 1) := by decide +kernel
theorem d_R_refuseUnknownPerson_2 : decode b_R_refuseUnknownPerson 2 = .ok (.aload_n 0, 1) := by decide +kernel
theorem d_R_refuseUnknownPerson_3 : decode b_R_refuseUnknownPerson 3 = .ok (.getfield 12, 3) := by decide +kernel
theorem d_R_refuseUnknownPerson_6 : decode b_R_refuseUnknownPerson 6 = .ok (.getfield 51, 3) := by decide +kernel
theorem d_R_refuseUnknownPerson_9 : decode b_R_refuseUnknownPerson 9 = .ok (.iconst 1, 1) := by decide +kernel
theorem d_R_refuseUnknownPerson_10 : decode b_R_refuseUnknownPerson 10 = .ok (.isub, 1) := by decide +kernel
theorem d_R_refuseUnknownPerson_11 : decode b_R_refuseUnknownPerson 11 = .ok (.invokestatic 65, 3) := by decide +kernel
theorem d_R_refuseUnknownPerson_14 : decode b_R_refuseUnknownPerson 14 = .ok (.return_, 1) := by decide +kernel
theorem d_R_refuseUnknownDay_0 : decode b_R_refuseUnknownDay 0 = .ok (.iload_n 1, 1) := by decide +kernel
theorem d_R_refuseUnknownDay_1 : decode b_R_refuseUnknownDay 1 = .ok (.iconst 0, 1) := by decide +kernel
theorem d_R_refuseUnknownDay_2 : decode b_R_refuseUnknownDay 2 = .ok (.aload_n 0, 1) := by decide +kernel
theorem d_R_refuseUnknownDay_3 : decode b_R_refuseUnknownDay 3 = .ok (.getfield 12, 3) := by decide +kernel
theorem d_R_refuseUnknownDay_6 : decode b_R_refuseUnknownDay 6 = .ok (.getfield 96, 3) := by decide +kernel
theorem d_R_refuseUnknownDay_9 : decode b_R_refuseUnknownDay 9 = .ok (.iconst 1, 1) := by decide +kernel
theorem d_R_refuseUnknownDay_10 : decode b_R_refuseUnknownDay 10 = .ok (.isub, 1) := by decide +kernel
theorem d_R_refuseUnknownDay_11 : decode b_R_refuseUnknownDay 11 = .ok (.invokestatic 65, 3) := by decide +kernel
theorem d_R_refuseUnknownDay_14 : decode b_R_refuseUnknownDay 14 = .ok (.return_, 1) := by decide +kernel
theorem d_R_refuseFrozen_0 : decode b_R_refuseFrozen 0 = .ok (.iload_n 1, 1) := by decide +kernel
theorem d_R_refuseFrozen_1 : decode b_R_refuseFrozen 1 = .ok (.aload_n 0, 1) := by decide +kernel
theorem d_R_refuseFrozen_2 : decode b_R_refuseFrozen 2 = .ok (.getfield 32, 3) := by decide +kernel
theorem d_R_refuseFrozen_5 : decode b_R_refuseFrozen 5 = .ok (.if_icmp .ge 13, 3) := by decide +kernel
theorem d_R_refuseFrozen_8 : decode b_R_refuseFrozen 8 = .ok (.new 138, 3) := by decide +kernel
theorem d_R_refuseFrozen_11 : decode b_R_refuseFrozen 11 = .ok (.dup, 1) := by decide +kernel
theorem d_R_refuseFrozen_12 : decode b_R_refuseFrozen 12 = .ok (.ldc 162, 2) := by decide +kernel
theorem d_R_refuseFrozen_14 : decode b_R_refuseFrozen 14 = .ok (.invokespecial 142, 3) := by decide +kernel
theorem d_R_refuseFrozen_17 : decode b_R_refuseFrozen 17 = .ok (.athrow, 1) := by decide +kernel
theorem d_R_refuseFrozen_18 : decode b_R_refuseFrozen 18 = .ok (.return_, 1) := by decide +kernel
theorem d_R_refuseUnknown_0 : decode b_R_refuseUnknown 0 = .ok (.iload_n 0, 1) := by decide +kernel
theorem d_R_refuseUnknown_1 : decode b_R_refuseUnknown 1 = .ok (.iload_n 1, 1) := by decide +kernel
theorem d_R_refuseUnknown_2 : decode b_R_refuseUnknown 2 = .ok (.if_icmp .lt 8, 3) := by decide +kernel
theorem d_R_refuseUnknown_5 : decode b_R_refuseUnknown 5 = .ok (.iload_n 0, 1) := by decide +kernel
theorem d_R_refuseUnknown_6 : decode b_R_refuseUnknown 6 = .ok (.iload_n 2, 1) := by decide +kernel
theorem d_R_refuseUnknown_7 : decode b_R_refuseUnknown 7 = .ok (.if_icmp .le 13, 3) := by decide +kernel
theorem d_R_refuseUnknown_10 : decode b_R_refuseUnknown 10 = .ok (.new 164, 3) := by decide +kernel
theorem d_R_refuseUnknown_13 : decode b_R_refuseUnknown 13 = .ok (.dup, 1) := by decide +kernel
theorem d_R_refuseUnknown_14 : decode b_R_refuseUnknown 14 = .ok (.ldc 166, 2) := by decide +kernel
theorem d_R_refuseUnknown_16 : decode b_R_refuseUnknown 16 = .ok (.invokespecial 168, 3) := by decide +kernel
theorem d_R_refuseUnknown_19 : decode b_R_refuseUnknown 19 = .ok (.athrow, 1) := by decide +kernel
theorem d_R_refuseUnknown_20 : decode b_R_refuseUnknown 20 = .ok (.return_, 1) := by decide +kernel
theorem d_R_refuseSame_0 : decode b_R_refuseSame 0 = .ok (.iload_n 0, 1) := by decide +kernel
theorem d_R_refuseSame_1 : decode b_R_refuseSame 1 = .ok (.iload_n 1, 1) := by decide +kernel
theorem d_R_refuseSame_2 : decode b_R_refuseSame 2 = .ok (.if_icmp .ne 13, 3) := by decide +kernel
theorem d_R_refuseSame_5 : decode b_R_refuseSame 5 = .ok (.new 164, 3) := by decide +kernel
theorem d_R_refuseSame_8 : decode b_R_refuseSame 8 = .ok (.dup, 1) := by decide +kernel
theorem d_R_refuseSame_9 : decode b_R_refuseSame 9 = .ok (.ldc 169, 2) := by decide +kernel
theorem d_R_refuseSame_11 : decode b_R_refuseSame 11 = .ok (.invokespecial 168, 3) := by decide +kernel
theorem d_R_refuseSame_14 : decode b_R_refuseSame 14 = .ok (.athrow, 1) := by decide +kernel
theorem d_R_refuseSame_15 : decode b_R_refuseSame 15 = .ok (.return_, 1) := by decide +kernel
theorem d_R_refuseOutside_0 : decode b_R_refuseOutside 0 = .ok (.iload_n 0, 1) := by decide +kernel
theorem d_R_refuseOutside_1 : decode b_R_refuseOutside 1 = .ok (.iload_n 1, 1) := by decide +kernel
theorem d_R_refuseOutside_2 : decode b_R_refuseOutside 2 = .ok (.if_icmp .lt 8, 3) := by decide +kernel
theorem d_R_refuseOutside_5 : decode b_R_refuseOutside 5 = .ok (.iload_n 0, 1) := by decide +kernel
theorem d_R_refuseOutside_6 : decode b_R_refuseOutside 6 = .ok (.iload_n 2, 1) := by decide +kernel
theorem d_R_refuseOutside_7 : decode b_R_refuseOutside 7 = .ok (.if_icmp .le 13, 3) := by decide +kernel
theorem d_R_refuseOutside_10 : decode b_R_refuseOutside 10 = .ok (.new 171, 3) := by decide +kernel
theorem d_R_refuseOutside_13 : decode b_R_refuseOutside 13 = .ok (.dup, 1) := by decide +kernel
theorem d_R_refuseOutside_14 : decode b_R_refuseOutside 14 = .ok (.ldc 173, 2) := by decide +kernel
theorem d_R_refuseOutside_16 : decode b_R_refuseOutside 16 = .ok (.invokespecial 175, 3) := by decide +kernel
theorem d_R_refuseOutside_19 : decode b_R_refuseOutside 19 = .ok (.athrow, 1) := by decide +kernel
theorem d_R_refuseOutside_20 : decode b_R_refuseOutside 20 = .ok (.return_, 1) := by decide +kernel
theorem d_R_refuseFull_0 : decode b_R_refuseFull 0 = .ok (.iload_n 0, 1) := by decide +kernel
theorem d_R_refuseFull_1 : decode b_R_refuseFull 1 = .ok (.iload_n 1, 1) := by decide +kernel
theorem d_R_refuseFull_2 : decode b_R_refuseFull 2 = .ok (.if_icmp .lt 13, 3) := by decide +kernel
theorem d_R_refuseFull_5 : decode b_R_refuseFull 5 = .ok (.new 176, 3) := by decide +kernel
theorem d_R_refuseFull_8 : decode b_R_refuseFull 8 = .ok (.dup, 1) := by decide +kernel
theorem d_R_refuseFull_9 : decode b_R_refuseFull 9 = .ok (.ldc 178, 2) := by decide +kernel
theorem d_R_refuseFull_11 : decode b_R_refuseFull 11 = .ok (.invokespecial 180, 3) := by decide +kernel
theorem d_R_refuseFull_14 : decode b_R_refuseFull 14 = .ok (.athrow, 1) := by decide +kernel
theorem d_R_refuseFull_15 : decode b_R_refuseFull 15 = .ok (.return_, 1) := by decide +kernel
theorem d_R_cell_0 : decode b_R_cell 0 = .ok (.iload_n 1, 1) := by decide +kernel
theorem d_R_cell_1 : decode b_R_cell 1 = .ok (.bipush 6, 2) := by decide +kernel
theorem d_R_cell_3 : decode b_R_cell 3 = .ok (.imul, 1) := by decide +kernel
theorem d_R_cell_4 : decode b_R_cell 4 = .ok (.iload_n 0, 1) := by decide +kernel
theorem d_R_cell_5 : decode b_R_cell 5 = .ok (.iadd, 1) := by decide +kernel
theorem d_R_cell_6 : decode b_R_cell 6 = .ok (.ireturn, 1) := by decide +kernel
theorem d_R_choice_0 : decode b_R_choice 0 = .ok (.iload_n 0, 1) := by decide +kernel
theorem d_R_choice_1 : decode b_R_choice 1 = .ok (.iload_n 1, 1) := by decide +kernel
theorem d_R_choice_2 : decode b_R_choice 2 = .ok (.invokestatic 99, 3) := by decide +kernel
theorem d_R_choice_5 : decode b_R_choice 5 = .ok (.iconst 4, 1) := by decide +kernel
theorem d_R_choice_6 : decode b_R_choice 6 = .ok (.imul, 1) := by decide +kernel
theorem d_R_choice_7 : decode b_R_choice 7 = .ok (.iload_n 2, 1) := by decide +kernel
theorem d_R_choice_8 : decode b_R_choice 8 = .ok (.iadd, 1) := by decide +kernel
theorem d_R_choice_9 : decode b_R_choice 9 = .ok (.ireturn, 1) := by decide +kernel
theorem d_R_slot_0 : decode b_R_slot 0 = .ok (.iload_n 0, 1) := by decide +kernel
theorem d_R_slot_1 : decode b_R_slot 1 = .ok (.iconst 4, 1) := by decide +kernel
theorem d_R_slot_2 : decode b_R_slot 2 = .ok (.imul, 1) := by decide +kernel
theorem d_R_slot_3 : decode b_R_slot 3 = .ok (.iload_n 1, 1) := by decide +kernel
theorem d_R_slot_4 : decode b_R_slot 4 = .ok (.iadd, 1) := by decide +kernel
theorem d_R_slot_5 : decode b_R_slot 5 = .ok (.ireturn, 1) := by decide +kernel
theorem d_R_clearRow_0 : decode b_R_clearRow 0 = .ok (.iconst 0, 1) := by decide +kernel
theorem d_R_clearRow_1 : decode b_R_clearRow 1 = .ok (.istore_n 1, 1) := by decide +kernel
theorem d_R_clearRow_2 : decode b_R_clearRow 2 = .ok (.iload_n 1, 1) := by decide +kernel
theorem d_R_clearRow_3 : decode b_R_clearRow 3 = .ok (.aload_n 0, 1) := by decide +kernel
theorem d_R_clearRow_4 : decode b_R_clearRow 4 = .ok (.arraylength, 1) := by decide +kernel
theorem d_R_clearRow_5 : decode b_R_clearRow 5 = .ok (.if_icmp .ge 13, 3) := by decide +kernel
theorem d_R_clearRow_8 : decode b_R_clearRow 8 = .ok (.aload_n 0, 1) := by decide +kernel
theorem d_R_clearRow_9 : decode b_R_clearRow 9 = .ok (.iload_n 1, 1) := by decide +kernel
theorem d_R_clearRow_10 : decode b_R_clearRow 10 = .ok (.iconst 0, 1) := by decide +kernel
theorem d_R_clearRow_11 : decode b_R_clearRow 11 = .ok (.iastore, 1) := by decide +kernel
theorem d_R_clearRow_12 : decode b_R_clearRow 12 = .ok (.iinc 1 1, 3) := by decide +kernel
theorem d_R_clearRow_15 : decode b_R_clearRow 15 = .ok (.goto (-13), 3) := by decide +kernel
theorem d_R_clearRow_18 : decode b_R_clearRow 18 = .ok (.return_, 1) := by decide +kernel
theorem d_P_init_0 : decode b_P_init 0 = .ok (.aload_n 0, 1) := by decide +kernel
theorem d_P_init_1 : decode b_P_init 1 = .ok (.invokespecial 3, 3) := by decide +kernel
theorem d_P_init_4 : decode b_P_init 4 = .ok (.aload_n 0, 1) := by decide +kernel
theorem d_P_init_5 : decode b_P_init 5 = .ok (.iconst 0, 1) := by decide +kernel
theorem d_P_init_6 : decode b_P_init 6 = .ok (.putfield 9, 3) := by decide +kernel
theorem d_P_init_9 : decode b_P_init 9 = .ok (.aload_n 0, 1) := by decide +kernel
theorem d_P_init_10 : decode b_P_init 10 = .ok (.iconst 0, 1) := by decide +kernel
theorem d_P_init_11 : decode b_P_init 11 = .ok (.putfield 15, 3) := by decide +kernel
theorem d_P_init_14 : decode b_P_init 14 = .ok (.aload_n 0, 1) := by decide +kernel
theorem d_P_init_15 : decode b_P_init 15 = .ok (.bipush 11, 2) := by decide +kernel
theorem d_P_init_17 : decode b_P_init 17 = .ok (.putfield 18, 3) := by decide +kernel
theorem d_P_init_20 : decode b_P_init 20 = .ok (.aload_n 0, 1) := by decide +kernel
theorem d_P_init_21 : decode b_P_init 21 = .ok (.bipush 7, 2) := by decide +kernel
theorem d_P_init_23 : decode b_P_init 23 = .ok (.putfield 21, 3) := by decide +kernel
theorem d_P_init_26 : decode b_P_init 26 = .ok (.aload_n 0, 1) := by decide +kernel
theorem d_P_init_27 : decode b_P_init 27 = .ok (.bipush 7, 2) := by decide +kernel
theorem d_P_init_29 : decode b_P_init 29 = .ok (.putfield 24, 3) := by decide +kernel
theorem d_P_init_32 : decode b_P_init 32 = .ok (.aload_n 0, 1) := by decide +kernel
theorem d_P_init_33 : decode b_P_init 33 = .ok (.iconst 0, 1) := by decide +kernel
theorem d_P_init_34 : decode b_P_init 34 = .ok (.putfield 27, 3) := by decide +kernel
theorem d_P_init_37 : decode b_P_init 37 = .ok (.aload_n 0, 1) := by decide +kernel
theorem d_P_init_38 : decode b_P_init 38 = .ok (.bipush 6, 2) := by decide +kernel
theorem d_P_init_40 : decode b_P_init 40 = .ok (.newarray .int, 2) := by decide +kernel
theorem d_P_init_42 : decode b_P_init 42 = .ok (.putfield 30, 3) := by decide +kernel
theorem d_P_init_45 : decode b_P_init 45 = .ok (.aload_n 0, 1) := by decide +kernel
theorem d_P_init_46 : decode b_P_init 46 = .ok (.bipush 6, 2) := by decide +kernel
theorem d_P_init_48 : decode b_P_init 48 = .ok (.newarray .int, 2) := by decide +kernel
theorem d_P_init_50 : decode b_P_init 50 = .ok (.putfield 34, 3) := by decide +kernel
theorem d_P_init_53 : decode b_P_init 53 = .ok (.aload_n 0, 1) := by decide +kernel
theorem d_P_init_54 : decode b_P_init 54 = .ok (.bipush 28, 2) := by decide +kernel
theorem d_P_init_56 : decode b_P_init 56 = .ok (.newarray .int, 2) := by decide +kernel
theorem d_P_init_58 : decode b_P_init 58 = .ok (.putfield 37, 3) := by decide +kernel
theorem d_P_init_61 : decode b_P_init 61 = .ok (.aload_n 0, 1) := by decide +kernel
theorem d_P_init_62 : decode b_P_init 62 = .ok (.bipush 28, 2) := by decide +kernel
theorem d_P_init_64 : decode b_P_init 64 = .ok (.newarray .int, 2) := by decide +kernel
theorem d_P_init_66 : decode b_P_init 66 = .ok (.putfield 40, 3) := by decide +kernel
theorem d_P_init_69 : decode b_P_init 69 = .ok (.aload_n 0, 1) := by decide +kernel
theorem d_P_init_70 : decode b_P_init 70 = .ok (.sipush 168, 3) := by decide +kernel
theorem d_P_init_73 : decode b_P_init 73 = .ok (.newarray .boolean, 2) := by decide +kernel
theorem d_P_init_75 : decode b_P_init 75 = .ok (.putfield 43, 3) := by decide +kernel
theorem d_P_init_78 : decode b_P_init 78 = .ok (.aload_n 0, 1) := by decide +kernel
theorem d_P_init_79 : decode b_P_init 79 = .ok (.sipush 168, 3) := by decide +kernel
theorem d_P_init_82 : decode b_P_init 82 = .ok (.newarray .int, 2) := by decide +kernel
theorem d_P_init_84 : decode b_P_init 84 = .ok (.putfield 47, 3) := by decide +kernel
theorem d_P_init_87 : decode b_P_init 87 = .ok (.return_, 1) := by decide +kernel
theorem d_P_startDays_0 : decode b_P_startDays 0 = .ok (.aload_n 0, 1) := by decide +kernel
theorem d_P_startDays_1 : decode b_P_startDays 1 = .ok (.iload_n 1, 1) := by decide +kernel
theorem d_P_startDays_2 : decode b_P_startDays 2 = .ok (.putfield 15, 3) := by decide +kernel
theorem d_P_startDays_5 : decode b_P_startDays 5 = .ok (.aload_n 0, 1) := by decide +kernel
theorem d_P_startDays_6 : decode b_P_startDays 6 = .ok (.iconst 0, 1) := by decide +kernel
theorem d_P_startDays_7 : decode b_P_startDays 7 = .ok (.putfield 27, 3) := by decide +kernel
theorem d_P_startDays_10 : decode b_P_startDays 10 = .ok (.aload_n 0, 1) := by decide +kernel
theorem d_P_startDays_11 : decode b_P_startDays 11 = .ok (.getfield 37, 3) := by decide +kernel
theorem d_P_startDays_14 : decode b_P_startDays 14 = .ok (.invokestatic 50, 3) := by decide +kernel
theorem d_P_startDays_17 : decode b_P_startDays 17 = .ok (.aload_n 0, 1) := by decide +kernel
theorem d_P_startDays_18 : decode b_P_startDays 18 = .ok (.getfield 40, 3) := by decide +kernel
theorem d_P_startDays_21 : decode b_P_startDays 21 = .ok (.invokestatic 50, 3) := by decide +kernel
theorem d_P_startDays_24 : decode b_P_startDays 24 = .ok (.aload_n 0, 1) := by decide +kernel
theorem d_P_startDays_25 : decode b_P_startDays 25 = .ok (.getfield 47, 3) := by decide +kernel
theorem d_P_startDays_28 : decode b_P_startDays 28 = .ok (.invokestatic 50, 3) := by decide +kernel
theorem d_P_startDays_31 : decode b_P_startDays 31 = .ok (.iconst 0, 1) := by decide +kernel
theorem d_P_startDays_32 : decode b_P_startDays 32 = .ok (.istore_n 2, 1) := by decide +kernel
theorem d_P_startDays_33 : decode b_P_startDays 33 = .ok (.iload_n 2, 1) := by decide +kernel
theorem d_P_startDays_34 : decode b_P_startDays 34 = .ok (.aload_n 0, 1) := by decide +kernel
theorem d_P_startDays_35 : decode b_P_startDays 35 = .ok (.getfield 43, 3) := by decide +kernel
theorem d_P_startDays_38 : decode b_P_startDays 38 = .ok (.arraylength, 1) := by decide +kernel
theorem d_P_startDays_39 : decode b_P_startDays 39 = .ok (.if_icmp .ge 16, 3) := by decide +kernel
theorem d_P_startDays_42 : decode b_P_startDays 42 = .ok (.aload_n 0, 1) := by decide +kernel
theorem d_P_startDays_43 : decode b_P_startDays 43 = .ok (.getfield 43, 3) := by decide +kernel
theorem d_P_startDays_46 : decode b_P_startDays 46 = .ok (.iload_n 2, 1) := by decide +kernel
theorem d_P_startDays_47 : decode b_P_startDays 47 = .ok (.iconst 0, 1) := by decide +kernel
theorem d_P_startDays_48 : decode b_P_startDays 48 = .ok (.bastore, 1) := by decide +kernel
theorem d_P_startDays_49 : decode b_P_startDays 49 = .ok (.iinc 2 1, 3) := by decide +kernel
theorem d_P_startDays_52 : decode b_P_startDays 52 = .ok (.goto (-19), 3) := by decide +kernel
theorem d_P_startDays_55 : decode b_P_startDays 55 = .ok (.return_, 1) := by decide +kernel
theorem d_P_addPerson_0 : decode b_P_addPerson 0 = .ok (.aload_n 0, 1) := by decide +kernel
theorem d_P_addPerson_1 : decode b_P_addPerson 1 = .ok (.getfield 9, 3) := by decide +kernel
theorem d_P_addPerson_4 : decode b_P_addPerson 4 = .ok (.istore_n 3, 1) := by decide +kernel
theorem d_P_addPerson_5 : decode b_P_addPerson 5 = .ok (.aload_n 0, 1) := by decide +kernel
theorem d_P_addPerson_6 : decode b_P_addPerson 6 = .ok (.getfield 30, 3) := by decide +kernel
theorem d_P_addPerson_9 : decode b_P_addPerson 9 = .ok (.iload_n 3, 1) := by decide +kernel
theorem d_P_addPerson_10 : decode b_P_addPerson 10 = .ok (.iload_n 1, 1) := by decide +kernel
theorem d_P_addPerson_11 : decode b_P_addPerson 11 = .ok (.iastore, 1) := by decide +kernel
theorem d_P_addPerson_12 : decode b_P_addPerson 12 = .ok (.aload_n 0, 1) := by decide +kernel
theorem d_P_addPerson_13 : decode b_P_addPerson 13 = .ok (.getfield 34, 3) := by decide +kernel
theorem d_P_addPerson_16 : decode b_P_addPerson 16 = .ok (.iload_n 3, 1) := by decide +kernel
theorem d_P_addPerson_17 : decode b_P_addPerson 17 = .ok (.iload_n 2, 1) := by decide +kernel
theorem d_P_addPerson_18 : decode b_P_addPerson 18 = .ok (.iastore, 1) := by decide +kernel
theorem d_P_addPerson_19 : decode b_P_addPerson 19 = .ok (.aload_n 0, 1) := by decide +kernel
theorem d_P_addPerson_20 : decode b_P_addPerson 20 = .ok (.dup, 1) := by decide +kernel
theorem d_P_addPerson_21 : decode b_P_addPerson 21 = .ok (.getfield 9, 3) := by decide +kernel
theorem d_P_addPerson_24 : decode b_P_addPerson 24 = .ok (.iconst 1, 1) := by decide +kernel
theorem d_P_addPerson_25 : decode b_P_addPerson 25 = .ok (.iadd, 1) := by decide +kernel
theorem d_P_addPerson_26 : decode b_P_addPerson 26 = .ok (.putfield 9, 3) := by decide +kernel
theorem d_P_addPerson_29 : decode b_P_addPerson 29 = .ok (.iload_n 3, 1) := by decide +kernel
theorem d_P_addPerson_30 : decode b_P_addPerson 30 = .ok (.ireturn, 1) := by decide +kernel
theorem d_P_putNeed_0 : decode b_P_putNeed 0 = .ok (.aload_n 0, 1) := by decide +kernel
theorem d_P_putNeed_1 : decode b_P_putNeed 1 = .ok (.getfield 37, 3) := by decide +kernel
theorem d_P_putNeed_4 : decode b_P_putNeed 4 = .ok (.iload_n 1, 1) := by decide +kernel
theorem d_P_putNeed_5 : decode b_P_putNeed 5 = .ok (.iload_n 2, 1) := by decide +kernel
theorem d_P_putNeed_6 : decode b_P_putNeed 6 = .ok (.invokestatic 54, 3) := by decide +kernel
theorem d_P_putNeed_9 : decode b_P_putNeed 9 = .ok (.iload_n 3, 1) := by decide +kernel
theorem d_P_putNeed_10 : decode b_P_putNeed 10 = .ok (.iastore, 1) := by decide +kernel
theorem d_P_putNeed_11 : decode b_P_putNeed 11 = .ok (.aload_n 0, 1) := by decide +kernel
theorem d_P_putNeed_12 : decode b_P_putNeed 12 = .ok (.getfield 40, 3) := by decide +kernel
theorem d_P_putNeed_15 : decode b_P_putNeed 15 = .ok (.iload_n 1, 1) := by decide +kernel
theorem d_P_putNeed_16 : decode b_P_putNeed 16 = .ok (.iload_n 2, 1) := by decide +kernel
theorem d_P_putNeed_17 : decode b_P_putNeed 17 = .ok (.invokestatic 54, 3) := by decide +kernel
theorem d_P_putNeed_20 : decode b_P_putNeed 20 = .ok (.iload 4, 2) := by decide +kernel
theorem d_P_putNeed_22 : decode b_P_putNeed 22 = .ok (.iastore, 1) := by decide +kernel
theorem d_P_putNeed_23 : decode b_P_putNeed 23 = .ok (.return_, 1) := by decide +kernel
theorem d_P_putRules_0 : decode b_P_putRules 0 = .ok (.aload_n 0, 1) := by decide +kernel
theorem d_P_putRules_1 : decode b_P_putRules 1 = .ok (.iload_n 1, 1) := by decide +kernel
theorem d_P_putRules_2 : decode b_P_putRules 2 = .ok (.putfield 18, 3) := by decide +kernel
theorem d_P_putRules_5 : decode b_P_putRules 5 = .ok (.aload_n 0, 1) := by decide +kernel
theorem d_P_putRules_6 : decode b_P_putRules 6 = .ok (.iload_n 2, 1) := by decide +kernel
theorem d_P_putRules_7 : decode b_P_putRules 7 = .ok (.putfield 21, 3) := by decide +kernel
theorem d_P_putRules_10 : decode b_P_putRules 10 = .ok (.aload_n 0, 1) := by decide +kernel
theorem d_P_putRules_11 : decode b_P_putRules 11 = .ok (.iload_n 3, 1) := by decide +kernel
theorem d_P_putRules_12 : decode b_P_putRules 12 = .ok (.putfield 24, 3) := by decide +kernel
theorem d_P_putRules_15 : decode b_P_putRules 15 = .ok (.return_, 1) := by decide +kernel
theorem d_P_addWish_0 : decode b_P_addWish 0 = .ok (.iconst 0, 1) := by decide +kernel
theorem d_P_addWish_1 : decode b_P_addWish 1 = .ok (.istore 5, 2) := by decide +kernel
theorem d_P_addWish_3 : decode b_P_addWish 3 = .ok (.iload 5, 2) := by decide +kernel
theorem d_P_addWish_5 : decode b_P_addWish 5 = .ok (.iconst 3, 1) := by decide +kernel
theorem d_P_addWish_6 : decode b_P_addWish 6 = .ok (.if_icmp .gt 50, 3) := by decide +kernel
theorem d_P_addWish_9 : decode b_P_addWish 9 = .ok (.iload 5, 2) := by decide +kernel
theorem d_P_addWish_11 : decode b_P_addWish 11 = .ok (.iload_n 2, 1) := by decide +kernel
theorem d_P_addWish_12 : decode b_P_addWish 12 = .ok (.if_icmp .ne 7, 3) := by decide +kernel
theorem d_P_addWish_15 : decode b_P_addWish 15 = .ok (.iconst 1, 1) := by decide +kernel
theorem d_P_addWish_16 : decode b_P_addWish 16 = .ok (.goto 4, 3) := by decide +kernel
theorem d_P_addWish_19 : decode b_P_addWish 19 = .ok (.iconst 0, 1) := by decide +kernel
theorem d_P_addWish_20 : decode b_P_addWish 20 = .ok (.iload_n 3, 1) := by decide +kernel
theorem d_P_addWish_21 : decode b_P_addWish 21 = .ok (.if_icmp .ne 7, 3) := by decide +kernel
theorem d_P_addWish_24 : decode b_P_addWish 24 = .ok (.iconst 1, 1) := by decide +kernel
theorem d_P_addWish_25 : decode b_P_addWish 25 = .ok (.goto 4, 3) := by decide +kernel
theorem d_P_addWish_28 : decode b_P_addWish 28 = .ok (.iconst 0, 1) := by decide +kernel
theorem d_P_addWish_29 : decode b_P_addWish 29 = .ok (.istore 6, 2) := by decide +kernel
theorem d_P_addWish_31 : decode b_P_addWish 31 = .ok (.iload 6, 2) := by decide +kernel
theorem d_P_addWish_33 : decode b_P_addWish 33 = .ok (.ifCond .ne 17, 3) := by decide +kernel
theorem d_P_addWish_36 : decode b_P_addWish 36 = .ok (.aload_n 0, 1) := by decide +kernel
theorem d_P_addWish_37 : decode b_P_addWish 37 = .ok (.getfield 47, 3) := by decide +kernel
theorem d_P_addWish_40 : decode b_P_addWish 40 = .ok (.iload_n 1, 1) := by decide +kernel
theorem d_P_addWish_41 : decode b_P_addWish 41 = .ok (.iload 5, 2) := by decide +kernel
theorem d_P_addWish_43 : decode b_P_addWish 43 = .ok (.iadd, 1) := by decide +kernel
theorem d_P_addWish_44 : decode b_P_addWish 44 = .ok (.dup2, 1) := by decide +kernel
theorem d_P_addWish_45 : decode b_P_addWish 45 = .ok (.iaload, 1) := by decide +kernel
theorem d_P_addWish_46 : decode b_P_addWish 46 = .ok (.iload 4, 2) := by decide +kernel
theorem d_P_addWish_48 : decode b_P_addWish 48 = .ok (.iadd, 1) := by decide +kernel
theorem d_P_addWish_49 : decode b_P_addWish 49 = .ok (.iastore, 1) := by decide +kernel
theorem d_P_addWish_50 : decode b_P_addWish 50 = .ok (.iinc 5 1, 3) := by decide +kernel
theorem d_P_addWish_53 : decode b_P_addWish 53 = .ok (.goto (-50), 3) := by decide +kernel
theorem d_P_addWish_56 : decode b_P_addWish 56 = .ok (.aload_n 0, 1) := by decide +kernel
theorem d_P_addWish_57 : decode b_P_addWish 57 = .ok (.getfield 27, 3) := by decide +kernel
theorem d_P_addWish_60 : decode b_P_addWish 60 = .ok (.istore 5, 2) := by decide +kernel
theorem d_P_addWish_62 : decode b_P_addWish 62 = .ok (.aload_n 0, 1) := by decide +kernel
theorem d_P_addWish_63 : decode b_P_addWish 63 = .ok (.dup, 1) := by decide +kernel
theorem d_P_addWish_64 : decode b_P_addWish 64 = .ok (.getfield 27, 3) := by decide +kernel
theorem d_P_addWish_67 : decode b_P_addWish 67 = .ok (.iconst 1, 1) := by decide +kernel
theorem d_P_addWish_68 : decode b_P_addWish 68 = .ok (.iadd, 1) := by decide +kernel
theorem d_P_addWish_69 : decode b_P_addWish 69 = .ok (.putfield 27, 3) := by decide +kernel
theorem d_P_addWish_72 : decode b_P_addWish 72 = .ok (.iload 5, 2) := by decide +kernel
theorem d_P_addWish_74 : decode b_P_addWish 74 = .ok (.ireturn, 1) := by decide +kernel
theorem d_P_firstFault_0 : decode b_P_firstFault 0 = .ok (.aload_n 0, 1) := by decide +kernel
theorem d_P_firstFault_1 : decode b_P_firstFault 1 = .ok (.aload_n 1, 1) := by decide +kernel
theorem d_P_firstFault_2 : decode b_P_firstFault 2 = .ok (.invokevirtual 58, 3) := by decide +kernel
theorem d_P_firstFault_5 : decode b_P_firstFault 5 = .ok (.istore_n 2, 1) := by decide +kernel
theorem d_P_firstFault_6 : decode b_P_firstFault 6 = .ok (.iload_n 2, 1) := by decide +kernel
theorem d_P_firstFault_7 : decode b_P_firstFault 7 = .ok (.ifCond .ne 9, 3) := by decide +kernel
theorem d_P_firstFault_10 : decode b_P_firstFault 10 = .ok (.aload_n 0, 1) := by decide +kernel
theorem d_P_firstFault_11 : decode b_P_firstFault 11 = .ok (.aload_n 1, 1) := by decide +kernel
theorem d_P_firstFault_12 : decode b_P_firstFault 12 = .ok (.invokevirtual 62, 3) := by decide +kernel
theorem d_P_firstFault_15 : decode b_P_firstFault 15 = .ok (.istore_n 2, 1) := by decide +kernel
theorem d_P_firstFault_16 : decode b_P_firstFault 16 = .ok (.iload_n 2, 1) := by decide +kernel
theorem d_P_firstFault_17 : decode b_P_firstFault 17 = .ok (.ifCond .ne 9, 3) := by decide +kernel
theorem d_P_firstFault_20 : decode b_P_firstFault 20 = .ok (.aload_n 0, 1) := by decide +kernel
theorem d_P_firstFault_21 : decode b_P_firstFault 21 = .ok (.aload_n 1, 1) := by decide +kernel
theorem d_P_firstFault_22 : decode b_P_firstFault 22 = .ok (.invokevirtual 65, 3) := by decide +kernel
theorem d_P_firstFault_25 : decode b_P_firstFault 25 = .ok (.istore_n 2, 1) := by decide +kernel
theorem d_P_firstFault_26 : decode b_P_firstFault 26 = .ok (.iload_n 2, 1) := by decide +kernel
theorem d_P_firstFault_27 : decode b_P_firstFault 27 = .ok (.ifCond .ne 9, 3) := by decide +kernel
theorem d_P_firstFault_30 : decode b_P_firstFault 30 = .ok (.aload_n 0, 1) := by decide +kernel
theorem d_P_firstFault_31 : decode b_P_firstFault 31 = .ok (.aload_n 1, 1) := by decide +kernel
theorem d_P_firstFault_32 : decode b_P_firstFault 32 = .ok (.invokevirtual 68, 3) := by decide +kernel
theorem d_P_firstFault_35 : decode b_P_firstFault 35 = .ok (.istore_n 2, 1) := by decide +kernel
theorem d_P_firstFault_36 : decode b_P_firstFault 36 = .ok (.iload_n 2, 1) := by decide +kernel
theorem d_P_firstFault_37 : decode b_P_firstFault 37 = .ok (.ifCond .ne 11, 3) := by decide +kernel
theorem d_P_firstFault_40 : decode b_P_firstFault 40 = .ok (.aload_n 0, 1) := by decide +kernel
theorem d_P_firstFault_41 : decode b_P_firstFault 41 = .ok (.aload_n 1, 1) := by decide +kernel
theorem d_P_firstFault_42 : decode b_P_firstFault 42 = .ok (.invokevirtual 71, 3) := by decide +kernel
theorem d_P_firstFault_45 : decode b_P_firstFault 45 = .ok (.goto 4, 3) := by decide +kernel
theorem d_P_firstFault_48 : decode b_P_firstFault 48 = .ok (.iload_n 2, 1) := by decide +kernel
theorem d_P_firstFault_49 : decode b_P_firstFault 49 = .ok (.ireturn, 1) := by decide +kernel
theorem d_P_firstNeedFault_0 : decode b_P_firstNeedFault 0 = .ok (.iconst 0, 1) := by decide +kernel
theorem d_P_firstNeedFault_1 : decode b_P_firstNeedFault 1 = .ok (.istore_n 2, 1) := by decide +kernel
theorem d_P_firstNeedFault_2 : decode b_P_firstNeedFault 2 = .ok (.iload_n 2, 1) := by decide +kernel
theorem d_P_firstNeedFault_3 : decode b_P_firstNeedFault 3 = .ok (.aload_n 0, 1) := by decide +kernel
theorem d_P_firstNeedFault_4 : decode b_P_firstNeedFault 4 = .ok (.getfield 15, 3) := by decide +kernel
theorem d_P_firstNeedFault_7 : decode b_P_firstNeedFault 7 = .ok (.if_icmp .ge 27, 3) := by decide +kernel
theorem d_P_firstNeedFault_10 : decode b_P_firstNeedFault 10 = .ok (.aload_n 0, 1) := by decide +kernel
theorem d_P_firstNeedFault_11 : decode b_P_firstNeedFault 11 = .ok (.aload_n 1, 1) := by decide +kernel
theorem d_P_firstNeedFault_12 : decode b_P_firstNeedFault 12 = .ok (.iload_n 2, 1) := by decide +kernel
theorem d_P_firstNeedFault_13 : decode b_P_firstNeedFault 13 = .ok (.invokevirtual 74, 3) := by decide +kernel
theorem d_P_firstNeedFault_16 : decode b_P_firstNeedFault 16 = .ok (.istore_n 3, 1) := by decide +kernel
theorem d_P_firstNeedFault_17 : decode b_P_firstNeedFault 17 = .ok (.iload_n 3, 1) := by decide +kernel
theorem d_P_firstNeedFault_18 : decode b_P_firstNeedFault 18 = .ok (.ifCond .eq 10, 3) := by decide +kernel
theorem d_P_firstNeedFault_21 : decode b_P_firstNeedFault 21 = .ok (.iconst 1, 1) := by decide +kernel
theorem d_P_firstNeedFault_22 : decode b_P_firstNeedFault 22 = .ok (.iload_n 3, 1) := by decide +kernel
theorem d_P_firstNeedFault_23 : decode b_P_firstNeedFault 23 = .ok (.iload_n 2, 1) := by decide +kernel
theorem d_P_firstNeedFault_24 : decode b_P_firstNeedFault 24 = .ok (.invokestatic 78, 3) := by decide +kernel
theorem d_P_firstNeedFault_27 : decode b_P_firstNeedFault 27 = .ok (.ireturn, 1) := by decide +kernel
theorem d_P_firstNeedFault_28 : decode b_P_firstNeedFault 28 = .ok (.iinc 2 1, 3) := by decide +kernel
theorem d_P_firstNeedFault_31 : decode b_P_firstNeedFault 31 = .ok (.goto (-29), 3) := by decide +kernel
theorem d_P_firstNeedFault_34 : decode b_P_firstNeedFault 34 = .ok (.iconst 0, 1) := by decide +kernel
theorem d_P_firstNeedFault_35 : decode b_P_firstNeedFault 35 = .ok (.ireturn, 1) := by decide +kernel
theorem d_P_firstNeedUnmet_0 : decode b_P_firstNeedUnmet 0 = .ok (.iconst 1, 1) := by decide +kernel
theorem d_P_firstNeedUnmet_1 : decode b_P_firstNeedUnmet 1 = .ok (.istore_n 3, 1) := by decide +kernel
theorem d_P_firstNeedUnmet_2 : decode b_P_firstNeedUnmet 2 = .ok (.iload_n 3, 1) := by decide +kernel
theorem d_P_firstNeedUnmet_3 : decode b_P_firstNeedUnmet 3 = .ok (.iconst 3, 1) := by decide +kernel
theorem d_P_firstNeedUnmet_4 : decode b_P_firstNeedUnmet 4 = .ok (.if_icmp .gt 21, 3) := by decide +kernel
theorem d_P_firstNeedUnmet_7 : decode b_P_firstNeedUnmet 7 = .ok (.aload_n 0, 1) := by decide +kernel
theorem d_P_firstNeedUnmet_8 : decode b_P_firstNeedUnmet 8 = .ok (.aload_n 1, 1) := by decide +kernel
theorem d_P_firstNeedUnmet_9 : decode b_P_firstNeedUnmet 9 = .ok (.iload_n 2, 1) := by decide +kernel
theorem d_P_firstNeedUnmet_10 : decode b_P_firstNeedUnmet 10 = .ok (.iload_n 3, 1) := by decide +kernel
theorem d_P_firstNeedUnmet_11 : decode b_P_firstNeedUnmet 11 = .ok (.invokevirtual 82, 3) := by decide +kernel
theorem d_P_firstNeedUnmet_14 : decode b_P_firstNeedUnmet 14 = .ok (.ifCond .ne 5, 3) := by decide +kernel
theorem d_P_firstNeedUnmet_17 : decode b_P_firstNeedUnmet 17 = .ok (.iload_n 3, 1) := by decide +kernel
theorem d_P_firstNeedUnmet_18 : decode b_P_firstNeedUnmet 18 = .ok (.ireturn, 1) := by decide +kernel
theorem d_P_firstNeedUnmet_19 : decode b_P_firstNeedUnmet 19 = .ok (.iinc 3 1, 3) := by decide +kernel
theorem d_P_firstNeedUnmet_22 : decode b_P_firstNeedUnmet 22 = .ok (.goto (-20), 3) := by decide +kernel
theorem d_P_firstNeedUnmet_25 : decode b_P_firstNeedUnmet 25 = .ok (.iconst 0, 1) := by decide +kernel
theorem d_P_firstNeedUnmet_26 : decode b_P_firstNeedUnmet 26 = .ok (.ireturn, 1) := by decide +kernel
theorem d_P_meetsNeed_0 : decode b_P_meetsNeed 0 = .ok (.iconst 0, 1) := by decide +kernel
theorem d_P_meetsNeed_1 : decode b_P_meetsNeed 1 = .ok (.istore 4, 2) := by decide +kernel
theorem d_P_meetsNeed_3 : decode b_P_meetsNeed 3 = .ok (.iconst 0, 1) := by decide +kernel
theorem d_P_meetsNeed_4 : decode b_P_meetsNeed 4 = .ok (.istore 5, 2) := by decide +kernel
theorem d_P_meetsNeed_6 : decode b_P_meetsNeed 6 = .ok (.iconst 0, 1) := by decide +kernel
theorem d_P_meetsNeed_7 : decode b_P_meetsNeed 7 = .ok (.istore 6, 2) := by decide +kernel
theorem d_P_meetsNeed_9 : decode b_P_meetsNeed 9 = .ok (.iload 6, 2) := by decide +kernel
theorem d_P_meetsNeed_11 : decode b_P_meetsNeed 11 = .ok (.aload_n 0, 1) := by decide +kernel
theorem d_P_meetsNeed_12 : decode b_P_meetsNeed 12 = .ok (.getfield 9, 3) := by decide +kernel
theorem d_P_meetsNeed_15 : decode b_P_meetsNeed 15 = .ok (.if_icmp .ge 36, 3) := by decide +kernel
theorem d_P_meetsNeed_18 : decode b_P_meetsNeed 18 = .ok (.aload_n 1, 1) := by decide +kernel
theorem d_P_meetsNeed_19 : decode b_P_meetsNeed 19 = .ok (.iload 6, 2) := by decide +kernel
theorem d_P_meetsNeed_21 : decode b_P_meetsNeed 21 = .ok (.iload_n 2, 1) := by decide +kernel
theorem d_P_meetsNeed_22 : decode b_P_meetsNeed 22 = .ok (.invokestatic 86, 3) := by decide +kernel
theorem d_P_meetsNeed_25 : decode b_P_meetsNeed 25 = .ok (.iaload, 1) := by decide +kernel
theorem d_P_meetsNeed_26 : decode b_P_meetsNeed 26 = .ok (.iload_n 3, 1) := by decide +kernel
theorem d_P_meetsNeed_27 : decode b_P_meetsNeed 27 = .ok (.if_icmp .ne 18, 3) := by decide +kernel
theorem d_P_meetsNeed_30 : decode b_P_meetsNeed 30 = .ok (.iinc 4 1, 3) := by decide +kernel
theorem d_P_meetsNeed_33 : decode b_P_meetsNeed 33 = .ok (.iload 5, 2) := by decide +kernel
theorem d_P_meetsNeed_35 : decode b_P_meetsNeed 35 = .ok (.aload_n 0, 1) := by decide +kernel
theorem d_P_meetsNeed_36 : decode b_P_meetsNeed 36 = .ok (.getfield 30, 3) := by decide +kernel
theorem d_P_meetsNeed_39 : decode b_P_meetsNeed 39 = .ok (.iload 6, 2) := by decide +kernel
theorem d_P_meetsNeed_41 : decode b_P_meetsNeed 41 = .ok (.iaload, 1) := by decide +kernel
theorem d_P_meetsNeed_42 : decode b_P_meetsNeed 42 = .ok (.ior, 1) := by decide +kernel
theorem d_P_meetsNeed_43 : decode b_P_meetsNeed 43 = .ok (.istore 5, 2) := by decide +kernel
theorem d_P_meetsNeed_45 : decode b_P_meetsNeed 45 = .ok (.iinc 6 1, 3) := by decide +kernel
theorem d_P_meetsNeed_48 : decode b_P_meetsNeed 48 = .ok (.goto (-39), 3) := by decide +kernel
theorem d_P_meetsNeed_51 : decode b_P_meetsNeed 51 = .ok (.aload_n 0, 1) := by decide +kernel
theorem d_P_meetsNeed_52 : decode b_P_meetsNeed 52 = .ok (.getfield 40, 3) := by decide +kernel
theorem d_P_meetsNeed_55 : decode b_P_meetsNeed 55 = .ok (.iload_n 2, 1) := by decide +kernel
theorem d_P_meetsNeed_56 : decode b_P_meetsNeed 56 = .ok (.iload_n 3, 1) := by decide +kernel
theorem d_P_meetsNeed_57 : decode b_P_meetsNeed 57 = .ok (.invokestatic 54, 3) := by decide +kernel
theorem d_P_meetsNeed_60 : decode b_P_meetsNeed 60 = .ok (.iaload, 1) := by decide +kernel
theorem d_P_meetsNeed_61 : decode b_P_meetsNeed 61 = .ok (.istore 6, 2) := by decide +kernel
theorem d_P_meetsNeed_63 : decode b_P_meetsNeed 63 = .ok (.iload 4, 2) := by decide +kernel
theorem d_P_meetsNeed_65 : decode b_P_meetsNeed 65 = .ok (.aload_n 0, 1) := by decide +kernel
theorem d_P_meetsNeed_66 : decode b_P_meetsNeed 66 = .ok (.getfield 37, 3) := by decide +kernel
theorem d_P_meetsNeed_69 : decode b_P_meetsNeed 69 = .ok (.iload_n 2, 1) := by decide +kernel
theorem d_P_meetsNeed_70 : decode b_P_meetsNeed 70 = .ok (.iload_n 3, 1) := by decide +kernel
theorem d_P_meetsNeed_71 : decode b_P_meetsNeed 71 = .ok (.invokestatic 54, 3) := by decide +kernel
theorem d_P_meetsNeed_74 : decode b_P_meetsNeed 74 = .ok (.iaload, 1) := by decide +kernel
theorem d_P_meetsNeed_75 : decode b_P_meetsNeed 75 = .ok (.if_icmp .lt 17, 3) := by decide +kernel
theorem d_P_meetsNeed_78 : decode b_P_meetsNeed 78 = .ok (.iload 5, 2) := by decide +kernel
theorem d_P_meetsNeed_80 : decode b_P_meetsNeed 80 = .ok (.iload 6, 2) := by decide +kernel
theorem d_P_meetsNeed_82 : decode b_P_meetsNeed 82 = .ok (.iand, 1) := by decide +kernel
theorem d_P_meetsNeed_83 : decode b_P_meetsNeed 83 = .ok (.iload 6, 2) := by decide +kernel
theorem d_P_meetsNeed_85 : decode b_P_meetsNeed 85 = .ok (.if_icmp .ne 7, 3) := by decide +kernel
theorem d_P_meetsNeed_88 : decode b_P_meetsNeed 88 = .ok (.iconst 1, 1) := by decide +kernel
theorem d_P_meetsNeed_89 : decode b_P_meetsNeed 89 = .ok (.goto 4, 3) := by decide +kernel
theorem d_P_meetsNeed_92 : decode b_P_meetsNeed 92 = .ok (.iconst 0, 1) := by decide +kernel
theorem d_P_meetsNeed_93 : decode b_P_meetsNeed 93 = .ok (.ireturn, 1) := by decide +kernel
theorem d_P_firstRestFault_0 : decode b_P_firstRestFault 0 = .ok (.iconst 0, 1) := by decide +kernel
theorem d_P_firstRestFault_1 : decode b_P_firstRestFault 1 = .ok (.istore_n 2, 1) := by decide +kernel
theorem d_P_firstRestFault_2 : decode b_P_firstRestFault 2 = .ok (.iload_n 2, 1) := by decide +kernel
theorem d_P_firstRestFault_3 : decode b_P_firstRestFault 3 = .ok (.aload_n 0, 1) := by decide +kernel
theorem d_P_firstRestFault_4 : decode b_P_firstRestFault 4 = .ok (.getfield 9, 3) := by decide +kernel
theorem d_P_firstRestFault_7 : decode b_P_firstRestFault 7 = .ok (.if_icmp .ge 55, 3) := by decide +kernel
theorem d_P_firstRestFault_10 : decode b_P_firstRestFault 10 = .ok (.iconst 1, 1) := by decide +kernel
theorem d_P_firstRestFault_11 : decode b_P_firstRestFault 11 = .ok (.istore_n 3, 1) := by decide +kernel
theorem d_P_firstRestFault_12 : decode b_P_firstRestFault 12 = .ok (.iload_n 3, 1) := by decide +kernel
theorem d_P_firstRestFault_13 : decode b_P_firstRestFault 13 = .ok (.aload_n 0, 1) := by decide +kernel
theorem d_P_firstRestFault_14 : decode b_P_firstRestFault 14 = .ok (.getfield 15, 3) := by decide +kernel
theorem d_P_firstRestFault_17 : decode b_P_firstRestFault 17 = .ok (.if_icmp .ge 39, 3) := by decide +kernel
theorem d_P_firstRestFault_20 : decode b_P_firstRestFault 20 = .ok (.aload_n 0, 1) := by decide +kernel
theorem d_P_firstRestFault_21 : decode b_P_firstRestFault 21 = .ok (.aload_n 1, 1) := by decide +kernel
theorem d_P_firstRestFault_22 : decode b_P_firstRestFault 22 = .ok (.iload_n 2, 1) := by decide +kernel
theorem d_P_firstRestFault_23 : decode b_P_firstRestFault 23 = .ok (.iload_n 3, 1) := by decide +kernel
theorem d_P_firstRestFault_24 : decode b_P_firstRestFault 24 = .ok (.iconst 1, 1) := by decide +kernel
theorem d_P_firstRestFault_25 : decode b_P_firstRestFault 25 = .ok (.isub, 1) := by decide +kernel
theorem d_P_firstRestFault_26 : decode b_P_firstRestFault 26 = .ok (.invokestatic 86, 3) := by decide +kernel
theorem d_P_firstRestFault_29 : decode b_P_firstRestFault 29 = .ok (.iaload, 1) := by decide +kernel
theorem d_P_firstRestFault_30 : decode b_P_firstRestFault 30 = .ok (.aload_n 1, 1) := by decide +kernel
theorem d_P_firstRestFault_31 : decode b_P_firstRestFault 31 = .ok (.iload_n 2, 1) := by decide +kernel
theorem d_P_firstRestFault_32 : decode b_P_firstRestFault 32 = .ok (.iload_n 3, 1) := by decide +kernel
theorem d_P_firstRestFault_33 : decode b_P_firstRestFault 33 = .ok (.invokestatic 86, 3) := by decide +kernel
theorem d_P_firstRestFault_36 : decode b_P_firstRestFault 36 = .ok (.iaload, 1) := by decide +kernel
theorem d_P_firstRestFault_37 : decode b_P_firstRestFault 37 = .ok (.invokevirtual 89, 3) := by decide +kernel
theorem d_P_firstRestFault_40 : decode b_P_firstRestFault 40 = .ok (.ifCond .eq 10, 3) := by decide +kernel
theorem d_P_firstRestFault_43 : decode b_P_firstRestFault 43 = .ok (.iconst 2, 1) := by decide +kernel
theorem d_P_firstRestFault_44 : decode b_P_firstRestFault 44 = .ok (.iload_n 2, 1) := by decide +kernel
theorem d_P_firstRestFault_45 : decode b_P_firstRestFault 45 = .ok (.iload_n 3, 1) := by decide +kernel
theorem d_P_firstRestFault_46 : decode b_P_firstRestFault 46 = .ok (.invokestatic 78, 3) := by decide +kernel
theorem d_P_firstRestFault_49 : decode b_P_firstRestFault 49 = .ok (.ireturn, 1) := by decide +kernel
theorem d_P_firstRestFault_50 : decode b_P_firstRestFault 50 = .ok (.iinc 3 1, 3) := by decide +kernel
theorem d_P_firstRestFault_53 : decode b_P_firstRestFault 53 = .ok (.goto (-41), 3) := by decide +kernel
theorem d_P_firstRestFault_56 : decode b_P_firstRestFault 56 = .ok (.iinc 2 1, 3) := by decide +kernel
theorem d_P_firstRestFault_59 : decode b_P_firstRestFault 59 = .ok (.goto (-57), 3) := by decide +kernel
theorem d_P_firstRestFault_62 : decode b_P_firstRestFault 62 = .ok (.iconst 0, 1) := by decide +kernel
theorem d_P_firstRestFault_63 : decode b_P_firstRestFault 63 = .ok (.ireturn, 1) := by decide +kernel
theorem d_P_breaksRest_0 : decode b_P_breaksRest 0 = .ok (.iload_n 1, 1) := by decide +kernel
theorem d_P_breaksRest_1 : decode b_P_breaksRest 1 = .ok (.ifCond .eq 23, 3) := by decide +kernel
theorem d_P_breaksRest_4 : decode b_P_breaksRest 4 = .ok (.iload_n 2, 1) := by decide +kernel
theorem d_P_breaksRest_5 : decode b_P_breaksRest 5 = .ok (.ifCond .eq 19, 3) := by decide +kernel
theorem d_P_breaksRest_8 : decode b_P_breaksRest 8 = .ok (.iload_n 1, 1) := by decide +kernel
theorem d_P_breaksRest_9 : decode b_P_breaksRest 9 = .ok (.iload_n 2, 1) := by decide +kernel
theorem d_P_breaksRest_10 : decode b_P_breaksRest 10 = .ok (.invokestatic 93, 3) := by decide +kernel
theorem d_P_breaksRest_13 : decode b_P_breaksRest 13 = .ok (.aload_n 0, 1) := by decide +kernel
theorem d_P_breaksRest_14 : decode b_P_breaksRest 14 = .ok (.getfield 18, 3) := by decide +kernel
theorem d_P_breaksRest_17 : decode b_P_breaksRest 17 = .ok (.if_icmp .ge 7, 3) := by decide +kernel
theorem d_P_breaksRest_20 : decode b_P_breaksRest 20 = .ok (.iconst 1, 1) := by decide +kernel
theorem d_P_breaksRest_21 : decode b_P_breaksRest 21 = .ok (.goto 4, 3) := by decide +kernel
theorem d_P_breaksRest_24 : decode b_P_breaksRest 24 = .ok (.iconst 0, 1) := by decide +kernel
theorem d_P_breaksRest_25 : decode b_P_breaksRest 25 = .ok (.ireturn, 1) := by decide +kernel
theorem d_P_hoursBetween_0 : decode b_P_hoursBetween 0 = .ok (.bipush 16, 2) := by decide +kernel
theorem d_P_hoursBetween_2 : decode b_P_hoursBetween 2 = .ok (.bipush 8, 2) := by decide +kernel
theorem d_P_hoursBetween_4 : decode b_P_hoursBetween 4 = .ok (.iload_n 1, 1) := by decide +kernel
theorem d_P_hoursBetween_5 : decode b_P_hoursBetween 5 = .ok (.iload_n 0, 1) := by decide +kernel
theorem d_P_hoursBetween_6 : decode b_P_hoursBetween 6 = .ok (.isub, 1) := by decide +kernel
theorem d_P_hoursBetween_7 : decode b_P_hoursBetween 7 = .ok (.imul, 1) := by decide +kernel
theorem d_P_hoursBetween_8 : decode b_P_hoursBetween 8 = .ok (.iadd, 1) := by decide +kernel
theorem d_P_hoursBetween_9 : decode b_P_hoursBetween 9 = .ok (.ireturn, 1) := by decide +kernel
theorem d_P_firstMostFault_0 : decode b_P_firstMostFault 0 = .ok (.iconst 0, 1) := by decide +kernel
theorem d_P_firstMostFault_1 : decode b_P_firstMostFault 1 = .ok (.istore_n 2, 1) := by decide +kernel
theorem d_P_firstMostFault_2 : decode b_P_firstMostFault 2 = .ok (.iload_n 2, 1) := by decide +kernel
theorem d_P_firstMostFault_3 : decode b_P_firstMostFault 3 = .ok (.aload_n 0, 1) := by decide +kernel
theorem d_P_firstMostFault_4 : decode b_P_firstMostFault 4 = .ok (.getfield 9, 3) := by decide +kernel
theorem d_P_firstMostFault_7 : decode b_P_firstMostFault 7 = .ok (.if_icmp .ge 66, 3) := by decide +kernel
theorem d_P_firstMostFault_10 : decode b_P_firstMostFault 10 = .ok (.iconst 0, 1) := by decide +kernel
theorem d_P_firstMostFault_11 : decode b_P_firstMostFault 11 = .ok (.istore_n 3, 1) := by decide +kernel
theorem d_P_firstMostFault_12 : decode b_P_firstMostFault 12 = .ok (.iconst 0, 1) := by decide +kernel
theorem d_P_firstMostFault_13 : decode b_P_firstMostFault 13 = .ok (.istore 4, 2) := by decide +kernel
theorem d_P_firstMostFault_15 : decode b_P_firstMostFault 15 = .ok (.iconst 0, 1) := by decide +kernel
theorem d_P_firstMostFault_16 : decode b_P_firstMostFault 16 = .ok (.istore 5, 2) := by decide +kernel
theorem d_P_firstMostFault_18 : decode b_P_firstMostFault 18 = .ok (.iload 5, 2) := by decide +kernel
theorem d_P_firstMostFault_20 : decode b_P_firstMostFault 20 = .ok (.aload_n 0, 1) := by decide +kernel
theorem d_P_firstMostFault_21 : decode b_P_firstMostFault 21 = .ok (.getfield 15, 3) := by decide +kernel
theorem d_P_firstMostFault_24 : decode b_P_firstMostFault 24 = .ok (.if_icmp .ge 27, 3) := by decide +kernel
theorem d_P_firstMostFault_27 : decode b_P_firstMostFault 27 = .ok (.aload_n 1, 1) := by decide +kernel
theorem d_P_firstMostFault_28 : decode b_P_firstMostFault 28 = .ok (.iload_n 2, 1) := by decide +kernel
theorem d_P_firstMostFault_29 : decode b_P_firstMostFault 29 = .ok (.iload 5, 2) := by decide +kernel
theorem d_P_firstMostFault_31 : decode b_P_firstMostFault 31 = .ok (.invokestatic 86, 3) := by decide +kernel
theorem d_P_firstMostFault_34 : decode b_P_firstMostFault 34 = .ok (.iaload, 1) := by decide +kernel
theorem d_P_firstMostFault_35 : decode b_P_firstMostFault 35 = .ok (.ifCond .eq 10, 3) := by decide +kernel
theorem d_P_firstMostFault_38 : decode b_P_firstMostFault 38 = .ok (.iinc 3 1, 3) := by decide +kernel
theorem d_P_firstMostFault_41 : decode b_P_firstMostFault 41 = .ok (.iload 5, 2) := by decide +kernel
theorem d_P_firstMostFault_43 : decode b_P_firstMostFault 43 = .ok (.istore 4, 2) := by decide +kernel
theorem d_P_firstMostFault_45 : decode b_P_firstMostFault 45 = .ok (.iinc 5 1, 3) := by decide +kernel
theorem d_P_firstMostFault_48 : decode b_P_firstMostFault 48 = .ok (.goto (-30), 3) := by decide +kernel
theorem d_P_firstMostFault_51 : decode b_P_firstMostFault 51 = .ok (.iload_n 3, 1) := by decide +kernel
theorem d_P_firstMostFault_52 : decode b_P_firstMostFault 52 = .ok (.aload_n 0, 1) := by decide +kernel
theorem d_P_firstMostFault_53 : decode b_P_firstMostFault 53 = .ok (.getfield 21, 3) := by decide +kernel
theorem d_P_firstMostFault_56 : decode b_P_firstMostFault 56 = .ok (.if_icmp .le 11, 3) := by decide +kernel
theorem d_P_firstMostFault_59 : decode b_P_firstMostFault 59 = .ok (.iconst 3, 1) := by decide +kernel
theorem d_P_firstMostFault_60 : decode b_P_firstMostFault 60 = .ok (.iload_n 2, 1) := by decide +kernel
theorem d_P_firstMostFault_61 : decode b_P_firstMostFault 61 = .ok (.iload 4, 2) := by decide +kernel
theorem d_P_firstMostFault_63 : decode b_P_firstMostFault 63 = .ok (.invokestatic 78, 3) := by decide +kernel
theorem d_P_firstMostFault_66 : decode b_P_firstMostFault 66 = .ok (.ireturn, 1) := by decide +kernel
theorem d_P_firstMostFault_67 : decode b_P_firstMostFault 67 = .ok (.iinc 2 1, 3) := by decide +kernel
theorem d_P_firstMostFault_70 : decode b_P_firstMostFault 70 = .ok (.goto (-68), 3) := by decide +kernel
theorem d_P_firstMostFault_73 : decode b_P_firstMostFault 73 = .ok (.iconst 0, 1) := by decide +kernel
theorem d_P_firstMostFault_74 : decode b_P_firstMostFault 74 = .ok (.ireturn, 1) := by decide +kernel
theorem d_P_firstNightsFault_0 : decode b_P_firstNightsFault 0 = .ok (.iconst 0, 1) := by decide +kernel
theorem d_P_firstNightsFault_1 : decode b_P_firstNightsFault 1 = .ok (.istore_n 2, 1) := by decide +kernel
theorem d_P_firstNightsFault_2 : decode b_P_firstNightsFault 2 = .ok (.iload_n 2, 1) := by decide +kernel
theorem d_P_firstNightsFault_3 : decode b_P_firstNightsFault 3 = .ok (.aload_n 0, 1) := by decide +kernel
theorem d_P_firstNightsFault_4 : decode b_P_firstNightsFault 4 = .ok (.getfield 9, 3) := by decide +kernel
theorem d_P_firstNightsFault_7 : decode b_P_firstNightsFault 7 = .ok (.if_icmp .ge 65, 3) := by decide +kernel
theorem d_P_firstNightsFault_10 : decode b_P_firstNightsFault 10 = .ok (.iconst 0, 1) := by decide +kernel
theorem d_P_firstNightsFault_11 : decode b_P_firstNightsFault 11 = .ok (.istore_n 3, 1) := by decide +kernel
theorem d_P_firstNightsFault_12 : decode b_P_firstNightsFault 12 = .ok (.iconst 0, 1) := by decide +kernel
theorem d_P_firstNightsFault_13 : decode b_P_firstNightsFault 13 = .ok (.istore 4, 2) := by decide +kernel
theorem d_P_firstNightsFault_15 : decode b_P_firstNightsFault 15 = .ok (.iload 4, 2) := by decide +kernel
theorem d_P_firstNightsFault_17 : decode b_P_firstNightsFault 17 = .ok (.aload_n 0, 1) := by decide +kernel
theorem d_P_firstNightsFault_18 : decode b_P_firstNightsFault 18 = .ok (.getfield 15, 3) := by decide +kernel
theorem d_P_firstNightsFault_21 : decode b_P_firstNightsFault 21 = .ok (.if_icmp .ge 45, 3) := by decide +kernel
theorem d_P_firstNightsFault_24 : decode b_P_firstNightsFault 24 = .ok (.aload_n 1, 1) := by decide +kernel
theorem d_P_firstNightsFault_25 : decode b_P_firstNightsFault 25 = .ok (.iload_n 2, 1) := by decide +kernel
theorem d_P_firstNightsFault_26 : decode b_P_firstNightsFault 26 = .ok (.iload 4, 2) := by decide +kernel
theorem d_P_firstNightsFault_28 : decode b_P_firstNightsFault 28 = .ok (.invokestatic 86, 3) := by decide +kernel
theorem d_P_firstNightsFault_31 : decode b_P_firstNightsFault 31 = .ok (.iaload, 1) := by decide +kernel
theorem d_P_firstNightsFault_32 : decode b_P_firstNightsFault 32 = .ok (.iconst 3, 1) := by decide +kernel
theorem d_P_firstNightsFault_33 : decode b_P_firstNightsFault 33 = .ok (.if_icmp .ne 9, 3) := by decide +kernel
theorem d_P_firstNightsFault_36 : decode b_P_firstNightsFault 36 = .ok (.iload_n 3, 1) := by decide +kernel
theorem d_P_firstNightsFault_37 : decode b_P_firstNightsFault 37 = .ok (.iconst 1, 1) := by decide +kernel
theorem d_P_firstNightsFault_38 : decode b_P_firstNightsFault 38 = .ok (.iadd, 1) := by decide +kernel
theorem d_P_firstNightsFault_39 : decode b_P_firstNightsFault 39 = .ok (.goto 4, 3) := by decide +kernel
theorem d_P_firstNightsFault_42 : decode b_P_firstNightsFault 42 = .ok (.iconst 0, 1) := by decide +kernel
theorem d_P_firstNightsFault_43 : decode b_P_firstNightsFault 43 = .ok (.istore_n 3, 1) := by decide +kernel
theorem d_P_firstNightsFault_44 : decode b_P_firstNightsFault 44 = .ok (.iload_n 3, 1) := by decide +kernel
theorem d_P_firstNightsFault_45 : decode b_P_firstNightsFault 45 = .ok (.aload_n 0, 1) := by decide +kernel
theorem d_P_firstNightsFault_46 : decode b_P_firstNightsFault 46 = .ok (.getfield 24, 3) := by decide +kernel
theorem d_P_firstNightsFault_49 : decode b_P_firstNightsFault 49 = .ok (.if_icmp .le 11, 3) := by decide +kernel
theorem d_P_firstNightsFault_52 : decode b_P_firstNightsFault 52 = .ok (.iconst 4, 1) := by decide +kernel
theorem d_P_firstNightsFault_53 : decode b_P_firstNightsFault 53 = .ok (.iload_n 2, 1) := by decide +kernel
theorem d_P_firstNightsFault_54 : decode b_P_firstNightsFault 54 = .ok (.iload 4, 2) := by decide +kernel
theorem d_P_firstNightsFault_56 : decode b_P_firstNightsFault 56 = .ok (.invokestatic 78, 3) := by decide +kernel
theorem d_P_firstNightsFault_59 : decode b_P_firstNightsFault 59 = .ok (.ireturn, 1) := by decide +kernel
theorem d_P_firstNightsFault_60 : decode b_P_firstNightsFault 60 = .ok (.iinc 4 1, 3) := by decide +kernel
theorem d_P_firstNightsFault_63 : decode b_P_firstNightsFault 63 = .ok (.goto (-48), 3) := by decide +kernel
theorem d_P_firstNightsFault_66 : decode b_P_firstNightsFault 66 = .ok (.iinc 2 1, 3) := by decide +kernel
theorem d_P_firstNightsFault_69 : decode b_P_firstNightsFault 69 = .ok (.goto (-67), 3) := by decide +kernel
theorem d_P_firstNightsFault_72 : decode b_P_firstNightsFault 72 = .ok (.iconst 0, 1) := by decide +kernel
theorem d_P_firstNightsFault_73 : decode b_P_firstNightsFault 73 = .ok (.ireturn, 1) := by decide +kernel
theorem d_P_firstBarFault_0 : decode b_P_firstBarFault 0 = .ok (.iconst 0, 1) := by decide +kernel
theorem d_P_firstBarFault_1 : decode b_P_firstBarFault 1 = .ok (.istore_n 2, 1) := by decide +kernel
theorem d_P_firstBarFault_2 : decode b_P_firstBarFault 2 = .ok (.iload_n 2, 1) := by decide +kernel
theorem d_P_firstBarFault_3 : decode b_P_firstBarFault 3 = .ok (.aload_n 0, 1) := by decide +kernel
theorem d_P_firstBarFault_4 : decode b_P_firstBarFault 4 = .ok (.getfield 9, 3) := by decide +kernel
theorem d_P_firstBarFault_7 : decode b_P_firstBarFault 7 = .ok (.if_icmp .ge 52, 3) := by decide +kernel
theorem d_P_firstBarFault_10 : decode b_P_firstBarFault 10 = .ok (.iconst 0, 1) := by decide +kernel
theorem d_P_firstBarFault_11 : decode b_P_firstBarFault 11 = .ok (.istore_n 3, 1) := by decide +kernel
theorem d_P_firstBarFault_12 : decode b_P_firstBarFault 12 = .ok (.iload_n 3, 1) := by decide +kernel
theorem d_P_firstBarFault_13 : decode b_P_firstBarFault 13 = .ok (.aload_n 0, 1) := by decide +kernel
theorem d_P_firstBarFault_14 : decode b_P_firstBarFault 14 = .ok (.getfield 15, 3) := by decide +kernel
theorem d_P_firstBarFault_17 : decode b_P_firstBarFault 17 = .ok (.if_icmp .ge 36, 3) := by decide +kernel
theorem d_P_firstBarFault_20 : decode b_P_firstBarFault 20 = .ok (.aload_n 0, 1) := by decide +kernel
theorem d_P_firstBarFault_21 : decode b_P_firstBarFault 21 = .ok (.getfield 43, 3) := by decide +kernel
theorem d_P_firstBarFault_24 : decode b_P_firstBarFault 24 = .ok (.iload_n 2, 1) := by decide +kernel
theorem d_P_firstBarFault_25 : decode b_P_firstBarFault 25 = .ok (.iload_n 3, 1) := by decide +kernel
theorem d_P_firstBarFault_26 : decode b_P_firstBarFault 26 = .ok (.aload_n 1, 1) := by decide +kernel
theorem d_P_firstBarFault_27 : decode b_P_firstBarFault 27 = .ok (.iload_n 2, 1) := by decide +kernel
theorem d_P_firstBarFault_28 : decode b_P_firstBarFault 28 = .ok (.iload_n 3, 1) := by decide +kernel
theorem d_P_firstBarFault_29 : decode b_P_firstBarFault 29 = .ok (.invokestatic 86, 3) := by decide +kernel
theorem d_P_firstBarFault_32 : decode b_P_firstBarFault 32 = .ok (.iaload, 1) := by decide +kernel
theorem d_P_firstBarFault_33 : decode b_P_firstBarFault 33 = .ok (.invokestatic 96, 3) := by decide +kernel
theorem d_P_firstBarFault_36 : decode b_P_firstBarFault 36 = .ok (.baload, 1) := by decide +kernel
theorem d_P_firstBarFault_37 : decode b_P_firstBarFault 37 = .ok (.ifCond .eq 10, 3) := by decide +kernel
theorem d_P_firstBarFault_40 : decode b_P_firstBarFault 40 = .ok (.iconst 5, 1) := by decide +kernel
theorem d_P_firstBarFault_41 : decode b_P_firstBarFault 41 = .ok (.iload_n 2, 1) := by decide +kernel
theorem d_P_firstBarFault_42 : decode b_P_firstBarFault 42 = .ok (.iload_n 3, 1) := by decide +kernel
theorem d_P_firstBarFault_43 : decode b_P_firstBarFault 43 = .ok (.invokestatic 78, 3) := by decide +kernel
theorem d_P_firstBarFault_46 : decode b_P_firstBarFault 46 = .ok (.ireturn, 1) := by decide +kernel
theorem d_P_firstBarFault_47 : decode b_P_firstBarFault 47 = .ok (.iinc 3 1, 3) := by decide +kernel
theorem d_P_firstBarFault_50 : decode b_P_firstBarFault 50 = .ok (.goto (-38), 3) := by decide +kernel
theorem d_P_firstBarFault_53 : decode b_P_firstBarFault 53 = .ok (.iinc 2 1, 3) := by decide +kernel
theorem d_P_firstBarFault_56 : decode b_P_firstBarFault 56 = .ok (.goto (-54), 3) := by decide +kernel
theorem d_P_firstBarFault_59 : decode b_P_firstBarFault 59 = .ok (.iconst 0, 1) := by decide +kernel
theorem d_P_firstBarFault_60 : decode b_P_firstBarFault 60 = .ok (.ireturn, 1) := by decide +kernel
theorem d_P_faultNumber_0 : decode b_P_faultNumber 0 = .ok (.bipush 100, 2) := by decide +kernel
theorem d_P_faultNumber_2 : decode b_P_faultNumber 2 = .ok (.iload_n 0, 1) := by decide +kernel
theorem d_P_faultNumber_3 : decode b_P_faultNumber 3 = .ok (.imul, 1) := by decide +kernel
theorem d_P_faultNumber_4 : decode b_P_faultNumber 4 = .ok (.bipush 10, 2) := by decide +kernel
theorem d_P_faultNumber_6 : decode b_P_faultNumber 6 = .ok (.iload_n 1, 1) := by decide +kernel
theorem d_P_faultNumber_7 : decode b_P_faultNumber 7 = .ok (.imul, 1) := by decide +kernel
theorem d_P_faultNumber_8 : decode b_P_faultNumber 8 = .ok (.iadd, 1) := by decide +kernel
theorem d_P_faultNumber_9 : decode b_P_faultNumber 9 = .ok (.iload_n 2, 1) := by decide +kernel
theorem d_P_faultNumber_10 : decode b_P_faultNumber 10 = .ok (.iadd, 1) := by decide +kernel
theorem d_P_faultNumber_11 : decode b_P_faultNumber 11 = .ok (.ireturn, 1) := by decide +kernel
theorem d_P_unmetSum_0 : decode b_P_unmetSum 0 = .ok (.iconst 0, 1) := by decide +kernel
theorem d_P_unmetSum_1 : decode b_P_unmetSum 1 = .ok (.istore_n 2, 1) := by decide +kernel
theorem d_P_unmetSum_2 : decode b_P_unmetSum 2 = .ok (.iconst 0, 1) := by decide +kernel
theorem d_P_unmetSum_3 : decode b_P_unmetSum 3 = .ok (.istore_n 3, 1) := by decide +kernel
theorem d_P_unmetSum_4 : decode b_P_unmetSum 4 = .ok (.iload_n 3, 1) := by decide +kernel
theorem d_P_unmetSum_5 : decode b_P_unmetSum 5 = .ok (.aload_n 0, 1) := by decide +kernel
theorem d_P_unmetSum_6 : decode b_P_unmetSum 6 = .ok (.getfield 15, 3) := by decide +kernel
theorem d_P_unmetSum_9 : decode b_P_unmetSum 9 = .ok (.if_icmp .ge 49, 3) := by decide +kernel
theorem d_P_unmetSum_12 : decode b_P_unmetSum 12 = .ok (.iconst 0, 1) := by decide +kernel
theorem d_P_unmetSum_13 : decode b_P_unmetSum 13 = .ok (.istore 4, 2) := by decide +kernel
theorem d_P_unmetSum_15 : decode b_P_unmetSum 15 = .ok (.iload 4, 2) := by decide +kernel
theorem d_P_unmetSum_17 : decode b_P_unmetSum 17 = .ok (.aload_n 0, 1) := by decide +kernel
theorem d_P_unmetSum_18 : decode b_P_unmetSum 18 = .ok (.getfield 9, 3) := by decide +kernel
theorem d_P_unmetSum_21 : decode b_P_unmetSum 21 = .ok (.if_icmp .ge 31, 3) := by decide +kernel
theorem d_P_unmetSum_24 : decode b_P_unmetSum 24 = .ok (.iload_n 2, 1) := by decide +kernel
theorem d_P_unmetSum_25 : decode b_P_unmetSum 25 = .ok (.aload_n 0, 1) := by decide +kernel
theorem d_P_unmetSum_26 : decode b_P_unmetSum 26 = .ok (.getfield 47, 3) := by decide +kernel
theorem d_P_unmetSum_29 : decode b_P_unmetSum 29 = .ok (.iload 4, 2) := by decide +kernel
theorem d_P_unmetSum_31 : decode b_P_unmetSum 31 = .ok (.iload_n 3, 1) := by decide +kernel
theorem d_P_unmetSum_32 : decode b_P_unmetSum 32 = .ok (.aload_n 1, 1) := by decide +kernel
theorem d_P_unmetSum_33 : decode b_P_unmetSum 33 = .ok (.iload 4, 2) := by decide +kernel
theorem d_P_unmetSum_35 : decode b_P_unmetSum 35 = .ok (.iload_n 3, 1) := by decide +kernel
theorem d_P_unmetSum_36 : decode b_P_unmetSum 36 = .ok (.invokestatic 86, 3) := by decide +kernel
theorem d_P_unmetSum_39 : decode b_P_unmetSum 39 = .ok (.iaload, 1) := by decide +kernel
theorem d_P_unmetSum_40 : decode b_P_unmetSum 40 = .ok (.invokestatic 96, 3) := by decide +kernel
theorem d_P_unmetSum_43 : decode b_P_unmetSum 43 = .ok (.iaload, 1) := by decide +kernel
theorem d_P_unmetSum_44 : decode b_P_unmetSum 44 = .ok (.iadd, 1) := by decide +kernel
theorem d_P_unmetSum_45 : decode b_P_unmetSum 45 = .ok (.istore_n 2, 1) := by decide +kernel
theorem d_P_unmetSum_46 : decode b_P_unmetSum 46 = .ok (.iinc 4 1, 3) := by decide +kernel
theorem d_P_unmetSum_49 : decode b_P_unmetSum 49 = .ok (.goto (-34), 3) := by decide +kernel
theorem d_P_unmetSum_52 : decode b_P_unmetSum 52 = .ok (.iinc 3 1, 3) := by decide +kernel
theorem d_P_unmetSum_55 : decode b_P_unmetSum 55 = .ok (.goto (-51), 3) := by decide +kernel
theorem d_P_unmetSum_58 : decode b_P_unmetSum 58 = .ok (.iload_n 2, 1) := by decide +kernel
theorem d_P_unmetSum_59 : decode b_P_unmetSum 59 = .ok (.ireturn, 1) := by decide +kernel
theorem d_P_costOfAll_0 : decode b_P_costOfAll 0 = .ok (.iconst 0, 1) := by decide +kernel
theorem d_P_costOfAll_1 : decode b_P_costOfAll 1 = .ok (.istore_n 2, 1) := by decide +kernel
theorem d_P_costOfAll_2 : decode b_P_costOfAll 2 = .ok (.iconst 0, 1) := by decide +kernel
theorem d_P_costOfAll_3 : decode b_P_costOfAll 3 = .ok (.istore_n 3, 1) := by decide +kernel
theorem d_P_costOfAll_4 : decode b_P_costOfAll 4 = .ok (.iload_n 3, 1) := by decide +kernel
theorem d_P_costOfAll_5 : decode b_P_costOfAll 5 = .ok (.aload_n 0, 1) := by decide +kernel
theorem d_P_costOfAll_6 : decode b_P_costOfAll 6 = .ok (.getfield 9, 3) := by decide +kernel
theorem d_P_costOfAll_9 : decode b_P_costOfAll 9 = .ok (.if_icmp .ge 18, 3) := by decide +kernel
theorem d_P_costOfAll_12 : decode b_P_costOfAll 12 = .ok (.iload_n 2, 1) := by decide +kernel
theorem d_P_costOfAll_13 : decode b_P_costOfAll 13 = .ok (.aload_n 0, 1) := by decide +kernel
theorem d_P_costOfAll_14 : decode b_P_costOfAll 14 = .ok (.aload_n 1, 1) := by decide +kernel
theorem d_P_costOfAll_15 : decode b_P_costOfAll 15 = .ok (.iload_n 3, 1) := by decide +kernel
theorem d_P_costOfAll_16 : decode b_P_costOfAll 16 = .ok (.invokevirtual 99, 3) := by decide +kernel
theorem d_P_costOfAll_19 : decode b_P_costOfAll 19 = .ok (.iadd, 1) := by decide +kernel
theorem d_P_costOfAll_20 : decode b_P_costOfAll 20 = .ok (.istore_n 2, 1) := by decide +kernel
theorem d_P_costOfAll_21 : decode b_P_costOfAll 21 = .ok (.iinc 3 1, 3) := by decide +kernel
theorem d_P_costOfAll_24 : decode b_P_costOfAll 24 = .ok (.goto (-20), 3) := by decide +kernel
theorem d_P_costOfAll_27 : decode b_P_costOfAll 27 = .ok (.iload_n 2, 1) := by decide +kernel
theorem d_P_costOfAll_28 : decode b_P_costOfAll 28 = .ok (.ireturn, 1) := by decide +kernel
theorem d_P_costOfOne_0 : decode b_P_costOfOne 0 = .ok (.iconst 0, 1) := by decide +kernel
theorem d_P_costOfOne_1 : decode b_P_costOfOne 1 = .ok (.istore_n 3, 1) := by decide +kernel
theorem d_P_costOfOne_2 : decode b_P_costOfOne 2 = .ok (.iconst 0, 1) := by decide +kernel
theorem d_P_costOfOne_3 : decode b_P_costOfOne 3 = .ok (.istore 4, 2) := by decide +kernel
theorem d_P_costOfOne_5 : decode b_P_costOfOne 5 = .ok (.iload 4, 2) := by decide +kernel
theorem d_P_costOfOne_7 : decode b_P_costOfOne 7 = .ok (.aload_n 0, 1) := by decide +kernel
theorem d_P_costOfOne_8 : decode b_P_costOfOne 8 = .ok (.getfield 15, 3) := by decide +kernel
theorem d_P_costOfOne_11 : decode b_P_costOfOne 11 = .ok (.if_icmp .ge 23, 3) := by decide +kernel
theorem d_P_costOfOne_14 : decode b_P_costOfOne 14 = .ok (.aload_n 1, 1) := by decide +kernel
theorem d_P_costOfOne_15 : decode b_P_costOfOne 15 = .ok (.iload_n 2, 1) := by decide +kernel
theorem d_P_costOfOne_16 : decode b_P_costOfOne 16 = .ok (.iload 4, 2) := by decide +kernel
theorem d_P_costOfOne_18 : decode b_P_costOfOne 18 = .ok (.invokestatic 86, 3) := by decide +kernel
theorem d_P_costOfOne_21 : decode b_P_costOfOne 21 = .ok (.iaload, 1) := by decide +kernel
theorem d_P_costOfOne_22 : decode b_P_costOfOne 22 = .ok (.ifCond .eq 6, 3) := by decide +kernel
theorem d_P_costOfOne_25 : decode b_P_costOfOne 25 = .ok (.iinc 3 1, 3) := by decide +kernel
theorem d_P_costOfOne_28 : decode b_P_costOfOne 28 = .ok (.iinc 4 1, 3) := by decide +kernel
theorem d_P_costOfOne_31 : decode b_P_costOfOne 31 = .ok (.goto (-26), 3) := by decide +kernel
theorem d_P_costOfOne_34 : decode b_P_costOfOne 34 = .ok (.iload_n 3, 1) := by decide +kernel
theorem d_P_costOfOne_35 : decode b_P_costOfOne 35 = .ok (.bipush 8, 2) := by decide +kernel
theorem d_P_costOfOne_37 : decode b_P_costOfOne 37 = .ok (.imul, 1) := by decide +kernel
theorem d_P_costOfOne_38 : decode b_P_costOfOne 38 = .ok (.aload_n 0, 1) := by decide +kernel
theorem d_P_costOfOne_39 : decode b_P_costOfOne 39 = .ok (.getfield 34, 3) := by decide +kernel
theorem d_P_costOfOne_42 : decode b_P_costOfOne 42 = .ok (.iload_n 2, 1) := by decide +kernel
theorem d_P_costOfOne_43 : decode b_P_costOfOne 43 = .ok (.iaload, 1) := by decide +kernel
theorem d_P_costOfOne_44 : decode b_P_costOfOne 44 = .ok (.imul, 1) := by decide +kernel
theorem d_P_costOfOne_45 : decode b_P_costOfOne 45 = .ok (.ireturn, 1) := by decide +kernel
theorem d_S_init_0 : decode b_S_init 0 = .ok (.aload_n 0, 1) := by decide +kernel
theorem d_S_init_1 : decode b_S_init 1 = .ok (.invokespecial 3, 3) := by decide +kernel
theorem d_S_init_4 : decode b_S_init 4 = .ok (.aload_n 0, 1) := by decide +kernel
theorem d_S_init_5 : decode b_S_init 5 = .ok (.aload_n 1, 1) := by decide +kernel
theorem d_S_init_6 : decode b_S_init 6 = .ok (.putfield 9, 3) := by decide +kernel
theorem d_S_init_9 : decode b_S_init 9 = .ok (.aload_n 0, 1) := by decide +kernel
theorem d_S_init_10 : decode b_S_init 10 = .ok (.bipush 42, 2) := by decide +kernel
theorem d_S_init_12 : decode b_S_init 12 = .ok (.newarray .int, 2) := by decide +kernel
theorem d_S_init_14 : decode b_S_init 14 = .ok (.putfield 15, 3) := by decide +kernel
theorem d_S_init_17 : decode b_S_init 17 = .ok (.aload_n 0, 1) := by decide +kernel
theorem d_S_init_18 : decode b_S_init 18 = .ok (.bipush 42, 2) := by decide +kernel
theorem d_S_init_20 : decode b_S_init 20 = .ok (.newarray .int, 2) := by decide +kernel
theorem d_S_init_22 : decode b_S_init 22 = .ok (.putfield 19, 3) := by decide +kernel
theorem d_S_init_25 : decode b_S_init 25 = .ok (.aload_n 0, 1) := by decide +kernel
theorem d_S_init_26 : decode b_S_init 26 = .ok (.bipush 42, 2) := by decide +kernel
theorem d_S_init_28 : decode b_S_init 28 = .ok (.newarray .int, 2) := by decide +kernel
theorem d_S_init_30 : decode b_S_init 30 = .ok (.putfield 22, 3) := by decide +kernel
theorem d_S_init_33 : decode b_S_init 33 = .ok (.aload_n 0, 1) := by decide +kernel
theorem d_S_init_34 : decode b_S_init 34 = .ok (.bipush 42, 2) := by decide +kernel
theorem d_S_init_36 : decode b_S_init 36 = .ok (.newarray .int, 2) := by decide +kernel
theorem d_S_init_38 : decode b_S_init 38 = .ok (.putfield 25, 3) := by decide +kernel
theorem d_S_init_41 : decode b_S_init 41 = .ok (.aload_n 0, 1) := by decide +kernel
theorem d_S_init_42 : decode b_S_init 42 = .ok (.bipush 42, 2) := by decide +kernel
theorem d_S_init_44 : decode b_S_init 44 = .ok (.newarray .int, 2) := by decide +kernel
theorem d_S_init_46 : decode b_S_init 46 = .ok (.putfield 28, 3) := by decide +kernel
theorem d_S_init_49 : decode b_S_init 49 = .ok (.aload_n 0, 1) := by decide +kernel
theorem d_S_init_50 : decode b_S_init 50 = .ok (.bipush 42, 2) := by decide +kernel
theorem d_S_init_52 : decode b_S_init 52 = .ok (.newarray .int, 2) := by decide +kernel
theorem d_S_init_54 : decode b_S_init 54 = .ok (.putfield 31, 3) := by decide +kernel
theorem d_S_init_57 : decode b_S_init 57 = .ok (.aload_n 0, 1) := by decide +kernel
theorem d_S_init_58 : decode b_S_init 58 = .ok (.bipush 42, 2) := by decide +kernel
theorem d_S_init_60 : decode b_S_init 60 = .ok (.newarray .int, 2) := by decide +kernel
theorem d_S_init_62 : decode b_S_init 62 = .ok (.putfield 34, 3) := by decide +kernel
theorem d_S_init_65 : decode b_S_init 65 = .ok (.aload_n 0, 1) := by decide +kernel
theorem d_S_init_66 : decode b_S_init 66 = .ok (.iconst 0, 1) := by decide +kernel
theorem d_S_init_67 : decode b_S_init 67 = .ok (.putfield 37, 3) := by decide +kernel
theorem d_S_init_70 : decode b_S_init 70 = .ok (.aload_n 0, 1) := by decide +kernel
theorem d_S_init_71 : decode b_S_init 71 = .ok (.iconst 0, 1) := by decide +kernel
theorem d_S_init_72 : decode b_S_init 72 = .ok (.putfield 41, 3) := by decide +kernel
theorem d_S_init_75 : decode b_S_init 75 = .ok (.aload_n 0, 1) := by decide +kernel
theorem d_S_init_76 : decode b_S_init 76 = .ok (.iconst 0, 1) := by decide +kernel
theorem d_S_init_77 : decode b_S_init 77 = .ok (.putfield 44, 3) := by decide +kernel
theorem d_S_init_80 : decode b_S_init 80 = .ok (.aload_n 0, 1) := by decide +kernel
theorem d_S_init_81 : decode b_S_init 81 = .ok (.iconst 0, 1) := by decide +kernel
theorem d_S_init_82 : decode b_S_init 82 = .ok (.putfield 47, 3) := by decide +kernel
theorem d_S_init_85 : decode b_S_init 85 = .ok (.aload_n 0, 1) := by decide +kernel
theorem d_S_init_86 : decode b_S_init 86 = .ok (.sipush 2001, 3) := by decide +kernel
theorem d_S_init_89 : decode b_S_init 89 = .ok (.putfield 50, 3) := by decide +kernel
theorem d_S_init_92 : decode b_S_init 92 = .ok (.aload_n 0, 1) := by decide +kernel
theorem d_S_init_93 : decode b_S_init 93 = .ok (.iconst 0, 1) := by decide +kernel
theorem d_S_init_94 : decode b_S_init 94 = .ok (.putfield 53, 3) := by decide +kernel
theorem d_S_init_97 : decode b_S_init 97 = .ok (.aload_n 0, 1) := by decide +kernel
theorem d_S_init_98 : decode b_S_init 98 = .ok (.iconst 0, 1) := by decide +kernel
theorem d_S_init_99 : decode b_S_init 99 = .ok (.putfield 57, 3) := by decide +kernel
theorem d_S_init_102 : decode b_S_init 102 = .ok (.return_, 1) := by decide +kernel
theorem d_S_run_0 : decode b_S_run 0 = .ok (.aload_n 1, 1) := by decide +kernel
theorem d_S_run_1 : decode b_S_run 1 = .ok (.iconst 0, 1) := by decide +kernel
theorem d_S_run_2 : decode b_S_run 2 = .ok (.aload_n 0, 1) := by decide +kernel
theorem d_S_run_3 : decode b_S_run 3 = .ok (.getfield 19, 3) := by decide +kernel
theorem d_S_run_6 : decode b_S_run 6 = .ok (.iconst 0, 1) := by decide +kernel
theorem d_S_run_7 : decode b_S_run 7 = .ok (.bipush 42, 2) := by decide +kernel
theorem d_S_run_9 : decode b_S_run 9 = .ok (.invokestatic 60, 3) := by decide +kernel
theorem d_S_run_12 : decode b_S_run 12 = .ok (.aload_n 0, 1) := by decide +kernel
theorem d_S_run_13 : decode b_S_run 13 = .ok (.iload_n 2, 1) := by decide +kernel
theorem d_S_run_14 : decode b_S_run 14 = .ok (.putfield 41, 3) := by decide +kernel
theorem d_S_run_17 : decode b_S_run 17 = .ok (.aload_n 0, 1) := by decide +kernel
theorem d_S_run_18 : decode b_S_run 18 = .ok (.iload_n 3, 1) := by decide +kernel
theorem d_S_run_19 : decode b_S_run 19 = .ok (.putfield 37, 3) := by decide +kernel
theorem d_S_run_22 : decode b_S_run 22 = .ok (.aload_n 0, 1) := by decide +kernel
theorem d_S_run_23 : decode b_S_run 23 = .ok (.iconst 0, 1) := by decide +kernel
theorem d_S_run_24 : decode b_S_run 24 = .ok (.putfield 44, 3) := by decide +kernel
theorem d_S_run_27 : decode b_S_run 27 = .ok (.aload_n 0, 1) := by decide +kernel
theorem d_S_run_28 : decode b_S_run 28 = .ok (.iconst 0, 1) := by decide +kernel
theorem d_S_run_29 : decode b_S_run 29 = .ok (.putfield 47, 3) := by decide +kernel
theorem d_S_run_32 : decode b_S_run 32 = .ok (.aload_n 0, 1) := by decide +kernel
theorem d_S_run_33 : decode b_S_run 33 = .ok (.sipush 2001, 3) := by decide +kernel
theorem d_S_run_36 : decode b_S_run 36 = .ok (.putfield 50, 3) := by decide +kernel
theorem d_S_run_39 : decode b_S_run 39 = .ok (.aload_n 0, 1) := by decide +kernel
theorem d_S_run_40 : decode b_S_run 40 = .ok (.iconst 0, 1) := by decide +kernel
theorem d_S_run_41 : decode b_S_run 41 = .ok (.putfield 53, 3) := by decide +kernel
theorem d_S_run_44 : decode b_S_run 44 = .ok (.aload_n 0, 1) := by decide +kernel
theorem d_S_run_45 : decode b_S_run 45 = .ok (.getfield 9, 3) := by decide +kernel
theorem d_S_run_48 : decode b_S_run 48 = .ok (.getfield 66, 3) := by decide +kernel
theorem d_S_run_51 : decode b_S_run 51 = .ok (.ifCond .eq 13, 3) := by decide +kernel
theorem d_S_run_54 : decode b_S_run 54 = .ok (.aload_n 0, 1) := by decide +kernel
theorem d_S_run_55 : decode b_S_run 55 = .ok (.getfield 9, 3) := by decide +kernel
theorem d_S_run_58 : decode b_S_run 58 = .ok (.getfield 71, 3) := by decide +kernel
theorem d_S_run_61 : decode b_S_run 61 = .ok (.ifCond .ne 10, 3) := by decide +kernel
theorem d_S_run_64 : decode b_S_run 64 = .ok (.aload_n 0, 1) := by decide +kernel
theorem d_S_run_65 : decode b_S_run 65 = .ok (.invokevirtual 74, 3) := by decide +kernel
theorem d_S_run_68 : decode b_S_run 68 = .ok (.goto 8, 3) := by decide +kernel
theorem d_S_run_71 : decode b_S_run 71 = .ok (.aload_n 0, 1) := by decide +kernel
theorem d_S_run_72 : decode b_S_run 72 = .ok (.aload_n 1, 1) := by decide +kernel
theorem d_S_run_73 : decode b_S_run 73 = .ok (.invokevirtual 77, 3) := by decide +kernel
theorem d_S_run_76 : decode b_S_run 76 = .ok (.aload_n 0, 1) := by decide +kernel
theorem d_S_run_77 : decode b_S_run 77 = .ok (.aload_n 0, 1) := by decide +kernel
theorem d_S_run_78 : decode b_S_run 78 = .ok (.getfield 53, 3) := by decide +kernel
theorem d_S_run_81 : decode b_S_run 81 = .ok (.ifCond .ne 7, 3) := by decide +kernel
theorem d_S_run_84 : decode b_S_run 84 = .ok (.iconst 1, 1) := by decide +kernel
theorem d_S_run_85 : decode b_S_run 85 = .ok (.goto 4, 3) := by decide +kernel
theorem d_S_run_88 : decode b_S_run 88 = .ok (.iconst 0, 1) := by decide +kernel
theorem d_S_run_89 : decode b_S_run 89 = .ok (.putfield 57, 3) := by decide +kernel
theorem d_S_run_92 : decode b_S_run 92 = .ok (.return_, 1) := by decide +kernel
theorem d_S_takeOnlyRoster_0 : decode b_S_takeOnlyRoster 0 = .ok (.aload_n 0, 1) := by decide +kernel
theorem d_S_takeOnlyRoster_1 : decode b_S_takeOnlyRoster 1 = .ok (.getfield 9, 3) := by decide +kernel
theorem d_S_takeOnlyRoster_4 : decode b_S_takeOnlyRoster 4 = .ok (.aload_n 0, 1) := by decide +kernel
theorem d_S_takeOnlyRoster_5 : decode b_S_takeOnlyRoster 5 = .ok (.getfield 19, 3) := by decide +kernel
theorem d_S_takeOnlyRoster_8 : decode b_S_takeOnlyRoster 8 = .ok (.invokevirtual 81, 3) := by decide +kernel
theorem d_S_takeOnlyRoster_11 : decode b_S_takeOnlyRoster 11 = .ok (.ifCond .ne 8, 3) := by decide +kernel
theorem d_S_takeOnlyRoster_14 : decode b_S_takeOnlyRoster 14 = .ok (.aload_n 0, 1) := by decide +kernel
theorem d_S_takeOnlyRoster_15 : decode b_S_takeOnlyRoster 15 = .ok (.iconst 0, 1) := by decide +kernel
theorem d_S_takeOnlyRoster_16 : decode b_S_takeOnlyRoster 16 = .ok (.invokevirtual 85, 3) := by decide +kernel
theorem d_S_takeOnlyRoster_19 : decode b_S_takeOnlyRoster 19 = .ok (.return_, 1) := by decide +kernel
theorem d_S_goThrough_0 : decode b_S_goThrough 0 = .ok (.iconst 0, 1) := by decide +kernel
theorem d_S_goThrough_1 : decode b_S_goThrough 1 = .ok (.istore_n 2, 1) := by decide +kernel
theorem d_S_goThrough_2 : decode b_S_goThrough 2 = .ok (.iconst 0, 1) := by decide +kernel
theorem d_S_goThrough_3 : decode b_S_goThrough 3 = .ok (.istore_n 3, 1) := by decide +kernel
theorem d_S_goThrough_4 : decode b_S_goThrough 4 = .ok (.aload_n 0, 1) := by decide +kernel
theorem d_S_goThrough_5 : decode b_S_goThrough 5 = .ok (.aload_n 1, 1) := by decide +kernel
theorem d_S_goThrough_6 : decode b_S_goThrough 6 = .ok (.iload_n 3, 1) := by decide +kernel
theorem d_S_goThrough_7 : decode b_S_goThrough 7 = .ok (.iload_n 2, 1) := by decide +kernel
theorem d_S_goThrough_8 : decode b_S_goThrough 8 = .ok (.invokevirtual 89, 3) := by decide +kernel
theorem d_S_goThrough_11 : decode b_S_goThrough 11 = .ok (.iconst 0, 1) := by decide +kernel
theorem d_S_goThrough_12 : decode b_S_goThrough 12 = .ok (.istore 4, 2) := by decide +kernel
theorem d_S_goThrough_14 : decode b_S_goThrough 14 = .ok (.iload 4, 2) := by decide +kernel
theorem d_S_goThrough_16 : decode b_S_goThrough 16 = .ok (.ldc 93, 2) := by decide +kernel
theorem d_S_goThrough_18 : decode b_S_goThrough 18 = .ok (.if_icmp .ge 192, 3) := by decide +kernel
theorem d_S_goThrough_21 : decode b_S_goThrough 21 = .ok (.iload_n 2, 1) := by decide +kernel
theorem d_S_goThrough_22 : decode b_S_goThrough 22 = .ok (.ifCond .lt 188, 3) := by decide +kernel
theorem d_S_goThrough_25 : decode b_S_goThrough 25 = .ok (.aload_n 0, 1) := by decide +kernel
theorem d_S_goThrough_26 : decode b_S_goThrough 26 = .ok (.getfield 53, 3) := by decide +kernel
theorem d_S_goThrough_29 : decode b_S_goThrough 29 = .ok (.ifCond .ne 181, 3) := by decide +kernel
theorem d_S_goThrough_32 : decode b_S_goThrough 32 = .ok (.iload_n 3, 1) := by decide +kernel
theorem d_S_goThrough_33 : decode b_S_goThrough 33 = .ok (.iload_n 2, 1) := by decide +kernel
theorem d_S_goThrough_34 : decode b_S_goThrough 34 = .ok (.invokestatic 94, 3) := by decide +kernel
theorem d_S_goThrough_37 : decode b_S_goThrough 37 = .ok (.istore 5, 2) := by decide +kernel
theorem d_S_goThrough_39 : decode b_S_goThrough 39 = .ok (.iload_n 3, 1) := by decide +kernel
theorem d_S_goThrough_40 : decode b_S_goThrough 40 = .ok (.aload_n 0, 1) := by decide +kernel
theorem d_S_goThrough_41 : decode b_S_goThrough 41 = .ok (.getfield 9, 3) := by decide +kernel
theorem d_S_goThrough_44 : decode b_S_goThrough 44 = .ok (.getfield 66, 3) := by decide +kernel
theorem d_S_goThrough_47 : decode b_S_goThrough 47 = .ok (.iconst 1, 1) := by decide +kernel
theorem d_S_goThrough_48 : decode b_S_goThrough 48 = .ok (.isub, 1) := by decide +kernel
theorem d_S_goThrough_49 : decode b_S_goThrough 49 = .ok (.if_icmp .ne 7, 3) := by decide +kernel
theorem d_S_goThrough_52 : decode b_S_goThrough 52 = .ok (.iconst 1, 1) := by decide +kernel
theorem d_S_goThrough_53 : decode b_S_goThrough 53 = .ok (.goto 4, 3) := by decide +kernel
theorem d_S_goThrough_56 : decode b_S_goThrough 56 = .ok (.iconst 0, 1) := by decide +kernel
theorem d_S_goThrough_57 : decode b_S_goThrough 57 = .ok (.istore 6, 2) := by decide +kernel
theorem d_S_goThrough_59 : decode b_S_goThrough 59 = .ok (.aload_n 0, 1) := by decide +kernel
theorem d_S_goThrough_60 : decode b_S_goThrough 60 = .ok (.getfield 22, 3) := by decide +kernel
theorem d_S_goThrough_63 : decode b_S_goThrough 63 = .ok (.iload 5, 2) := by decide +kernel
theorem d_S_goThrough_65 : decode b_S_goThrough 65 = .ok (.iaload, 1) := by decide +kernel
theorem d_S_goThrough_66 : decode b_S_goThrough 66 = .ok (.aload_n 0, 1) := by decide +kernel
theorem d_S_goThrough_67 : decode b_S_goThrough 67 = .ok (.getfield 25, 3) := by decide +kernel
theorem d_S_goThrough_70 : decode b_S_goThrough 70 = .ok (.iload 5, 2) := by decide +kernel
theorem d_S_goThrough_72 : decode b_S_goThrough 72 = .ok (.iaload, 1) := by decide +kernel
theorem d_S_goThrough_73 : decode b_S_goThrough 73 = .ok (.if_icmp .le 38, 3) := by decide +kernel
theorem d_S_goThrough_76 : decode b_S_goThrough 76 = .ok (.iload_n 3, 1) := by decide +kernel
theorem d_S_goThrough_77 : decode b_S_goThrough 77 = .ok (.ifCond .ne 9, 3) := by decide +kernel
theorem d_S_goThrough_80 : decode b_S_goThrough 80 = .ok (.iload_n 2, 1) := by decide +kernel
theorem d_S_goThrough_81 : decode b_S_goThrough 81 = .ok (.iconst 1, 1) := by decide +kernel
theorem d_S_goThrough_82 : decode b_S_goThrough 82 = .ok (.isub, 1) := by decide +kernel
theorem d_S_goThrough_83 : decode b_S_goThrough 83 = .ok (.goto 4, 3) := by decide +kernel
theorem d_S_goThrough_86 : decode b_S_goThrough 86 = .ok (.iload_n 2, 1) := by decide +kernel
theorem d_S_goThrough_87 : decode b_S_goThrough 87 = .ok (.istore_n 2, 1) := by decide +kernel
theorem d_S_goThrough_88 : decode b_S_goThrough 88 = .ok (.iload_n 3, 1) := by decide +kernel
theorem d_S_goThrough_89 : decode b_S_goThrough 89 = .ok (.ifCond .ne 15, 3) := by decide +kernel
theorem d_S_goThrough_92 : decode b_S_goThrough 92 = .ok (.aload_n 0, 1) := by decide +kernel
theorem d_S_goThrough_93 : decode b_S_goThrough 93 = .ok (.getfield 9, 3) := by decide +kernel
theorem d_S_goThrough_96 : decode b_S_goThrough 96 = .ok (.getfield 66, 3) := by decide +kernel
theorem d_S_goThrough_99 : decode b_S_goThrough 99 = .ok (.iconst 1, 1) := by decide +kernel
theorem d_S_goThrough_100 : decode b_S_goThrough 100 = .ok (.isub, 1) := by decide +kernel
theorem d_S_goThrough_101 : decode b_S_goThrough 101 = .ok (.goto 6, 3) := by decide +kernel
theorem d_S_goThrough_104 : decode b_S_goThrough 104 = .ok (.iload_n 3, 1) := by decide +kernel
theorem d_S_goThrough_105 : decode b_S_goThrough 105 = .ok (.iconst 1, 1) := by decide +kernel
theorem d_S_goThrough_106 : decode b_S_goThrough 106 = .ok (.isub, 1) := by decide +kernel
theorem d_S_goThrough_107 : decode b_S_goThrough 107 = .ok (.istore_n 3, 1) := by decide +kernel
theorem d_S_goThrough_108 : decode b_S_goThrough 108 = .ok (.goto 96, 3) := by decide +kernel
theorem d_S_goThrough_111 : decode b_S_goThrough 111 = .ok (.aload_n 0, 1) := by decide +kernel
theorem d_S_goThrough_112 : decode b_S_goThrough 112 = .ok (.getfield 44, 3) := by decide +kernel
theorem d_S_goThrough_115 : decode b_S_goThrough 115 = .ok (.aload_n 0, 1) := by decide +kernel
theorem d_S_goThrough_116 : decode b_S_goThrough 116 = .ok (.getfield 37, 3) := by decide +kernel
theorem d_S_goThrough_119 : decode b_S_goThrough 119 = .ok (.if_icmp .lt 11, 3) := by decide +kernel
theorem d_S_goThrough_122 : decode b_S_goThrough 122 = .ok (.aload_n 0, 1) := by decide +kernel
theorem d_S_goThrough_123 : decode b_S_goThrough 123 = .ok (.iconst 1, 1) := by decide +kernel
theorem d_S_goThrough_124 : decode b_S_goThrough 124 = .ok (.putfield 53, 3) := by decide +kernel
theorem d_S_goThrough_127 : decode b_S_goThrough 127 = .ok (.goto 77, 3) := by decide +kernel
theorem d_S_goThrough_130 : decode b_S_goThrough 130 = .ok (.aload_n 0, 1) := by decide +kernel
theorem d_S_goThrough_131 : decode b_S_goThrough 131 = .ok (.iload_n 3, 1) := by decide +kernel
theorem d_S_goThrough_132 : decode b_S_goThrough 132 = .ok (.iload_n 2, 1) := by decide +kernel
theorem d_S_goThrough_133 : decode b_S_goThrough 133 = .ok (.invokevirtual 98, 3) := by decide +kernel
theorem d_S_goThrough_136 : decode b_S_goThrough 136 = .ok (.ifCond .eq 68, 3) := by decide +kernel
theorem d_S_goThrough_139 : decode b_S_goThrough 139 = .ok (.iload 6, 2) := by decide +kernel
theorem d_S_goThrough_141 : decode b_S_goThrough 141 = .ok (.ifCond .eq 30, 3) := by decide +kernel
theorem d_S_goThrough_144 : decode b_S_goThrough 144 = .ok (.iload_n 2, 1) := by decide +kernel
theorem d_S_goThrough_145 : decode b_S_goThrough 145 = .ok (.aload_n 0, 1) := by decide +kernel
theorem d_S_goThrough_146 : decode b_S_goThrough 146 = .ok (.getfield 9, 3) := by decide +kernel
theorem d_S_goThrough_149 : decode b_S_goThrough 149 = .ok (.getfield 71, 3) := by decide +kernel
theorem d_S_goThrough_152 : decode b_S_goThrough 152 = .ok (.iconst 1, 1) := by decide +kernel
theorem d_S_goThrough_153 : decode b_S_goThrough 153 = .ok (.isub, 1) := by decide +kernel
theorem d_S_goThrough_154 : decode b_S_goThrough 154 = .ok (.if_icmp .ne 17, 3) := by decide +kernel
theorem d_S_goThrough_157 : decode b_S_goThrough 157 = .ok (.aload_n 0, 1) := by decide +kernel
theorem d_S_goThrough_158 : decode b_S_goThrough 158 = .ok (.aload_n 0, 1) := by decide +kernel
theorem d_S_goThrough_159 : decode b_S_goThrough 159 = .ok (.getfield 34, 3) := by decide +kernel
theorem d_S_goThrough_162 : decode b_S_goThrough 162 = .ok (.iload 5, 2) := by decide +kernel
theorem d_S_goThrough_164 : decode b_S_goThrough 164 = .ok (.iaload, 1) := by decide +kernel
theorem d_S_goThrough_165 : decode b_S_goThrough 165 = .ok (.invokevirtual 85, 3) := by decide +kernel
theorem d_S_goThrough_168 : decode b_S_goThrough 168 = .ok (.goto 36, 3) := by decide +kernel
theorem d_S_goThrough_171 : decode b_S_goThrough 171 = .ok (.iload 6, 2) := by decide +kernel
theorem d_S_goThrough_173 : decode b_S_goThrough 173 = .ok (.ifCond .eq 9, 3) := by decide +kernel
theorem d_S_goThrough_176 : decode b_S_goThrough 176 = .ok (.iload_n 2, 1) := by decide +kernel
theorem d_S_goThrough_177 : decode b_S_goThrough 177 = .ok (.iconst 1, 1) := by decide +kernel
theorem d_S_goThrough_178 : decode b_S_goThrough 178 = .ok (.iadd, 1) := by decide +kernel
theorem d_S_goThrough_179 : decode b_S_goThrough 179 = .ok (.goto 4, 3) := by decide +kernel
theorem d_S_goThrough_182 : decode b_S_goThrough 182 = .ok (.iload_n 2, 1) := by decide +kernel
theorem d_S_goThrough_183 : decode b_S_goThrough 183 = .ok (.istore_n 2, 1) := by decide +kernel
theorem d_S_goThrough_184 : decode b_S_goThrough 184 = .ok (.iload 6, 2) := by decide +kernel
theorem d_S_goThrough_186 : decode b_S_goThrough 186 = .ok (.ifCond .eq 7, 3) := by decide +kernel
theorem d_S_goThrough_189 : decode b_S_goThrough 189 = .ok (.iconst 0, 1) := by decide +kernel
theorem d_S_goThrough_190 : decode b_S_goThrough 190 = .ok (.goto 6, 3) := by decide +kernel
theorem d_S_goThrough_193 : decode b_S_goThrough 193 = .ok (.iload_n 3, 1) := by decide +kernel
theorem d_S_goThrough_194 : decode b_S_goThrough 194 = .ok (.iconst 1, 1) := by decide +kernel
theorem d_S_goThrough_195 : decode b_S_goThrough 195 = .ok (.iadd, 1) := by decide +kernel
theorem d_S_goThrough_196 : decode b_S_goThrough 196 = .ok (.istore_n 3, 1) := by decide +kernel
theorem d_S_goThrough_197 : decode b_S_goThrough 197 = .ok (.aload_n 0, 1) := by decide +kernel
theorem d_S_goThrough_198 : decode b_S_goThrough 198 = .ok (.aload_n 1, 1) := by decide +kernel
theorem d_S_goThrough_199 : decode b_S_goThrough 199 = .ok (.iload_n 3, 1) := by decide +kernel
theorem d_S_goThrough_200 : decode b_S_goThrough 200 = .ok (.iload_n 2, 1) := by decide +kernel
theorem d_S_goThrough_201 : decode b_S_goThrough 201 = .ok (.invokevirtual 89, 3) := by decide +kernel
theorem d_S_goThrough_204 : decode b_S_goThrough 204 = .ok (.iinc 4 1, 3) := by decide +kernel
theorem d_S_goThrough_207 : decode b_S_goThrough 207 = .ok (.goto (-193), 3) := by decide +kernel
theorem d_S_goThrough_210 : decode b_S_goThrough 210 = .ok (.return_, 1) := by decide +kernel
theorem d_S_open_0 : decode b_S_open 0 = .ok (.iload_n 2, 1) := by decide +kernel
theorem d_S_open_1 : decode b_S_open 1 = .ok (.iload_n 3, 1) := by decide +kernel
theorem d_S_open_2 : decode b_S_open 2 = .ok (.invokestatic 94, 3) := by decide +kernel
theorem d_S_open_5 : decode b_S_open 5 = .ok (.istore 4, 2) := by decide +kernel
theorem d_S_open_7 : decode b_S_open 7 = .ok (.iload_n 3, 1) := by decide +kernel
theorem d_S_open_8 : decode b_S_open 8 = .ok (.aload_n 0, 1) := by decide +kernel
theorem d_S_open_9 : decode b_S_open 9 = .ok (.getfield 41, 3) := by decide +kernel
theorem d_S_open_12 : decode b_S_open 12 = .ok (.if_icmp .ge 7, 3) := by decide +kernel
theorem d_S_open_15 : decode b_S_open 15 = .ok (.iconst 1, 1) := by decide +kernel
theorem d_S_open_16 : decode b_S_open 16 = .ok (.goto 4, 3) := by decide +kernel
theorem d_S_open_19 : decode b_S_open 19 = .ok (.iconst 0, 1) := by decide +kernel
theorem d_S_open_20 : decode b_S_open 20 = .ok (.istore 5, 2) := by decide +kernel
theorem d_S_open_22 : decode b_S_open 22 = .ok (.aload_n 0, 1) := by decide +kernel
theorem d_S_open_23 : decode b_S_open 23 = .ok (.getfield 22, 3) := by decide +kernel
theorem d_S_open_26 : decode b_S_open 26 = .ok (.iload 4, 2) := by decide +kernel
theorem d_S_open_28 : decode b_S_open 28 = .ok (.iload 5, 2) := by decide +kernel
theorem d_S_open_30 : decode b_S_open 30 = .ok (.ifCond .eq 10, 3) := by decide +kernel
theorem d_S_open_33 : decode b_S_open 33 = .ok (.aload_n 1, 1) := by decide +kernel
theorem d_S_open_34 : decode b_S_open 34 = .ok (.iload 4, 2) := by decide +kernel
theorem d_S_open_36 : decode b_S_open 36 = .ok (.iaload, 1) := by decide +kernel
theorem d_S_open_37 : decode b_S_open 37 = .ok (.goto 4, 3) := by decide +kernel
theorem d_S_open_40 : decode b_S_open 40 = .ok (.iconst 0, 1) := by decide +kernel
theorem d_S_open_41 : decode b_S_open 41 = .ok (.iastore, 1) := by decide +kernel
theorem d_S_open_42 : decode b_S_open 42 = .ok (.aload_n 0, 1) := by decide +kernel
theorem d_S_open_43 : decode b_S_open 43 = .ok (.getfield 25, 3) := by decide +kernel
theorem d_S_open_46 : decode b_S_open 46 = .ok (.iload 4, 2) := by decide +kernel
theorem d_S_open_48 : decode b_S_open 48 = .ok (.iload 5, 2) := by decide +kernel
theorem d_S_open_50 : decode b_S_open 50 = .ok (.ifCond .eq 10, 3) := by decide +kernel
theorem d_S_open_53 : decode b_S_open 53 = .ok (.aload_n 1, 1) := by decide +kernel
theorem d_S_open_54 : decode b_S_open 54 = .ok (.iload 4, 2) := by decide +kernel
theorem d_S_open_56 : decode b_S_open 56 = .ok (.iaload, 1) := by decide +kernel
theorem d_S_open_57 : decode b_S_open 57 = .ok (.goto 4, 3) := by decide +kernel
theorem d_S_open_60 : decode b_S_open 60 = .ok (.iconst 3, 1) := by decide +kernel
theorem d_S_open_61 : decode b_S_open 61 = .ok (.iastore, 1) := by decide +kernel
theorem d_S_open_62 : decode b_S_open 62 = .ok (.return_, 1) := by decide +kernel
theorem d_S_standsNext_0 : decode b_S_standsNext 0 = .ok (.iload_n 1, 1) := by decide +kernel
theorem d_S_standsNext_1 : decode b_S_standsNext 1 = .ok (.iload_n 2, 1) := by decide +kernel
theorem d_S_standsNext_2 : decode b_S_standsNext 2 = .ok (.invokestatic 94, 3) := by decide +kernel
theorem d_S_standsNext_5 : decode b_S_standsNext 5 = .ok (.istore_n 3, 1) := by decide +kernel
theorem d_S_standsNext_6 : decode b_S_standsNext 6 = .ok (.aload_n 0, 1) := by decide +kernel
theorem d_S_standsNext_7 : decode b_S_standsNext 7 = .ok (.getfield 22, 3) := by decide +kernel
theorem d_S_standsNext_10 : decode b_S_standsNext 10 = .ok (.iload_n 3, 1) := by decide +kernel
theorem d_S_standsNext_11 : decode b_S_standsNext 11 = .ok (.iaload, 1) := by decide +kernel
theorem d_S_standsNext_12 : decode b_S_standsNext 12 = .ok (.istore 4, 2) := by decide +kernel
theorem d_S_standsNext_14 : decode b_S_standsNext 14 = .ok (.aload_n 0, 1) := by decide +kernel
theorem d_S_standsNext_15 : decode b_S_standsNext 15 = .ok (.getfield 22, 3) := by decide +kernel
theorem d_S_standsNext_18 : decode b_S_standsNext 18 = .ok (.iload_n 3, 1) := by decide +kernel
theorem d_S_standsNext_19 : decode b_S_standsNext 19 = .ok (.dup2, 1) := by decide +kernel
theorem d_S_standsNext_20 : decode b_S_standsNext 20 = .ok (.iaload, 1) := by decide +kernel
theorem d_S_standsNext_21 : decode b_S_standsNext 21 = .ok (.iconst 1, 1) := by decide +kernel
theorem d_S_standsNext_22 : decode b_S_standsNext 22 = .ok (.iadd, 1) := by decide +kernel
theorem d_S_standsNext_23 : decode b_S_standsNext 23 = .ok (.iastore, 1) := by decide +kernel
theorem d_S_standsNext_24 : decode b_S_standsNext 24 = .ok (.aload_n 0, 1) := by decide +kernel
theorem d_S_standsNext_25 : decode b_S_standsNext 25 = .ok (.dup, 1) := by decide +kernel
theorem d_S_standsNext_26 : decode b_S_standsNext 26 = .ok (.getfield 44, 3) := by decide +kernel
theorem d_S_standsNext_29 : decode b_S_standsNext 29 = .ok (.iconst 1, 1) := by decide +kernel
theorem d_S_standsNext_30 : decode b_S_standsNext 30 = .ok (.iadd, 1) := by decide +kernel
theorem d_S_standsNext_31 : decode b_S_standsNext 31 = .ok (.putfield 44, 3) := by decide +kernel
theorem d_S_standsNext_34 : decode b_S_standsNext 34 = .ok (.aload_n 0, 1) := by decide +kernel
theorem d_S_standsNext_35 : decode b_S_standsNext 35 = .ok (.getfield 19, 3) := by decide +kernel
theorem d_S_standsNext_38 : decode b_S_standsNext 38 = .ok (.iload_n 3, 1) := by decide +kernel
theorem d_S_standsNext_39 : decode b_S_standsNext 39 = .ok (.iload 4, 2) := by decide +kernel
theorem d_S_standsNext_41 : decode b_S_standsNext 41 = .ok (.iastore, 1) := by decide +kernel
theorem d_S_standsNext_42 : decode b_S_standsNext 42 = .ok (.aload_n 0, 1) := by decide +kernel
theorem d_S_standsNext_43 : decode b_S_standsNext 43 = .ok (.iload_n 1, 1) := by decide +kernel
theorem d_S_standsNext_44 : decode b_S_standsNext 44 = .ok (.iload_n 2, 1) := by decide +kernel
theorem d_S_standsNext_45 : decode b_S_standsNext 45 = .ok (.iload 4, 2) := by decide +kernel
theorem d_S_standsNext_47 : decode b_S_standsNext 47 = .ok (.invokevirtual 102, 3) := by decide +kernel
theorem d_S_standsNext_50 : decode b_S_standsNext 50 = .ok (.ifCond .eq 64, 3) := by decide +kernel
theorem d_S_standsNext_53 : decode b_S_standsNext 53 = .ok (.aload_n 0, 1) := by decide +kernel
theorem d_S_standsNext_54 : decode b_S_standsNext 54 = .ok (.getfield 9, 3) := by decide +kernel
theorem d_S_standsNext_57 : decode b_S_standsNext 57 = .ok (.getfield 106, 3) := by decide +kernel
theorem d_S_standsNext_60 : decode b_S_standsNext 60 = .ok (.iload_n 1, 1) := by decide +kernel
theorem d_S_standsNext_61 : decode b_S_standsNext 61 = .ok (.iload_n 2, 1) := by decide +kernel
theorem d_S_standsNext_62 : decode b_S_standsNext 62 = .ok (.iload 4, 2) := by decide +kernel
theorem d_S_standsNext_64 : decode b_S_standsNext 64 = .ok (.invokestatic 110, 3) := by decide +kernel
theorem d_S_standsNext_67 : decode b_S_standsNext 67 = .ok (.baload, 1) := by decide +kernel
theorem d_S_standsNext_68 : decode b_S_standsNext 68 = .ok (.ifCond .ne 46, 3) := by decide +kernel
theorem d_S_standsNext_71 : decode b_S_standsNext 71 = .ok (.aload_n 0, 1) := by decide +kernel
theorem d_S_standsNext_72 : decode b_S_standsNext 72 = .ok (.iload_n 1, 1) := by decide +kernel
theorem d_S_standsNext_73 : decode b_S_standsNext 73 = .ok (.iload_n 2, 1) := by decide +kernel
theorem d_S_standsNext_74 : decode b_S_standsNext 74 = .ok (.iload 4, 2) := by decide +kernel
theorem d_S_standsNext_76 : decode b_S_standsNext 76 = .ok (.invokevirtual 114, 3) := by decide +kernel
theorem d_S_standsNext_79 : decode b_S_standsNext 79 = .ok (.ifCond .eq 35, 3) := by decide +kernel
theorem d_S_standsNext_82 : decode b_S_standsNext 82 = .ok (.iload_n 1, 1) := by decide +kernel
theorem d_S_standsNext_83 : decode b_S_standsNext 83 = .ok (.aload_n 0, 1) := by decide +kernel
theorem d_S_standsNext_84 : decode b_S_standsNext 84 = .ok (.getfield 9, 3) := by decide +kernel
theorem d_S_standsNext_87 : decode b_S_standsNext 87 = .ok (.getfield 66, 3) := by decide +kernel
theorem d_S_standsNext_90 : decode b_S_standsNext 90 = .ok (.iconst 1, 1) := by decide +kernel
theorem d_S_standsNext_91 : decode b_S_standsNext 91 = .ok (.isub, 1) := by decide +kernel
theorem d_S_standsNext_92 : decode b_S_standsNext 92 = .ok (.if_icmp .lt 18, 3) := by decide +kernel
theorem d_S_standsNext_95 : decode b_S_standsNext 95 = .ok (.aload_n 0, 1) := by decide +kernel
theorem d_S_standsNext_96 : decode b_S_standsNext 96 = .ok (.getfield 9, 3) := by decide +kernel
theorem d_S_standsNext_99 : decode b_S_standsNext 99 = .ok (.aload_n 0, 1) := by decide +kernel
theorem d_S_standsNext_100 : decode b_S_standsNext 100 = .ok (.getfield 19, 3) := by decide +kernel
theorem d_S_standsNext_103 : decode b_S_standsNext 103 = .ok (.iload_n 2, 1) := by decide +kernel
theorem d_S_standsNext_104 : decode b_S_standsNext 104 = .ok (.invokevirtual 117, 3) := by decide +kernel
theorem d_S_standsNext_107 : decode b_S_standsNext 107 = .ok (.ifCond .ne 7, 3) := by decide +kernel
theorem d_S_standsNext_110 : decode b_S_standsNext 110 = .ok (.iconst 1, 1) := by decide +kernel
theorem d_S_standsNext_111 : decode b_S_standsNext 111 = .ok (.goto 4, 3) := by decide +kernel
theorem d_S_standsNext_114 : decode b_S_standsNext 114 = .ok (.iconst 0, 1) := by decide +kernel
theorem d_S_standsNext_115 : decode b_S_standsNext 115 = .ok (.ireturn, 1) := by decide +kernel
theorem d_S_keepsRules_0 : decode b_S_keepsRules 0 = .ok (.iload_n 1, 1) := by decide +kernel
theorem d_S_keepsRules_1 : decode b_S_keepsRules 1 = .ok (.iload_n 2, 1) := by decide +kernel
theorem d_S_keepsRules_2 : decode b_S_keepsRules 2 = .ok (.invokestatic 94, 3) := by decide +kernel
theorem d_S_keepsRules_5 : decode b_S_keepsRules 5 = .ok (.istore 4, 2) := by decide +kernel
theorem d_S_keepsRules_7 : decode b_S_keepsRules 7 = .ok (.iload_n 1, 1) := by decide +kernel
theorem d_S_keepsRules_8 : decode b_S_keepsRules 8 = .ok (.iload_n 2, 1) := by decide +kernel
theorem d_S_keepsRules_9 : decode b_S_keepsRules 9 = .ok (.iconst 1, 1) := by decide +kernel
theorem d_S_keepsRules_10 : decode b_S_keepsRules 10 = .ok (.isub, 1) := by decide +kernel
theorem d_S_keepsRules_11 : decode b_S_keepsRules 11 = .ok (.invokestatic 94, 3) := by decide +kernel
theorem d_S_keepsRules_14 : decode b_S_keepsRules 14 = .ok (.istore 5, 2) := by decide +kernel
theorem d_S_keepsRules_16 : decode b_S_keepsRules 16 = .ok (.iload_n 2, 1) := by decide +kernel
theorem d_S_keepsRules_17 : decode b_S_keepsRules 17 = .ok (.ifCond .ne 7, 3) := by decide +kernel
theorem d_S_keepsRules_20 : decode b_S_keepsRules 20 = .ok (.iconst 0, 1) := by decide +kernel
theorem d_S_keepsRules_21 : decode b_S_keepsRules 21 = .ok (.goto 10, 3) := by decide +kernel
theorem d_S_keepsRules_24 : decode b_S_keepsRules 24 = .ok (.aload_n 0, 1) := by decide +kernel
theorem d_S_keepsRules_25 : decode b_S_keepsRules 25 = .ok (.getfield 28, 3) := by decide +kernel
theorem d_S_keepsRules_28 : decode b_S_keepsRules 28 = .ok (.iload 5, 2) := by decide +kernel
theorem d_S_keepsRules_30 : decode b_S_keepsRules 30 = .ok (.iaload, 1) := by decide +kernel
theorem d_S_keepsRules_31 : decode b_S_keepsRules 31 = .ok (.istore 6, 2) := by decide +kernel
theorem d_S_keepsRules_33 : decode b_S_keepsRules 33 = .ok (.iload_n 2, 1) := by decide +kernel
theorem d_S_keepsRules_34 : decode b_S_keepsRules 34 = .ok (.ifCond .ne 7, 3) := by decide +kernel
theorem d_S_keepsRules_37 : decode b_S_keepsRules 37 = .ok (.iconst 0, 1) := by decide +kernel
theorem d_S_keepsRules_38 : decode b_S_keepsRules 38 = .ok (.goto 10, 3) := by decide +kernel
theorem d_S_keepsRules_41 : decode b_S_keepsRules 41 = .ok (.aload_n 0, 1) := by decide +kernel
theorem d_S_keepsRules_42 : decode b_S_keepsRules 42 = .ok (.getfield 31, 3) := by decide +kernel
theorem d_S_keepsRules_45 : decode b_S_keepsRules 45 = .ok (.iload 5, 2) := by decide +kernel
theorem d_S_keepsRules_47 : decode b_S_keepsRules 47 = .ok (.iaload, 1) := by decide +kernel
theorem d_S_keepsRules_48 : decode b_S_keepsRules 48 = .ok (.istore 7, 2) := by decide +kernel
theorem d_S_keepsRules_50 : decode b_S_keepsRules 50 = .ok (.iload_n 2, 1) := by decide +kernel
theorem d_S_keepsRules_51 : decode b_S_keepsRules 51 = .ok (.ifCond .ne 7, 3) := by decide +kernel
theorem d_S_keepsRules_54 : decode b_S_keepsRules 54 = .ok (.iconst 0, 1) := by decide +kernel
theorem d_S_keepsRules_55 : decode b_S_keepsRules 55 = .ok (.goto 10, 3) := by decide +kernel
theorem d_S_keepsRules_58 : decode b_S_keepsRules 58 = .ok (.aload_n 0, 1) := by decide +kernel
theorem d_S_keepsRules_59 : decode b_S_keepsRules 59 = .ok (.getfield 19, 3) := by decide +kernel
theorem d_S_keepsRules_62 : decode b_S_keepsRules 62 = .ok (.iload 5, 2) := by decide +kernel
theorem d_S_keepsRules_64 : decode b_S_keepsRules 64 = .ok (.iaload, 1) := by decide +kernel
theorem d_S_keepsRules_65 : decode b_S_keepsRules 65 = .ok (.istore 8, 2) := by decide +kernel
theorem d_S_keepsRules_67 : decode b_S_keepsRules 67 = .ok (.aload_n 0, 1) := by decide +kernel
theorem d_S_keepsRules_68 : decode b_S_keepsRules 68 = .ok (.getfield 28, 3) := by decide +kernel
theorem d_S_keepsRules_71 : decode b_S_keepsRules 71 = .ok (.iload 4, 2) := by decide +kernel
theorem d_S_keepsRules_73 : decode b_S_keepsRules 73 = .ok (.iload_n 3, 1) := by decide +kernel
theorem d_S_keepsRules_74 : decode b_S_keepsRules 74 = .ok (.ifCond .ne 8, 3) := by decide +kernel
theorem d_S_keepsRules_77 : decode b_S_keepsRules 77 = .ok (.iload 6, 2) := by decide +kernel
theorem d_S_keepsRules_79 : decode b_S_keepsRules 79 = .ok (.goto 7, 3) := by decide +kernel
theorem d_S_keepsRules_82 : decode b_S_keepsRules 82 = .ok (.iload 6, 2) := by decide +kernel
theorem d_S_keepsRules_84 : decode b_S_keepsRules 84 = .ok (.iconst 1, 1) := by decide +kernel
theorem d_S_keepsRules_85 : decode b_S_keepsRules 85 = .ok (.iadd, 1) := by decide +kernel
theorem d_S_keepsRules_86 : decode b_S_keepsRules 86 = .ok (.iastore, 1) := by decide +kernel
theorem d_S_keepsRules_87 : decode b_S_keepsRules 87 = .ok (.aload_n 0, 1) := by decide +kernel
theorem d_S_keepsRules_88 : decode b_S_keepsRules 88 = .ok (.getfield 31, 3) := by decide +kernel
theorem d_S_keepsRules_91 : decode b_S_keepsRules 91 = .ok (.iload 4, 2) := by decide +kernel
theorem d_S_keepsRules_93 : decode b_S_keepsRules 93 = .ok (.iload_n 3, 1) := by decide +kernel
theorem d_S_keepsRules_94 : decode b_S_keepsRules 94 = .ok (.iconst 3, 1) := by decide +kernel
theorem d_S_keepsRules_95 : decode b_S_keepsRules 95 = .ok (.if_icmp .ne 10, 3) := by decide +kernel
theorem d_S_keepsRules_98 : decode b_S_keepsRules 98 = .ok (.iload 7, 2) := by decide +kernel
theorem d_S_keepsRules_100 : decode b_S_keepsRules 100 = .ok (.iconst 1, 1) := by decide +kernel
theorem d_S_keepsRules_101 : decode b_S_keepsRules 101 = .ok (.iadd, 1) := by decide +kernel
theorem d_S_keepsRules_102 : decode b_S_keepsRules 102 = .ok (.goto 4, 3) := by decide +kernel
theorem d_S_keepsRules_105 : decode b_S_keepsRules 105 = .ok (.iconst 0, 1) := by decide +kernel
theorem d_S_keepsRules_106 : decode b_S_keepsRules 106 = .ok (.iastore, 1) := by decide +kernel
theorem d_S_keepsRules_107 : decode b_S_keepsRules 107 = .ok (.aload_n 0, 1) := by decide +kernel
theorem d_S_keepsRules_108 : decode b_S_keepsRules 108 = .ok (.getfield 28, 3) := by decide +kernel
theorem d_S_keepsRules_111 : decode b_S_keepsRules 111 = .ok (.iload 4, 2) := by decide +kernel
theorem d_S_keepsRules_113 : decode b_S_keepsRules 113 = .ok (.iaload, 1) := by decide +kernel
theorem d_S_keepsRules_114 : decode b_S_keepsRules 114 = .ok (.aload_n 0, 1) := by decide +kernel
theorem d_S_keepsRules_115 : decode b_S_keepsRules 115 = .ok (.getfield 9, 3) := by decide +kernel
theorem d_S_keepsRules_118 : decode b_S_keepsRules 118 = .ok (.getfield 121, 3) := by decide +kernel
theorem d_S_keepsRules_121 : decode b_S_keepsRules 121 = .ok (.if_icmp .gt 37, 3) := by decide +kernel
theorem d_S_keepsRules_124 : decode b_S_keepsRules 124 = .ok (.aload_n 0, 1) := by decide +kernel
theorem d_S_keepsRules_125 : decode b_S_keepsRules 125 = .ok (.getfield 31, 3) := by decide +kernel
theorem d_S_keepsRules_128 : decode b_S_keepsRules 128 = .ok (.iload 4, 2) := by decide +kernel
theorem d_S_keepsRules_130 : decode b_S_keepsRules 130 = .ok (.iaload, 1) := by decide +kernel
theorem d_S_keepsRules_131 : decode b_S_keepsRules 131 = .ok (.aload_n 0, 1) := by decide +kernel
theorem d_S_keepsRules_132 : decode b_S_keepsRules 132 = .ok (.getfield 9, 3) := by decide +kernel
theorem d_S_keepsRules_135 : decode b_S_keepsRules 135 = .ok (.getfield 124, 3) := by decide +kernel
theorem d_S_keepsRules_138 : decode b_S_keepsRules 138 = .ok (.if_icmp .gt 20, 3) := by decide +kernel
theorem d_S_keepsRules_141 : decode b_S_keepsRules 141 = .ok (.aload_n 0, 1) := by decide +kernel
theorem d_S_keepsRules_142 : decode b_S_keepsRules 142 = .ok (.getfield 9, 3) := by decide +kernel
theorem d_S_keepsRules_145 : decode b_S_keepsRules 145 = .ok (.iload 8, 2) := by decide +kernel
theorem d_S_keepsRules_147 : decode b_S_keepsRules 147 = .ok (.iload_n 3, 1) := by decide +kernel
theorem d_S_keepsRules_148 : decode b_S_keepsRules 148 = .ok (.invokevirtual 127, 3) := by decide +kernel
theorem d_S_keepsRules_151 : decode b_S_keepsRules 151 = .ok (.ifCond .ne 7, 3) := by decide +kernel
theorem d_S_keepsRules_154 : decode b_S_keepsRules 154 = .ok (.iconst 1, 1) := by decide +kernel
theorem d_S_keepsRules_155 : decode b_S_keepsRules 155 = .ok (.goto 4, 3) := by decide +kernel
theorem d_S_keepsRules_158 : decode b_S_keepsRules 158 = .ok (.iconst 0, 1) := by decide +kernel
theorem d_S_keepsRules_159 : decode b_S_keepsRules 159 = .ok (.ireturn, 1) := by decide +kernel
theorem d_S_staysBelowBest_0 : decode b_S_staysBelowBest 0 = .ok (.iload_n 1, 1) := by decide +kernel
theorem d_S_staysBelowBest_1 : decode b_S_staysBelowBest 1 = .ok (.iload_n 2, 1) := by decide +kernel
theorem d_S_staysBelowBest_2 : decode b_S_staysBelowBest 2 = .ok (.invokestatic 94, 3) := by decide +kernel
theorem d_S_staysBelowBest_5 : decode b_S_staysBelowBest 5 = .ok (.istore 4, 2) := by decide +kernel
theorem d_S_staysBelowBest_7 : decode b_S_staysBelowBest 7 = .ok (.aload_n 0, 1) := by decide +kernel
theorem d_S_staysBelowBest_8 : decode b_S_staysBelowBest 8 = .ok (.getfield 34, 3) := by decide +kernel
theorem d_S_staysBelowBest_11 : decode b_S_staysBelowBest 11 = .ok (.iload 4, 2) := by decide +kernel
theorem d_S_staysBelowBest_13 : decode b_S_staysBelowBest 13 = .ok (.aload_n 0, 1) := by decide +kernel
theorem d_S_staysBelowBest_14 : decode b_S_staysBelowBest 14 = .ok (.iload_n 1, 1) := by decide +kernel
theorem d_S_staysBelowBest_15 : decode b_S_staysBelowBest 15 = .ok (.iload_n 2, 1) := by decide +kernel
theorem d_S_staysBelowBest_16 : decode b_S_staysBelowBest 16 = .ok (.invokevirtual 130, 3) := by decide +kernel
theorem d_S_staysBelowBest_19 : decode b_S_staysBelowBest 19 = .ok (.aload_n 0, 1) := by decide +kernel
theorem d_S_staysBelowBest_20 : decode b_S_staysBelowBest 20 = .ok (.getfield 9, 3) := by decide +kernel
theorem d_S_staysBelowBest_23 : decode b_S_staysBelowBest 23 = .ok (.getfield 133, 3) := by decide +kernel
theorem d_S_staysBelowBest_26 : decode b_S_staysBelowBest 26 = .ok (.iload_n 1, 1) := by decide +kernel
theorem d_S_staysBelowBest_27 : decode b_S_staysBelowBest 27 = .ok (.iload_n 2, 1) := by decide +kernel
theorem d_S_staysBelowBest_28 : decode b_S_staysBelowBest 28 = .ok (.iload_n 3, 1) := by decide +kernel
theorem d_S_staysBelowBest_29 : decode b_S_staysBelowBest 29 = .ok (.invokestatic 110, 3) := by decide +kernel
theorem d_S_staysBelowBest_32 : decode b_S_staysBelowBest 32 = .ok (.iaload, 1) := by decide +kernel
theorem d_S_staysBelowBest_33 : decode b_S_staysBelowBest 33 = .ok (.iadd, 1) := by decide +kernel
theorem d_S_staysBelowBest_34 : decode b_S_staysBelowBest 34 = .ok (.iastore, 1) := by decide +kernel
theorem d_S_staysBelowBest_35 : decode b_S_staysBelowBest 35 = .ok (.aload_n 0, 1) := by decide +kernel
theorem d_S_staysBelowBest_36 : decode b_S_staysBelowBest 36 = .ok (.getfield 34, 3) := by decide +kernel
theorem d_S_staysBelowBest_39 : decode b_S_staysBelowBest 39 = .ok (.iload 4, 2) := by decide +kernel
theorem d_S_staysBelowBest_41 : decode b_S_staysBelowBest 41 = .ok (.iaload, 1) := by decide +kernel
theorem d_S_staysBelowBest_42 : decode b_S_staysBelowBest 42 = .ok (.aload_n 0, 1) := by decide +kernel
theorem d_S_staysBelowBest_43 : decode b_S_staysBelowBest 43 = .ok (.getfield 50, 3) := by decide +kernel
theorem d_S_staysBelowBest_46 : decode b_S_staysBelowBest 46 = .ok (.if_icmp .ge 7, 3) := by decide +kernel
theorem d_S_staysBelowBest_49 : decode b_S_staysBelowBest 49 = .ok (.iconst 1, 1) := by decide +kernel
theorem d_S_staysBelowBest_50 : decode b_S_staysBelowBest 50 = .ok (.goto 4, 3) := by decide +kernel
theorem d_S_staysBelowBest_53 : decode b_S_staysBelowBest 53 = .ok (.iconst 0, 1) := by decide +kernel
theorem d_S_staysBelowBest_54 : decode b_S_staysBelowBest 54 = .ok (.ireturn, 1) := by decide +kernel
theorem d_S_unmetBefore_0 : decode b_S_unmetBefore 0 = .ok (.iload_n 1, 1) := by decide +kernel
theorem d_S_unmetBefore_1 : decode b_S_unmetBefore 1 = .ok (.ifCond .le 16, 3) := by decide +kernel
theorem d_S_unmetBefore_4 : decode b_S_unmetBefore 4 = .ok (.aload_n 0, 1) := by decide +kernel
theorem d_S_unmetBefore_5 : decode b_S_unmetBefore 5 = .ok (.getfield 34, 3) := by decide +kernel
theorem d_S_unmetBefore_8 : decode b_S_unmetBefore 8 = .ok (.iload_n 1, 1) := by decide +kernel
theorem d_S_unmetBefore_9 : decode b_S_unmetBefore 9 = .ok (.iconst 1, 1) := by decide +kernel
theorem d_S_unmetBefore_10 : decode b_S_unmetBefore 10 = .ok (.isub, 1) := by decide +kernel
theorem d_S_unmetBefore_11 : decode b_S_unmetBefore 11 = .ok (.iload_n 2, 1) := by decide +kernel
theorem d_S_unmetBefore_12 : decode b_S_unmetBefore 12 = .ok (.invokestatic 94, 3) := by decide +kernel
theorem d_S_unmetBefore_15 : decode b_S_unmetBefore 15 = .ok (.iaload, 1) := by decide +kernel
theorem d_S_unmetBefore_16 : decode b_S_unmetBefore 16 = .ok (.ireturn, 1) := by decide +kernel
theorem d_S_unmetBefore_17 : decode b_S_unmetBefore 17 = .ok (.iload_n 2, 1) := by decide +kernel
theorem d_S_unmetBefore_18 : decode b_S_unmetBefore 18 = .ok (.ifCond .ne 7, 3) := by decide +kernel
theorem d_S_unmetBefore_21 : decode b_S_unmetBefore 21 = .ok (.iconst 0, 1) := by decide +kernel
theorem d_S_unmetBefore_22 : decode b_S_unmetBefore 22 = .ok (.goto 23, 3) := by decide +kernel
theorem d_S_unmetBefore_25 : decode b_S_unmetBefore 25 = .ok (.aload_n 0, 1) := by decide +kernel
theorem d_S_unmetBefore_26 : decode b_S_unmetBefore 26 = .ok (.getfield 34, 3) := by decide +kernel
theorem d_S_unmetBefore_29 : decode b_S_unmetBefore 29 = .ok (.aload_n 0, 1) := by decide +kernel
theorem d_S_unmetBefore_30 : decode b_S_unmetBefore 30 = .ok (.getfield 9, 3) := by decide +kernel
theorem d_S_unmetBefore_33 : decode b_S_unmetBefore 33 = .ok (.getfield 66, 3) := by decide +kernel
theorem d_S_unmetBefore_36 : decode b_S_unmetBefore 36 = .ok (.iconst 1, 1) := by decide +kernel
theorem d_S_unmetBefore_37 : decode b_S_unmetBefore 37 = .ok (.isub, 1) := by decide +kernel
theorem d_S_unmetBefore_38 : decode b_S_unmetBefore 38 = .ok (.iload_n 2, 1) := by decide +kernel
theorem d_S_unmetBefore_39 : decode b_S_unmetBefore 39 = .ok (.iconst 1, 1) := by decide +kernel
theorem d_S_unmetBefore_40 : decode b_S_unmetBefore 40 = .ok (.isub, 1) := by decide +kernel
theorem d_S_unmetBefore_41 : decode b_S_unmetBefore 41 = .ok (.invokestatic 94, 3) := by decide +kernel
theorem d_S_unmetBefore_44 : decode b_S_unmetBefore 44 = .ok (.iaload, 1) := by decide +kernel
theorem d_S_unmetBefore_45 : decode b_S_unmetBefore 45 = .ok (.ireturn, 1) := by decide +kernel
theorem d_S_keepTrial_0 : decode b_S_keepTrial 0 = .ok (.aload_n 0, 1) := by decide +kernel
theorem d_S_keepTrial_1 : decode b_S_keepTrial 1 = .ok (.getfield 19, 3) := by decide +kernel
theorem d_S_keepTrial_4 : decode b_S_keepTrial 4 = .ok (.iconst 0, 1) := by decide +kernel
theorem d_S_keepTrial_5 : decode b_S_keepTrial 5 = .ok (.aload_n 0, 1) := by decide +kernel
theorem d_S_keepTrial_6 : decode b_S_keepTrial 6 = .ok (.getfield 15, 3) := by decide +kernel
theorem d_S_keepTrial_9 : decode b_S_keepTrial 9 = .ok (.iconst 0, 1) := by decide +kernel
theorem d_S_keepTrial_10 : decode b_S_keepTrial 10 = .ok (.bipush 42, 2) := by decide +kernel
theorem d_S_keepTrial_12 : decode b_S_keepTrial 12 = .ok (.invokestatic 60, 3) := by decide +kernel
theorem d_S_keepTrial_15 : decode b_S_keepTrial 15 = .ok (.aload_n 0, 1) := by decide +kernel
theorem d_S_keepTrial_16 : decode b_S_keepTrial 16 = .ok (.iload_n 1, 1) := by decide +kernel
theorem d_S_keepTrial_17 : decode b_S_keepTrial 17 = .ok (.putfield 50, 3) := by decide +kernel
theorem d_S_keepTrial_20 : decode b_S_keepTrial 20 = .ok (.aload_n 0, 1) := by decide +kernel
theorem d_S_keepTrial_21 : decode b_S_keepTrial 21 = .ok (.dup, 1) := by decide +kernel
theorem d_S_keepTrial_22 : decode b_S_keepTrial 22 = .ok (.getfield 47, 3) := by decide +kernel
theorem d_S_keepTrial_25 : decode b_S_keepTrial 25 = .ok (.iconst 1, 1) := by decide +kernel
theorem d_S_keepTrial_26 : decode b_S_keepTrial 26 = .ok (.iadd, 1) := by decide +kernel
theorem d_S_keepTrial_27 : decode b_S_keepTrial 27 = .ok (.putfield 47, 3) := by decide +kernel
theorem d_S_keepTrial_30 : decode b_S_keepTrial 30 = .ok (.return_, 1) := by decide +kernel
