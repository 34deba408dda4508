theorem d_M_init_0 : decode b_M_init 0 = .ok (.aload_n 0, 1) := by decide +kernel
theorem d_M_init_1 : decode b_M_init 1 = .ok (.invokespecial 1, 3) := by decide +kernel
theorem d_M_init_4 : decode b_M_init 4 = .ok (.aload_n 0, 1) := by decide +kernel
theorem d_M_init_5 : decode b_M_init 5 = .ok (.bipush 6, 2) := by decide +kernel
theorem d_M_init_7 : decode b_M_init 7 = .ok (.newarray .int, 2) := by decide +kernel
theorem d_M_init_9 : decode b_M_init 9 = .ok (.putfield 7, 3) := by decide +kernel
theorem d_M_init_12 : decode b_M_init 12 = .ok (.aload_n 0, 1) := by decide +kernel
theorem d_M_init_13 : decode b_M_init 13 = .ok (.bipush 6, 2) := by decide +kernel
theorem d_M_init_15 : decode b_M_init 15 = .ok (.newarray .int, 2) := by decide +kernel
theorem d_M_init_17 : decode b_M_init 17 = .ok (.putfield 13, 3) := by decide +kernel
theorem d_M_init_20 : decode b_M_init 20 = .ok (.aload_n 0, 1) := by decide +kernel
theorem d_M_init_21 : decode b_M_init 21 = .ok (.bipush 42, 2) := by decide +kernel
theorem d_M_init_23 : decode b_M_init 23 = .ok (.newarray .int, 2) := by decide +kernel
theorem d_M_init_25 : decode b_M_init 25 = .ok (.putfield 16, 3) := by decide +kernel
theorem d_M_init_28 : decode b_M_init 28 = .ok (.aload_n 0, 1) := by decide +kernel
theorem d_M_init_29 : decode b_M_init 29 = .ok (.bipush 42, 2) := by decide +kernel
theorem d_M_init_31 : decode b_M_init 31 = .ok (.newarray .int, 2) := by decide +kernel
theorem d_M_init_33 : decode b_M_init 33 = .ok (.putfield 19, 3) := by decide +kernel
theorem d_M_init_36 : decode b_M_init 36 = .ok (.aload_n 0, 1) := by decide +kernel
theorem d_M_init_37 : decode b_M_init 37 = .ok (.bipush 42, 2) := by decide +kernel
theorem d_M_init_39 : decode b_M_init 39 = .ok (.newarray .int, 2) := by decide +kernel
theorem d_M_init_41 : decode b_M_init 41 = .ok (.putfield 22, 3) := by decide +kernel
theorem d_M_init_44 : decode b_M_init 44 = .ok (.aload_n 0, 1) := by decide +kernel
theorem d_M_init_45 : decode b_M_init 45 = .ok (.bipush 42, 2) := by decide +kernel
theorem d_M_init_47 : decode b_M_init 47 = .ok (.newarray .int, 2) := by decide +kernel
theorem d_M_init_49 : decode b_M_init 49 = .ok (.putfield 25, 3) := by decide +kernel
theorem d_M_init_52 : decode b_M_init 52 = .ok (.aload_n 0, 1) := by decide +kernel
theorem d_M_init_53 : decode b_M_init 53 = .ok (.bipush 28, 2) := by decide +kernel
theorem d_M_init_55 : decode b_M_init 55 = .ok (.newarray .int, 2) := by decide +kernel
theorem d_M_init_57 : decode b_M_init 57 = .ok (.putfield 28, 3) := by decide +kernel
theorem d_M_init_60 : decode b_M_init 60 = .ok (.aload_n 0, 1) := by decide +kernel
theorem d_M_init_61 : decode b_M_init 61 = .ok (.bipush 28, 2) := by decide +kernel
theorem d_M_init_63 : decode b_M_init 63 = .ok (.newarray .int, 2) := by decide +kernel
theorem d_M_init_65 : decode b_M_init 65 = .ok (.putfield 31, 3) := by decide +kernel
theorem d_M_init_68 : decode b_M_init 68 = .ok (.aload_n 0, 1) := by decide +kernel
theorem d_M_init_69 : decode b_M_init 69 = .ok (.sipush 168, 3) := by decide +kernel
theorem d_M_init_72 : decode b_M_init 72 = .ok (.newarray .boolean, 2) := by decide +kernel
theorem d_M_init_74 : decode b_M_init 74 = .ok (.putfield 34, 3) := by decide +kernel
theorem d_M_init_77 : decode b_M_init 77 = .ok (.aload_n 0, 1) := by decide +kernel
theorem d_M_init_78 : decode b_M_init 78 = .ok (.bipush 11, 2) := by decide +kernel
theorem d_M_init_80 : decode b_M_init 80 = .ok (.putfield 38, 3) := by decide +kernel
theorem d_M_init_83 : decode b_M_init 83 = .ok (.aload_n 0, 1) := by decide +kernel
theorem d_M_init_84 : decode b_M_init 84 = .ok (.bipush 7, 2) := by decide +kernel
theorem d_M_init_86 : decode b_M_init 86 = .ok (.putfield 42, 3) := by decide +kernel
theorem d_M_init_89 : decode b_M_init 89 = .ok (.aload_n 0, 1) := by decide +kernel
theorem d_M_init_90 : decode b_M_init 90 = .ok (.bipush 7, 2) := by decide +kernel
theorem d_M_init_92 : decode b_M_init 92 = .ok (.putfield 45, 3) := by decide +kernel
theorem d_M_init_95 : decode b_M_init 95 = .ok (.aload_n 0, 1) := by decide +kernel
theorem d_M_init_96 : decode b_M_init 96 = .ok (.bipush 20, 2) := by decide +kernel
theorem d_M_init_98 : decode b_M_init 98 = .ok (.newarray .int, 2) := by decide +kernel
theorem d_M_init_100 : decode b_M_init 100 = .ok (.putfield 48, 3) := by decide +kernel
theorem d_M_init_103 : decode b_M_init 103 = .ok (.aload_n 0, 1) := by decide +kernel
theorem d_M_init_104 : decode b_M_init 104 = .ok (.bipush 20, 2) := by decide +kernel
theorem d_M_init_106 : decode b_M_init 106 = .ok (.newarray .int, 2) := by decide +kernel
theorem d_M_init_108 : decode b_M_init 108 = .ok (.putfield 51, 3) := by decide +kernel
theorem d_M_init_111 : decode b_M_init 111 = .ok (.aload_n 0, 1) := by decide +kernel
theorem d_M_init_112 : decode b_M_init 112 = .ok (.bipush 20, 2) := by decide +kernel
theorem d_M_init_114 : decode b_M_init 114 = .ok (.newarray .int, 2) := by decide +kernel
theorem d_M_init_116 : decode b_M_init 116 = .ok (.putfield 54, 3) := by decide +kernel
theorem d_M_init_119 : decode b_M_init 119 = .ok (.aload_n 0, 1) := by decide +kernel
theorem d_M_init_120 : decode b_M_init 120 = .ok (.bipush 20, 2) := by decide +kernel
theorem d_M_init_122 : decode b_M_init 122 = .ok (.newarray .boolean, 2) := by decide +kernel
theorem d_M_init_124 : decode b_M_init 124 = .ok (.putfield 57, 3) := by decide +kernel
theorem d_M_init_127 : decode b_M_init 127 = .ok (.aload_n 0, 1) := by decide +kernel
theorem d_M_init_128 : decode b_M_init 128 = .ok (.bipush 20, 2) := by decide +kernel
theorem d_M_init_130 : decode b_M_init 130 = .ok (.newarray .int, 2) := by decide +kernel
theorem d_M_init_132 : decode b_M_init 132 = .ok (.putfield 60, 3) := by decide +kernel
theorem d_M_init_135 : decode b_M_init 135 = .ok (.return_, 1) := by decide +kernel
theorem d_M_thrown_0 : decode b_M_thrown 0 = .ok (.aload_n 0, 1) := by decide +kernel
theorem d_M_thrown_1 : decode b_M_thrown 1 = .ok (.getfield 63, 3) := by decide +kernel
theorem d_M_thrown_4 : decode b_M_thrown 4 = .ok (.ireturn, 1) := by decide +kernel
theorem d_M_throwing_0 : decode b_M_throwing 0 = .ok (.aload_n 0, 1) := by decide +kernel
theorem d_M_throwing_1 : decode b_M_throwing 1 = .ok (.iload_n 1, 1) := by decide +kernel
theorem d_M_throwing_2 : decode b_M_throwing 2 = .ok (.ifCond .eq 7, 3) := by decide +kernel
theorem d_M_throwing_5 : decode b_M_throwing 5 = .ok (.iconst 1, 1) := by decide +kernel
theorem d_M_throwing_6 : decode b_M_throwing 6 = .ok (.goto 29, 3) := by decide +kernel
theorem d_M_throwing_9 : decode b_M_throwing 9 = .ok (.iload_n 2, 1) := by decide +kernel
theorem d_M_throwing_10 : decode b_M_throwing 10 = .ok (.ifCond .eq 7, 3) := by decide +kernel
theorem d_M_throwing_13 : decode b_M_throwing 13 = .ok (.iconst 2, 1) := by decide +kernel
theorem d_M_throwing_14 : decode b_M_throwing 14 = .ok (.goto 21, 3) := by decide +kernel
theorem d_M_throwing_17 : decode b_M_throwing 17 = .ok (.iload_n 3, 1) := by decide +kernel
theorem d_M_throwing_18 : decode b_M_throwing 18 = .ok (.ifCond .eq 7, 3) := by decide +kernel
theorem d_M_throwing_21 : decode b_M_throwing 21 = .ok (.iconst 3, 1) := by decide +kernel
theorem d_M_throwing_22 : decode b_M_throwing 22 = .ok (.goto 13, 3) := by decide +kernel
theorem d_M_throwing_25 : decode b_M_throwing 25 = .ok (.iload 4, 2) := by decide +kernel
theorem d_M_throwing_27 : decode b_M_throwing 27 = .ok (.ifCond .eq 7, 3) := by decide +kernel
theorem d_M_throwing_30 : decode b_M_throwing 30 = .ok (.iconst 4, 1) := by decide +kernel
theorem d_M_throwing_31 : decode b_M_throwing 31 = .ok (.goto 4, 3) := by decide +kernel
theorem d_M_throwing_34 : decode b_M_throwing 34 = .ok (.iconst 0, 1) := by decide +kernel
theorem d_M_throwing_35 : decode b_M_throwing 35 = .ok (.putfield 63, 3) := by decide +kernel
theorem d_M_throwing_38 : decode b_M_throwing 38 = .ok (.aload_n 0, 1) := by decide +kernel
theorem d_M_throwing_39 : decode b_M_throwing 39 = .ok (.getfield 63, 3) := by decide +kernel
theorem d_M_throwing_42 : decode b_M_throwing 42 = .ok (.ifCond .le 7, 3) := by decide +kernel
theorem d_M_throwing_45 : decode b_M_throwing 45 = .ok (.iconst 1, 1) := by decide +kernel
theorem d_M_throwing_46 : decode b_M_throwing 46 = .ok (.goto 4, 3) := by decide +kernel
theorem d_M_throwing_49 : decode b_M_throwing 49 = .ok (.iconst 0, 1) := by decide +kernel
theorem d_M_throwing_50 : decode b_M_throwing 50 = .ok (.ireturn, 1) := by decide +kernel
theorem d_M_in_0 : decode b_M_in 0 = .ok (.iload_n 0, 1) := by decide +kernel
theorem d_M_in_1 : decode b_M_in 1 = .ok (.iload_n 1, 1) := by decide +kernel
theorem d_M_in_2 : decode b_M_in 2 = .ok (.if_icmp .lt 12, 3) := by decide +kernel
theorem d_M_in_5 : decode b_M_in 5 = .ok (.iload_n 0, 1) := by decide +kernel
theorem d_M_in_6 : decode b_M_in 6 = .ok (.iload_n 2, 1) := by decide +kernel
theorem d_M_in_7 : decode b_M_in 7 = .ok (.if_icmp .gt 7, 3) := by decide +kernel
theorem d_M_in_10 : decode b_M_in 10 = .ok (.iconst 1, 1) := by decide +kernel
theorem d_M_in_11 : decode b_M_in 11 = .ok (.goto 4, 3) := by decide +kernel
theorem d_M_in_14 : decode b_M_in 14 = .ok (.iconst 0, 1) := by decide +kernel
theorem d_M_in_15 : decode b_M_in 15 = .ok (.ireturn, 1) := by decide +kernel
theorem d_M_isPerson_0 : decode b_M_isPerson 0 = .ok (.iload_n 1, 1) := by decide +kernel
theorem d_M_isPerson_1 : decode b_M_isPerson 1 = .ok (.iconst 0, 1) := by decide +kernel
theorem d_M_isPerson_2 : decode b_M_isPerson 2 = .ok (.aload_n 0, 1) := by decide +kernel
theorem d_M_isPerson_3 : decode b_M_isPerson 3 = .ok (.getfield 66, 3) := by decide +kernel
theorem d_M_isPerson_6 : decode b_M_isPerson 6 = .ok (.iconst 1, 1) := by decide +kernel
theorem d_M_isPerson_7 : decode b_M_isPerson 7 = .ok (.isub, 1) := by decide +kernel
theorem d_M_isPerson_8 : decode b_M_isPerson 8 = .ok (.invokestatic 69, 3) := by decide +kernel
theorem d_M_isPerson_11 : decode b_M_isPerson 11 = .ok (.ireturn, 1) := by decide +kernel
theorem d_M_isDay_0 : decode b_M_isDay 0 = .ok (.iload_n 1, 1) := by decide +kernel
theorem d_M_isDay_1 : decode b_M_isDay 1 = .ok (.iconst 0, 1) := by decide +kernel
theorem d_M_isDay_2 : decode b_M_isDay 2 = .ok (.aload_n 0, 1) := by decide +kernel
theorem d_M_isDay_3 : decode b_M_isDay 3 = .ok (.getfield 73, 3) := by decide +kernel
theorem d_M_isDay_6 : decode b_M_isDay 6 = .ok (.iconst 1, 1) := by decide +kernel
theorem d_M_isDay_7 : decode b_M_isDay 7 = .ok (.isub, 1) := by decide +kernel
theorem d_M_isDay_8 : decode b_M_isDay 8 = .ok (.invokestatic 69, 3) := by decide +kernel
theorem d_M_isDay_11 : decode b_M_isDay 11 = .ok (.ireturn, 1) := by decide +kernel
theorem d_M_days_0 : decode b_M_days 0 = .ok (.aload_n 0, 1) := by decide +kernel
theorem d_M_days_1 : decode b_M_days 1 = .ok (.iload_n 1, 1) := by decide +kernel
theorem d_M_days_2 : decode b_M_days 2 = .ok (.iconst 0, 1) := by decide +kernel
theorem d_M_days_3 : decode b_M_days 3 = .ok (.bipush 7, 2) := by decide +kernel
theorem d_M_days_5 : decode b_M_days 5 = .ok (.invokestatic 69, 3) := by decide +kernel
theorem d_M_days_8 : decode b_M_days 8 = .ok (.ifCond .ne 7, 3) := by decide +kernel
theorem d_M_days_11 : decode b_M_days 11 = .ok (.iconst 1, 1) := by decide +kernel
theorem d_M_days_12 : decode b_M_days 12 = .ok (.goto 4, 3) := by decide +kernel
theorem d_M_days_15 : decode b_M_days 15 = .ok (.iconst 0, 1) := by decide +kernel
theorem d_M_days_16 : decode b_M_days 16 = .ok (.iconst 0, 1) := by decide +kernel
theorem d_M_days_17 : decode b_M_days 17 = .ok (.iconst 0, 1) := by decide +kernel
theorem d_M_days_18 : decode b_M_days 18 = .ok (.iconst 0, 1) := by decide +kernel
theorem d_M_days_19 : decode b_M_days 19 = .ok (.invokevirtual 76, 3) := by decide +kernel
theorem d_M_days_22 : decode b_M_days 22 = .ok (.ifCond .eq 4, 3) := by decide +kernel
theorem d_M_days_25 : decode b_M_days 25 = .ok (.return_, 1) := by decide +kernel
theorem d_M_days_26 : decode b_M_days 26 = .ok (.aload_n 0, 1) := by decide +kernel
theorem d_M_days_27 : decode b_M_days 27 = .ok (.iload_n 1, 1) := by decide +kernel
theorem d_M_days_28 : decode b_M_days 28 = .ok (.putfield 73, 3) := by decide +kernel
theorem d_M_days_31 : decode b_M_days 31 = .ok (.aload_n 0, 1) := by decide +kernel
theorem d_M_days_32 : decode b_M_days 32 = .ok (.iconst 0, 1) := by decide +kernel
theorem d_M_days_33 : decode b_M_days 33 = .ok (.putfield 80, 3) := by decide +kernel
theorem d_M_days_36 : decode b_M_days 36 = .ok (.aload_n 0, 1) := by decide +kernel
theorem d_M_days_37 : decode b_M_days 37 = .ok (.iconst 0, 1) := by decide +kernel
theorem d_M_days_38 : decode b_M_days 38 = .ok (.putfield 83, 3) := by decide +kernel
theorem d_M_days_41 : decode b_M_days 41 = .ok (.iconst 0, 1) := by decide +kernel
theorem d_M_days_42 : decode b_M_days 42 = .ok (.istore_n 2, 1) := by decide +kernel
theorem d_M_days_43 : decode b_M_days 43 = .ok (.iload_n 2, 1) := by decide +kernel
theorem d_M_days_44 : decode b_M_days 44 = .ok (.bipush 42, 2) := by decide +kernel
theorem d_M_days_46 : decode b_M_days 46 = .ok (.if_icmp .ge 16, 3) := by decide +kernel
theorem d_M_days_49 : decode b_M_days 49 = .ok (.aload_n 0, 1) := by decide +kernel
theorem d_M_days_50 : decode b_M_days 50 = .ok (.getfield 16, 3) := by decide +kernel
theorem d_M_days_53 : decode b_M_days 53 = .ok (.iload_n 2, 1) := by decide +kernel
theorem d_M_days_54 : decode b_M_days 54 = .ok (.iconst 0, 1) := by decide +kernel
theorem d_M_days_55 : decode b_M_days 55 = .ok (.iastore, 1) := by decide +kernel
theorem d_M_days_56 : decode b_M_days 56 = .ok (.iinc 2 1, 3) := by decide +kernel
theorem d_M_days_59 : decode b_M_days 59 = .ok (.goto (-16), 3) := by decide +kernel
theorem d_M_days_62 : decode b_M_days 62 = .ok (.iconst 0, 1) := by decide +kernel
theorem d_M_days_63 : decode b_M_days 63 = .ok (.istore_n 2, 1) := by decide +kernel
theorem d_M_days_64 : decode b_M_days 64 = .ok (.iload_n 2, 1) := by decide +kernel
theorem d_M_days_65 : decode b_M_days 65 = .ok (.bipush 28, 2) := by decide +kernel
theorem d_M_days_67 : decode b_M_days 67 = .ok (.if_icmp .ge 23, 3) := by decide +kernel
theorem d_M_days_70 : decode b_M_days 70 = .ok (.aload_n 0, 1) := by decide +kernel
theorem d_M_days_71 : decode b_M_days 71 = .ok (.getfield 28, 3) := by decide +kernel
theorem d_M_days_74 : decode b_M_days 74 = .ok (.iload_n 2, 1) := by decide +kernel
theorem d_M_days_75 : decode b_M_days 75 = .ok (.iconst 0, 1) := by decide +kernel
theorem d_M_days_76 : decode b_M_days 76 = .ok (.iastore, 1) := by decide +kernel
theorem d_M_days_77 : decode b_M_days 77 = .ok (.aload_n 0, 1) := by decide +kernel
theorem d_M_days_78 : decode b_M_days 78 = .ok (.getfield 31, 3) := by decide +kernel
theorem d_M_days_81 : decode b_M_days 81 = .ok (.iload_n 2, 1) := by decide +kernel
theorem d_M_days_82 : decode b_M_days 82 = .ok (.iconst 0, 1) := by decide +kernel
theorem d_M_days_83 : decode b_M_days 83 = .ok (.iastore, 1) := by decide +kernel
theorem d_M_days_84 : decode b_M_days 84 = .ok (.iinc 2 1, 3) := by decide +kernel
theorem d_M_days_87 : decode b_M_days 87 = .ok (.goto (-23), 3) := by decide +kernel
theorem d_M_days_90 : decode b_M_days 90 = .ok (.iconst 0, 1) := by decide +kernel
theorem d_M_days_91 : decode b_M_days 91 = .ok (.istore_n 2, 1) := by decide +kernel
theorem d_M_days_92 : decode b_M_days 92 = .ok (.iload_n 2, 1) := by decide +kernel
theorem d_M_days_93 : decode b_M_days 93 = .ok (.sipush 168, 3) := by decide +kernel
theorem d_M_days_96 : decode b_M_days 96 = .ok (.if_icmp .ge 16, 3) := by decide +kernel
theorem d_M_days_99 : decode b_M_days 99 = .ok (.aload_n 0, 1) := by decide +kernel
theorem d_M_days_100 : decode b_M_days 100 = .ok (.getfield 34, 3) := by decide +kernel
theorem d_M_days_103 : decode b_M_days 103 = .ok (.iload_n 2, 1) := by decide +kernel
theorem d_M_days_104 : decode b_M_days 104 = .ok (.iconst 0, 1) := by decide +kernel
theorem d_M_days_105 : decode b_M_days 105 = .ok (.bastore, 1) := by decide +kernel
theorem d_M_days_106 : decode b_M_days 106 = .ok (.iinc 2 1, 3) := by decide +kernel
theorem d_M_days_109 : decode b_M_days 109 = .ok (.goto (-17), 3) := by decide +kernel
theorem d_M_days_112 : decode b_M_days 112 = .ok (.return_, 1) := by decide +kernel
theorem d_M_person_0 : decode b_M_person 0 = .ok (.aload_n 0, 1) := by decide +kernel
theorem d_M_person_1 : decode b_M_person 1 = .ok (.iload_n 1, 1) := by decide +kernel
theorem d_M_person_2 : decode b_M_person 2 = .ok (.iconst 0, 1) := by decide +kernel
theorem d_M_person_3 : decode b_M_person 3 = .ok (.bipush 15, 2) := by decide +kernel
theorem d_M_person_5 : decode b_M_person 5 = .ok (.invokestatic 69, 3) := by decide +kernel
theorem d_M_person_8 : decode b_M_person 8 = .ok (.ifCond .eq 14, 3) := by decide +kernel
theorem d_M_person_11 : decode b_M_person 11 = .ok (.iload_n 2, 1) := by decide +kernel
theorem d_M_person_12 : decode b_M_person 12 = .ok (.iconst 0, 1) := by decide +kernel
theorem d_M_person_13 : decode b_M_person 13 = .ok (.sipush 10000, 3) := by decide +kernel
theorem d_M_person_16 : decode b_M_person 16 = .ok (.invokestatic 69, 3) := by decide +kernel
theorem d_M_person_19 : decode b_M_person 19 = .ok (.ifCond .ne 7, 3) := by decide +kernel
theorem d_M_person_22 : decode b_M_person 22 = .ok (.iconst 1, 1) := by decide +kernel
theorem d_M_person_23 : decode b_M_person 23 = .ok (.goto 4, 3) := by decide +kernel
theorem d_M_person_26 : decode b_M_person 26 = .ok (.iconst 0, 1) := by decide +kernel
theorem d_M_person_27 : decode b_M_person 27 = .ok (.aload_n 0, 1) := by decide +kernel
theorem d_M_person_28 : decode b_M_person 28 = .ok (.getfield 66, 3) := by decide +kernel
theorem d_M_person_31 : decode b_M_person 31 = .ok (.bipush 6, 2) := by decide +kernel
theorem d_M_person_33 : decode b_M_person 33 = .ok (.if_icmp .ne 7, 3) := by decide +kernel
theorem d_M_person_36 : decode b_M_person 36 = .ok (.iconst 1, 1) := by decide +kernel
theorem d_M_person_37 : decode b_M_person 37 = .ok (.goto 4, 3) := by decide +kernel
theorem d_M_person_40 : decode b_M_person 40 = .ok (.iconst 0, 1) := by decide +kernel
theorem d_M_person_41 : decode b_M_person 41 = .ok (.iconst 0, 1) := by decide +kernel
theorem d_M_person_42 : decode b_M_person 42 = .ok (.iconst 0, 1) := by decide +kernel
theorem d_M_person_43 : decode b_M_person 43 = .ok (.invokevirtual 76, 3) := by decide +kernel
theorem d_M_person_46 : decode b_M_person 46 = .ok (.ifCond .eq 5, 3) := by decide +kernel
theorem d_M_person_49 : decode b_M_person 49 = .ok (.iconst 0, 1) := by decide +kernel
theorem d_M_person_50 : decode b_M_person 50 = .ok (.ireturn, 1) := by decide +kernel
theorem d_M_person_51 : decode b_M_person 51 = .ok (.aload_n 0, 1) := by decide +kernel
theorem d_M_person_52 : decode b_M_person 52 = .ok (.getfield 7, 3) := by decide +kernel
theorem d_M_person_55 : decode b_M_person 55 = .ok (.aload_n 0, 1) := by decide +kernel
theorem d_M_person_56 : decode b_M_person 56 = .ok (.getfield 66, 3) := by decide +kernel
theorem d_M_person_59 : decode b_M_person 59 = .ok (.iload_n 1, 1) := by decide +kernel
theorem d_M_person_60 : decode b_M_person 60 = .ok (.iastore, 1) := by decide +kernel
theorem d_M_person_61 : decode b_M_person 61 = .ok (.aload_n 0, 1) := by decide +kernel
theorem d_M_person_62 : decode b_M_person 62 = .ok (.getfield 13, 3) := by decide +kernel
theorem d_M_person_65 : decode b_M_person 65 = .ok (.aload_n 0, 1) := by decide +kernel
theorem d_M_person_66 : decode b_M_person 66 = .ok (.getfield 66, 3) := by decide +kernel
theorem d_M_person_69 : decode b_M_person 69 = .ok (.iload_n 2, 1) := by decide +kernel
theorem d_M_person_70 : decode b_M_person 70 = .ok (.iastore, 1) := by decide +kernel
theorem d_M_person_71 : decode b_M_person 71 = .ok (.aload_n 0, 1) := by decide +kernel
theorem d_M_person_72 : decode b_M_person 72 = .ok (.dup, 1) := by decide +kernel
theorem d_M_person_73 : decode b_M_person 73 = .ok (.getfield 66, 3) := by decide +kernel
theorem d_M_person_76 : decode b_M_person 76 = .ok (.iconst 1, 1) := by decide +kernel
theorem d_M_person_77 : decode b_M_person 77 = .ok (.iadd, 1) := by decide +kernel
theorem d_M_person_78 : decode b_M_person 78 = .ok (.putfield 66, 3) := by decide +kernel
theorem d_M_person_81 : decode b_M_person 81 = .ok (.aload_n 0, 1) := by decide +kernel
theorem d_M_person_82 : decode b_M_person 82 = .ok (.getfield 66, 3) := by decide +kernel
theorem d_M_person_85 : decode b_M_person 85 = .ok (.iconst 1, 1) := by decide +kernel
theorem d_M_person_86 : decode b_M_person 86 = .ok (.isub, 1) := by decide +kernel
theorem d_M_person_87 : decode b_M_person 87 = .ok (.ireturn, 1) := by decide +kernel
theorem d_M_need_0 : decode b_M_need 0 = .ok (.aload_n 0, 1) := by decide +kernel
theorem d_M_need_1 : decode b_M_need 1 = .ok (.aload_n 0, 1) := by decide +kernel
theorem d_M_need_2 : decode b_M_need 2 = .ok (.iload_n 1, 1) := by decide +kernel
theorem d_M_need_3 : decode b_M_need 3 = .ok (.invokevirtual 86, 3) := by decide +kernel
theorem d_M_need_6 : decode b_M_need 6 = .ok (.ifCond .eq 12, 3) := by decide +kernel
theorem d_M_need_9 : decode b_M_need 9 = .ok (.iload_n 2, 1) := by decide +kernel
theorem d_M_need_10 : decode b_M_need 10 = .ok (.iconst 1, 1) := by decide +kernel
theorem d_M_need_11 : decode b_M_need 11 = .ok (.iconst 3, 1) := by decide +kernel
theorem d_M_need_12 : decode b_M_need 12 = .ok (.invokestatic 69, 3) := by decide +kernel
theorem d_M_need_15 : decode b_M_need 15 = .ok (.ifCond .ne 7, 3) := by decide +kernel
theorem d_M_need_18 : decode b_M_need 18 = .ok (.iconst 1, 1) := by decide +kernel
theorem d_M_need_19 : decode b_M_need 19 = .ok (.goto 4, 3) := by decide +kernel
theorem d_M_need_22 : decode b_M_need 22 = .ok (.iconst 0, 1) := by decide +kernel
theorem d_M_need_23 : decode b_M_need 23 = .ok (.iload_n 3, 1) := by decide +kernel
theorem d_M_need_24 : decode b_M_need 24 = .ok (.iconst 0, 1) := by decide +kernel
theorem d_M_need_25 : decode b_M_need 25 = .ok (.bipush 6, 2) := by decide +kernel
theorem d_M_need_27 : decode b_M_need 27 = .ok (.invokestatic 69, 3) := by decide +kernel
theorem d_M_need_30 : decode b_M_need 30 = .ok (.ifCond .eq 14, 3) := by decide +kernel
theorem d_M_need_33 : decode b_M_need 33 = .ok (.iload 4, 2) := by decide +kernel
theorem d_M_need_35 : decode b_M_need 35 = .ok (.iconst 0, 1) := by decide +kernel
theorem d_M_need_36 : decode b_M_need 36 = .ok (.bipush 15, 2) := by decide +kernel
theorem d_M_need_38 : decode b_M_need 38 = .ok (.invokestatic 69, 3) := by decide +kernel
theorem d_M_need_41 : decode b_M_need 41 = .ok (.ifCond .ne 7, 3) := by decide +kernel
theorem d_M_need_44 : decode b_M_need 44 = .ok (.iconst 1, 1) := by decide +kernel
theorem d_M_need_45 : decode b_M_need 45 = .ok (.goto 4, 3) := by decide +kernel
theorem d_M_need_48 : decode b_M_need 48 = .ok (.iconst 0, 1) := by decide +kernel
theorem d_M_need_49 : decode b_M_need 49 = .ok (.iconst 0, 1) := by decide +kernel
theorem d_M_need_50 : decode b_M_need 50 = .ok (.iconst 0, 1) := by decide +kernel
theorem d_M_need_51 : decode b_M_need 51 = .ok (.invokevirtual 76, 3) := by decide +kernel
theorem d_M_need_54 : decode b_M_need 54 = .ok (.ifCond .eq 4, 3) := by decide +kernel
theorem d_M_need_57 : decode b_M_need 57 = .ok (.return_, 1) := by decide +kernel
theorem d_M_need_58 : decode b_M_need 58 = .ok (.aload_n 0, 1) := by decide +kernel
theorem d_M_need_59 : decode b_M_need 59 = .ok (.getfield 28, 3) := by decide +kernel
theorem d_M_need_62 : decode b_M_need 62 = .ok (.iconst 4, 1) := by decide +kernel
theorem d_M_need_63 : decode b_M_need 63 = .ok (.iload_n 1, 1) := by decide +kernel
theorem d_M_need_64 : decode b_M_need 64 = .ok (.imul, 1) := by decide +kernel
theorem d_M_need_65 : decode b_M_need 65 = .ok (.iload_n 2, 1) := by decide +kernel
theorem d_M_need_66 : decode b_M_need 66 = .ok (.iadd, 1) := by decide +kernel
theorem d_M_need_67 : decode b_M_need 67 = .ok (.iload_n 3, 1) := by decide +kernel
theorem d_M_need_68 : decode b_M_need 68 = .ok (.iastore, 1) := by decide +kernel
theorem d_M_need_69 : decode b_M_need 69 = .ok (.aload_n 0, 1) := by decide +kernel
theorem d_M_need_70 : decode b_M_need 70 = .ok (.getfield 31, 3) := by decide +kernel
theorem d_M_need_73 : decode b_M_need 73 = .ok (.iconst 4, 1) := by decide +kernel
theorem d_M_need_74 : decode b_M_need 74 = .ok (.iload_n 1, 1) := by decide +kernel
theorem d_M_need_75 : decode b_M_need 75 = .ok (.imul, 1) := by decide +kernel
theorem d_M_need_76 : decode b_M_need 76 = .ok (.iload_n 2, 1) := by decide +kernel
theorem d_M_need_77 : decode b_M_need 77 = .ok (.iadd, 1) := by decide +kernel
theorem d_M_need_78 : decode b_M_need 78 = .ok (.iload 4, 2) := by decide +kernel
theorem d_M_need_80 : decode b_M_need 80 = .ok (.iastore, 1) := by decide +kernel
theorem d_M_need_81 : decode b_M_need 81 = .ok (.return_, 1) := by decide +kernel
theorem d_M_rules_0 : decode b_M_rules 0 = .ok (.aload_n 0, 1) := by decide +kernel
theorem d_M_rules_1 : decode b_M_rules 1 = .ok (.iload_n 1, 1) := by decide +kernel
theorem d_M_rules_2 : decode b_M_rules 2 = .ok (.iconst 0, 1) := by decide +kernel
theorem d_M_rules_3 : decode b_M_rules 3 = .ok (.bipush 24, 2) := by decide +kernel
theorem d_M_rules_5 : decode b_M_rules 5 = .ok (.invokestatic 69, 3) := by decide +kernel
theorem d_M_rules_8 : decode b_M_rules 8 = .ok (.ifCond .eq 23, 3) := by decide +kernel
theorem d_M_rules_11 : decode b_M_rules 11 = .ok (.iload_n 2, 1) := by decide +kernel
theorem d_M_rules_12 : decode b_M_rules 12 = .ok (.iconst 0, 1) := by decide +kernel
theorem d_M_rules_13 : decode b_M_rules 13 = .ok (.bipush 7, 2) := by decide +kernel
theorem d_M_rules_15 : decode b_M_rules 15 = .ok (.invokestatic 69, 3) := by decide +kernel
theorem d_M_rules_18 : decode b_M_rules 18 = .ok (.ifCond .eq 13, 3) := by decide +kernel
theorem d_M_rules_21 : decode b_M_rules 21 = .ok (.iload_n 3, 1) := by decide +kernel
theorem d_M_rules_22 : decode b_M_rules 22 = .ok (.iconst 0, 1) := by decide +kernel
theorem d_M_rules_23 : decode b_M_rules 23 = .ok (.bipush 7, 2) := by decide +kernel
theorem d_M_rules_25 : decode b_M_rules 25 = .ok (.invokestatic 69, 3) := by decide +kernel
theorem d_M_rules_28 : decode b_M_rules 28 = .ok (.ifCond .ne 7, 3) := by decide +kernel
theorem d_M_rules_31 : decode b_M_rules 31 = .ok (.iconst 1, 1) := by decide +kernel
theorem d_M_rules_32 : decode b_M_rules 32 = .ok (.goto 4, 3) := by decide +kernel
theorem d_M_rules_35 : decode b_M_rules 35 = .ok (.iconst 0, 1) := by decide +kernel
theorem d_M_rules_36 : decode b_M_rules 36 = .ok (.iconst 0, 1) := by decide +kernel
theorem d_M_rules_37 : decode b_M_rules 37 = .ok (.iconst 0, 1) := by decide +kernel
theorem d_M_rules_38 : decode b_M_rules 38 = .ok (.iconst 0, 1) := by decide +kernel
theorem d_M_rules_39 : decode b_M_rules 39 = .ok (.invokevirtual 76, 3) := by decide +kernel
theorem d_M_rules_42 : decode b_M_rules 42 = .ok (.ifCond .eq 4, 3) := by decide +kernel
theorem d_M_rules_45 : decode b_M_rules 45 = .ok (.return_, 1) := by decide +kernel
theorem d_M_rules_46 : decode b_M_rules 46 = .ok (.aload_n 0, 1) := by decide +kernel
theorem d_M_rules_47 : decode b_M_rules 47 = .ok (.iload_n 1, 1) := by decide +kernel
theorem d_M_rules_48 : decode b_M_rules 48 = .ok (.putfield 38, 3) := by decide +kernel
theorem d_M_rules_51 : decode b_M_rules 51 = .ok (.aload_n 0, 1) := by decide +kernel
theorem d_M_rules_52 : decode b_M_rules 52 = .ok (.iload_n 2, 1) := by decide +kernel
theorem d_M_rules_53 : decode b_M_rules 53 = .ok (.putfield 42, 3) := by decide +kernel
theorem d_M_rules_56 : decode b_M_rules 56 = .ok (.aload_n 0, 1) := by decide +kernel
theorem d_M_rules_57 : decode b_M_rules 57 = .ok (.iload_n 3, 1) := by decide +kernel
theorem d_M_rules_58 : decode b_M_rules 58 = .ok (.putfield 45, 3) := by decide +kernel
theorem d_M_rules_61 : decode b_M_rules 61 = .ok (.return_, 1) := by decide +kernel
theorem d_M_bar_0 : decode b_M_bar 0 = .ok (.aload_n 0, 1) := by decide +kernel
theorem d_M_bar_1 : decode b_M_bar 1 = .ok (.aload_n 0, 1) := by decide +kernel
theorem d_M_bar_2 : decode b_M_bar 2 = .ok (.iload_n 1, 1) := by decide +kernel
theorem d_M_bar_3 : decode b_M_bar 3 = .ok (.invokevirtual 90, 3) := by decide +kernel
theorem d_M_bar_6 : decode b_M_bar 6 = .ok (.ifCond .eq 20, 3) := by decide +kernel
theorem d_M_bar_9 : decode b_M_bar 9 = .ok (.aload_n 0, 1) := by decide +kernel
theorem d_M_bar_10 : decode b_M_bar 10 = .ok (.iload_n 2, 1) := by decide +kernel
theorem d_M_bar_11 : decode b_M_bar 11 = .ok (.invokevirtual 86, 3) := by decide +kernel
theorem d_M_bar_14 : decode b_M_bar 14 = .ok (.ifCond .eq 12, 3) := by decide +kernel
theorem d_M_bar_17 : decode b_M_bar 17 = .ok (.iload_n 3, 1) := by decide +kernel
theorem d_M_bar_18 : decode b_M_bar 18 = .ok (.iconst 1, 1) := by decide +kernel
theorem d_M_bar_19 : decode b_M_bar 19 = .ok (.iconst 3, 1) := by decide +kernel
theorem d_M_bar_20 : decode b_M_bar 20 = .ok (.invokestatic 69, 3) := by decide +kernel
theorem d_M_bar_23 : decode b_M_bar 23 = .ok (.ifCond .ne 7, 3) := by decide +kernel
theorem d_M_bar_26 : decode b_M_bar 26 = .ok (.iconst 1, 1) := by decide +kernel
theorem d_M_bar_27 : decode b_M_bar 27 = .ok (.goto 4, 3) := by decide +kernel
theorem d_M_bar_30 : decode b_M_bar 30 = .ok (.iconst 0, 1) := by decide +kernel
theorem d_M_bar_31 : decode b_M_bar 31 = .ok (.iconst 0, 1) := by decide +kernel
theorem d_M_bar_32 : decode b_M_bar 32 = .ok (.iconst 0, 1) := by decide +kernel
theorem d_M_bar_33 : decode b_M_bar 33 = .ok (.iconst 0, 1) := by decide +kernel
theorem d_M_bar_34 : decode b_M_bar 34 = .ok (.invokevirtual 76, 3) := by decide +kernel
theorem d_M_bar_37 : decode b_M_bar 37 = .ok (.ifCond .eq 4, 3) := by decide +kernel
theorem d_M_bar_40 : decode b_M_bar 40 = .ok (.return_, 1) := by decide +kernel
theorem d_M_bar_41 : decode b_M_bar 41 = .ok (.aload_n 0, 1) := by decide +kernel
theorem d_M_bar_42 : decode b_M_bar 42 = .ok (.getfield 34, 3) := by decide +kernel
theorem d_M_bar_45 : decode b_M_bar 45 = .ok (.bipush 24, 2) := by decide +kernel
theorem d_M_bar_47 : decode b_M_bar 47 = .ok (.iload_n 2, 1) := by decide +kernel
theorem d_M_bar_48 : decode b_M_bar 48 = .ok (.imul, 1) := by decide +kernel
theorem d_M_bar_49 : decode b_M_bar 49 = .ok (.iconst 4, 1) := by decide +kernel
theorem d_M_bar_50 : decode b_M_bar 50 = .ok (.iload_n 1, 1) := by decide +kernel
theorem d_M_bar_51 : decode b_M_bar 51 = .ok (.imul, 1) := by decide +kernel
theorem d_M_bar_52 : decode b_M_bar 52 = .ok (.iadd, 1) := by decide +kernel
theorem d_M_bar_53 : decode b_M_bar 53 = .ok (.iload_n 3, 1) := by decide +kernel
theorem d_M_bar_54 : decode b_M_bar 54 = .ok (.iadd, 1) := by decide +kernel
theorem d_M_bar_55 : decode b_M_bar 55 = .ok (.iload 4, 2) := by decide +kernel
theorem d_M_bar_57 : decode b_M_bar 57 = .ok (.bastore, 1) := by decide +kernel
theorem d_M_bar_58 : decode b_M_bar 58 = .ok (.return_, 1) := by decide +kernel
theorem d_M_wish_0 : decode b_M_wish 0 = .ok (.aload_n 0, 1) := by decide +kernel
theorem d_M_wish_1 : decode b_M_wish 1 = .ok (.iload_n 1, 1) := by decide +kernel
theorem d_M_wish_2 : decode b_M_wish 2 = .ok (.invokevirtual 90, 3) := by decide +kernel
theorem d_M_wish_5 : decode b_M_wish 5 = .ok (.ifCond .eq 20, 3) := by decide +kernel
theorem d_M_wish_8 : decode b_M_wish 8 = .ok (.aload_n 0, 1) := by decide +kernel
theorem d_M_wish_9 : decode b_M_wish 9 = .ok (.iload_n 2, 1) := by decide +kernel
theorem d_M_wish_10 : decode b_M_wish 10 = .ok (.invokevirtual 86, 3) := by decide +kernel
theorem d_M_wish_13 : decode b_M_wish 13 = .ok (.ifCond .eq 12, 3) := by decide +kernel
theorem d_M_wish_16 : decode b_M_wish 16 = .ok (.iload_n 3, 1) := by decide +kernel
theorem d_M_wish_17 : decode b_M_wish 17 = .ok (.iconst 0, 1) := by decide +kernel
theorem d_M_wish_18 : decode b_M_wish 18 = .ok (.iconst 3, 1) := by decide +kernel
theorem d_M_wish_19 : decode b_M_wish 19 = .ok (.invokestatic 69, 3) := by decide +kernel
theorem d_M_wish_22 : decode b_M_wish 22 = .ok (.ifCond .ne 7, 3) := by decide +kernel
theorem d_M_wish_25 : decode b_M_wish 25 = .ok (.iconst 1, 1) := by decide +kernel
theorem d_M_wish_26 : decode b_M_wish 26 = .ok (.goto 4, 3) := by decide +kernel
theorem d_M_wish_29 : decode b_M_wish 29 = .ok (.iconst 0, 1) := by decide +kernel
theorem d_M_wish_30 : decode b_M_wish 30 = .ok (.istore 6, 2) := by decide +kernel
theorem d_M_wish_32 : decode b_M_wish 32 = .ok (.aload_n 0, 1) := by decide +kernel
theorem d_M_wish_33 : decode b_M_wish 33 = .ok (.iload 6, 2) := by decide +kernel
theorem d_M_wish_35 : decode b_M_wish 35 = .ok (.iload 5, 2) := by decide +kernel
theorem d_M_wish_37 : decode b_M_wish 37 = .ok (.iconst 1, 1) := by decide +kernel
theorem d_M_wish_38 : decode b_M_wish 38 = .ok (.bipush 100, 2) := by decide +kernel
theorem d_M_wish_40 : decode b_M_wish 40 = .ok (.invokestatic 69, 3) := by decide +kernel
theorem d_M_wish_43 : decode b_M_wish 43 = .ok (.ifCond .ne 7, 3) := by decide +kernel
theorem d_M_wish_46 : decode b_M_wish 46 = .ok (.iconst 1, 1) := by decide +kernel
theorem d_M_wish_47 : decode b_M_wish 47 = .ok (.goto 4, 3) := by decide +kernel
theorem d_M_wish_50 : decode b_M_wish 50 = .ok (.iconst 0, 1) := by decide +kernel
theorem d_M_wish_51 : decode b_M_wish 51 = .ok (.iload 6, 2) := by decide +kernel
theorem d_M_wish_53 : decode b_M_wish 53 = .ok (.ifCond .ne 15, 3) := by decide +kernel
theorem d_M_wish_56 : decode b_M_wish 56 = .ok (.iload_n 2, 1) := by decide +kernel
theorem d_M_wish_57 : decode b_M_wish 57 = .ok (.aload_n 0, 1) := by decide +kernel
theorem d_M_wish_58 : decode b_M_wish 58 = .ok (.getfield 80, 3) := by decide +kernel
theorem d_M_wish_61 : decode b_M_wish 61 = .ok (.if_icmp .ge 7, 3) := by decide +kernel
theorem d_M_wish_64 : decode b_M_wish 64 = .ok (.iconst 1, 1) := by decide +kernel
theorem d_M_wish_65 : decode b_M_wish 65 = .ok (.goto 4, 3) := by decide +kernel
theorem d_M_wish_68 : decode b_M_wish 68 = .ok (.iconst 0, 1) := by decide +kernel
theorem d_M_wish_69 : decode b_M_wish 69 = .ok (.aload_n 0, 1) := by decide +kernel
theorem d_M_wish_70 : decode b_M_wish 70 = .ok (.getfield 83, 3) := by decide +kernel
theorem d_M_wish_73 : decode b_M_wish 73 = .ok (.bipush 20, 2) := by decide +kernel
theorem d_M_wish_75 : decode b_M_wish 75 = .ok (.if_icmp .ne 7, 3) := by decide +kernel
theorem d_M_wish_78 : decode b_M_wish 78 = .ok (.iconst 1, 1) := by decide +kernel
theorem d_M_wish_79 : decode b_M_wish 79 = .ok (.goto 4, 3) := by decide +kernel
theorem d_M_wish_82 : decode b_M_wish 82 = .ok (.iconst 0, 1) := by decide +kernel
theorem d_M_wish_83 : decode b_M_wish 83 = .ok (.invokevirtual 76, 3) := by decide +kernel
theorem d_M_wish_86 : decode b_M_wish 86 = .ok (.ifCond .eq 5, 3) := by decide +kernel
theorem d_M_wish_89 : decode b_M_wish 89 = .ok (.iconst 0, 1) := by decide +kernel
theorem d_M_wish_90 : decode b_M_wish 90 = .ok (.ireturn, 1) := by decide +kernel
theorem d_M_wish_91 : decode b_M_wish 91 = .ok (.aload_n 0, 1) := by decide +kernel
theorem d_M_wish_92 : decode b_M_wish 92 = .ok (.getfield 48, 3) := by decide +kernel
theorem d_M_wish_95 : decode b_M_wish 95 = .ok (.aload_n 0, 1) := by decide +kernel
theorem d_M_wish_96 : decode b_M_wish 96 = .ok (.getfield 83, 3) := by decide +kernel
theorem d_M_wish_99 : decode b_M_wish 99 = .ok (.iload_n 1, 1) := by decide +kernel
theorem d_M_wish_100 : decode b_M_wish 100 = .ok (.iastore, 1) := by decide +kernel
theorem d_M_wish_101 : decode b_M_wish 101 = .ok (.aload_n 0, 1) := by decide +kernel
theorem d_M_wish_102 : decode b_M_wish 102 = .ok (.getfield 51, 3) := by decide +kernel
theorem d_M_wish_105 : decode b_M_wish 105 = .ok (.aload_n 0, 1) := by decide +kernel
theorem d_M_wish_106 : decode b_M_wish 106 = .ok (.getfield 83, 3) := by decide +kernel
theorem d_M_wish_109 : decode b_M_wish 109 = .ok (.iload_n 2, 1) := by decide +kernel
theorem d_M_wish_110 : decode b_M_wish 110 = .ok (.iastore, 1) := by decide +kernel
theorem d_M_wish_111 : decode b_M_wish 111 = .ok (.aload_n 0, 1) := by decide +kernel
theorem d_M_wish_112 : decode b_M_wish 112 = .ok (.getfield 54, 3) := by decide +kernel
theorem d_M_wish_115 : decode b_M_wish 115 = .ok (.aload_n 0, 1) := by decide +kernel
theorem d_M_wish_116 : decode b_M_wish 116 = .ok (.getfield 83, 3) := by decide +kernel
theorem d_M_wish_119 : decode b_M_wish 119 = .ok (.iload_n 3, 1) := by decide +kernel
theorem d_M_wish_120 : decode b_M_wish 120 = .ok (.iastore, 1) := by decide +kernel
theorem d_M_wish_121 : decode b_M_wish 121 = .ok (.aload_n 0, 1) := by decide +kernel
theorem d_M_wish_122 : decode b_M_wish 122 = .ok (.getfield 57, 3) := by decide +kernel
theorem d_M_wish_125 : decode b_M_wish 125 = .ok (.aload_n 0, 1) := by decide +kernel
theorem d_M_wish_126 : decode b_M_wish 126 = .ok (.getfield 83, 3) := by decide +kernel
theorem d_M_wish_129 : decode b_M_wish 129 = .ok (.iload 4, 2) := by decide +kernel
theorem d_M_wish_131 : decode b_M_wish 131 = .ok (.bastore, 1) := by decide +kernel
theorem d_M_wish_132 : decode b_M_wish 132 = .ok (.aload_n 0, 1) := by decide +kernel
theorem d_M_wish_133 : decode b_M_wish 133 = .ok (.getfield 60, 3) := by decide +kernel
theorem d_M_wish_136 : decode b_M_wish 136 = .ok (.aload_n 0, 1) := by decide +kernel
theorem d_M_wish_137 : decode b_M_wish 137 = .ok (.getfield 83, 3) := by decide +kernel
theorem d_M_wish_140 : decode b_M_wish 140 = .ok (.iload 5, 2) := by decide +kernel
theorem d_M_wish_142 : decode b_M_wish 142 = .ok (.iastore, 1) := by decide +kernel
theorem d_M_wish_143 : decode b_M_wish 143 = .ok (.aload_n 0, 1) := by decide +kernel
theorem d_M_wish_144 : decode b_M_wish 144 = .ok (.dup, 1) := by decide +kernel
theorem d_M_wish_145 : decode b_M_wish 145 = .ok (.getfield 83, 3) := by decide +kernel
theorem d_M_wish_148 : decode b_M_wish 148 = .ok (.iconst 1, 1) := by decide +kernel
theorem d_M_wish_149 : decode b_M_wish 149 = .ok (.iadd, 1) := by decide +kernel
theorem d_M_wish_150 : decode b_M_wish 150 = .ok (.putfield 83, 3) := by decide +kernel
theorem d_M_wish_153 : decode b_M_wish 153 = .ok (.aload_n 0, 1) := by decide +kernel
theorem d_M_wish_154 : decode b_M_wish 154 = .ok (.getfield 83, 3) := by decide +kernel
theorem d_M_wish_157 : decode b_M_wish 157 = .ok (.iconst 1, 1) := by decide +kernel
theorem d_M_wish_158 : decode b_M_wish 158 = .ok (.isub, 1) := by decide +kernel
theorem d_M_wish_159 : decode b_M_wish 159 = .ok (.ireturn, 1) := by decide +kernel
theorem d_M_freeze_0 : decode b_M_freeze 0 = .ok (.aload_n 0, 1) := by decide +kernel
theorem d_M_freeze_1 : decode b_M_freeze 1 = .ok (.iload_n 1, 1) := by decide +kernel
theorem d_M_freeze_2 : decode b_M_freeze 2 = .ok (.aload_n 0, 1) := by decide +kernel
theorem d_M_freeze_3 : decode b_M_freeze 3 = .ok (.getfield 80, 3) := by decide +kernel
theorem d_M_freeze_6 : decode b_M_freeze 6 = .ok (.if_icmp .lt 11, 3) := by decide +kernel
theorem d_M_freeze_9 : decode b_M_freeze 9 = .ok (.iload_n 1, 1) := by decide +kernel
theorem d_M_freeze_10 : decode b_M_freeze 10 = .ok (.aload_n 0, 1) := by decide +kernel
theorem d_M_freeze_11 : decode b_M_freeze 11 = .ok (.getfield 73, 3) := by decide +kernel
theorem d_M_freeze_14 : decode b_M_freeze 14 = .ok (.if_icmp .le 7, 3) := by decide +kernel
theorem d_M_freeze_17 : decode b_M_freeze 17 = .ok (.iconst 1, 1) := by decide +kernel
theorem d_M_freeze_18 : decode b_M_freeze 18 = .ok (.goto 4, 3) := by decide +kernel
theorem d_M_freeze_21 : decode b_M_freeze 21 = .ok (.iconst 0, 1) := by decide +kernel
theorem d_M_freeze_22 : decode b_M_freeze 22 = .ok (.iconst 0, 1) := by decide +kernel
theorem d_M_freeze_23 : decode b_M_freeze 23 = .ok (.iconst 0, 1) := by decide +kernel
theorem d_M_freeze_24 : decode b_M_freeze 24 = .ok (.iconst 0, 1) := by decide +kernel
theorem d_M_freeze_25 : decode b_M_freeze 25 = .ok (.invokevirtual 76, 3) := by decide +kernel
theorem d_M_freeze_28 : decode b_M_freeze 28 = .ok (.ifCond .eq 4, 3) := by decide +kernel
theorem d_M_freeze_31 : decode b_M_freeze 31 = .ok (.return_, 1) := by decide +kernel
theorem d_M_freeze_32 : decode b_M_freeze 32 = .ok (.aload_n 0, 1) := by decide +kernel
theorem d_M_freeze_33 : decode b_M_freeze 33 = .ok (.iload_n 1, 1) := by decide +kernel
theorem d_M_freeze_34 : decode b_M_freeze 34 = .ok (.putfield 80, 3) := by decide +kernel
theorem d_M_freeze_37 : decode b_M_freeze 37 = .ok (.return_, 1) := by decide +kernel
theorem d_M_set_0 : decode b_M_set 0 = .ok (.aload_n 0, 1) := by decide +kernel
theorem d_M_set_1 : decode b_M_set 1 = .ok (.iload_n 1, 1) := by decide +kernel
theorem d_M_set_2 : decode b_M_set 2 = .ok (.invokevirtual 90, 3) := by decide +kernel
theorem d_M_set_5 : decode b_M_set 5 = .ok (.ifCond .eq 20, 3) := by decide +kernel
theorem d_M_set_8 : decode b_M_set 8 = .ok (.aload_n 0, 1) := by decide +kernel
theorem d_M_set_9 : decode b_M_set 9 = .ok (.iload_n 2, 1) := by decide +kernel
theorem d_M_set_10 : decode b_M_set 10 = .ok (.invokevirtual 86, 3) := by decide +kernel
theorem d_M_set_13 : decode b_M_set 13 = .ok (.ifCond .eq 12, 3) := by decide +kernel
theorem d_M_set_16 : decode b_M_set 16 = .ok (.iload_n 3, 1) := by decide +kernel
theorem d_M_set_17 : decode b_M_set 17 = .ok (.iconst 0, 1) := by decide +kernel
theorem d_M_set_18 : decode b_M_set 18 = .ok (.iconst 3, 1) := by decide +kernel
theorem d_M_set_19 : decode b_M_set 19 = .ok (.invokestatic 69, 3) := by decide +kernel
theorem d_M_set_22 : decode b_M_set 22 = .ok (.ifCond .ne 7, 3) := by decide +kernel
theorem d_M_set_25 : decode b_M_set 25 = .ok (.iconst 1, 1) := by decide +kernel
theorem d_M_set_26 : decode b_M_set 26 = .ok (.goto 4, 3) := by decide +kernel
theorem d_M_set_29 : decode b_M_set 29 = .ok (.iconst 0, 1) := by decide +kernel
theorem d_M_set_30 : decode b_M_set 30 = .ok (.istore 4, 2) := by decide +kernel
theorem d_M_set_32 : decode b_M_set 32 = .ok (.aload_n 0, 1) := by decide +kernel
theorem d_M_set_33 : decode b_M_set 33 = .ok (.iload 4, 2) := by decide +kernel
theorem d_M_set_35 : decode b_M_set 35 = .ok (.iload 4, 2) := by decide +kernel
theorem d_M_set_37 : decode b_M_set 37 = .ok (.ifCond .ne 15, 3) := by decide +kernel
theorem d_M_set_40 : decode b_M_set 40 = .ok (.iload_n 2, 1) := by decide +kernel
theorem d_M_set_41 : decode b_M_set 41 = .ok (.aload_n 0, 1) := by decide +kernel
theorem d_M_set_42 : decode b_M_set 42 = .ok (.getfield 80, 3) := by decide +kernel
theorem d_M_set_45 : decode b_M_set 45 = .ok (.if_icmp .ge 7, 3) := by decide +kernel
theorem d_M_set_48 : decode b_M_set 48 = .ok (.iconst 1, 1) := by decide +kernel
theorem d_M_set_49 : decode b_M_set 49 = .ok (.goto 4, 3) := by decide +kernel
theorem d_M_set_52 : decode b_M_set 52 = .ok (.iconst 0, 1) := by decide +kernel
theorem d_M_set_53 : decode b_M_set 53 = .ok (.iconst 0, 1) := by decide +kernel
theorem d_M_set_54 : decode b_M_set 54 = .ok (.iconst 0, 1) := by decide +kernel
theorem d_M_set_55 : decode b_M_set 55 = .ok (.invokevirtual 76, 3) := by decide +kernel
theorem d_M_set_58 : decode b_M_set 58 = .ok (.ifCond .eq 4, 3) := by decide +kernel
theorem d_M_set_61 : decode b_M_set 61 = .ok (.return_, 1) := by decide +kernel
theorem d_M_set_62 : decode b_M_set 62 = .ok (.aload_n 0, 1) := by decide +kernel
theorem d_M_set_63 : decode b_M_set 63 = .ok (.getfield 16, 3) := by decide +kernel
theorem d_M_set_66 : decode b_M_set 66 = .ok (.bipush 6, 2) := by decide +kernel
theorem d_M_set_68 : decode b_M_set 68 = .ok (.iload_n 2, 1) := by decide +kernel
theorem d_M_set_69 : decode b_M_set 69 = .ok (.imul, 1) := by decide +kernel
theorem d_M_set_70 : decode b_M_set 70 = .ok (.iload_n 1, 1) := by decide +kernel
theorem d_M_set_71 : decode b_M_set 71 = .ok (.iadd, 1) := by decide +kernel
theorem d_M_set_72 : decode b_M_set 72 = .ok (.iload_n 3, 1) := by decide +kernel
theorem d_M_set_73 : decode b_M_set 73 = .ok (.iastore, 1) := by decide +kernel
theorem d_M_set_74 : decode b_M_set 74 = .ok (.return_, 1) := by decide +kernel
theorem d_M_between_0 : decode b_M_between 0 = .ok (.bipush 24, 2) := by decide +kernel
theorem d_M_between_2 : decode b_M_between 2 = .ok (.bipush 8, 2) := by decide +kernel
theorem d_M_between_4 : decode b_M_between 4 = .ok (.iload_n 1, 1) := by decide +kernel
theorem d_M_between_5 : decode b_M_between 5 = .ok (.imul, 1) := by decide +kernel
theorem d_M_between_6 : decode b_M_between 6 = .ok (.iadd, 1) := by decide +kernel
theorem d_M_between_7 : decode b_M_between 7 = .ok (.iconst 2, 1) := by decide +kernel
theorem d_M_between_8 : decode b_M_between 8 = .ok (.isub, 1) := by decide +kernel
theorem d_M_between_9 : decode b_M_between 9 = .ok (.bipush 6, 2) := by decide +kernel
theorem d_M_between_11 : decode b_M_between 11 = .ok (.bipush 8, 2) := by decide +kernel
theorem d_M_between_13 : decode b_M_between 13 = .ok (.iload_n 0, 1) := by decide +kernel
theorem d_M_between_14 : decode b_M_between 14 = .ok (.imul, 1) := by decide +kernel
theorem d_M_between_15 : decode b_M_between 15 = .ok (.iadd, 1) := by decide +kernel
theorem d_M_between_16 : decode b_M_between 16 = .ok (.isub, 1) := by decide +kernel
theorem d_M_between_17 : decode b_M_between 17 = .ok (.ireturn, 1) := by decide +kernel
theorem d_M_isTired_0 : decode b_M_isTired 0 = .ok (.iload_n 3, 1) := by decide +kernel
theorem d_M_isTired_1 : decode b_M_isTired 1 = .ok (.ifCond .ne 5, 3) := by decide +kernel
theorem d_M_isTired_4 : decode b_M_isTired 4 = .ok (.iconst 0, 1) := by decide +kernel
theorem d_M_isTired_5 : decode b_M_isTired 5 = .ok (.ireturn, 1) := by decide +kernel
theorem d_M_isTired_6 : decode b_M_isTired 6 = .ok (.aload_n 1, 1) := by decide +kernel
theorem d_M_isTired_7 : decode b_M_isTired 7 = .ok (.bipush 6, 2) := by decide +kernel
theorem d_M_isTired_9 : decode b_M_isTired 9 = .ok (.iload_n 3, 1) := by decide +kernel
theorem d_M_isTired_10 : decode b_M_isTired 10 = .ok (.iconst 1, 1) := by decide +kernel
theorem d_M_isTired_11 : decode b_M_isTired 11 = .ok (.isub, 1) := by decide +kernel
theorem d_M_isTired_12 : decode b_M_isTired 12 = .ok (.imul, 1) := by decide +kernel
theorem d_M_isTired_13 : decode b_M_isTired 13 = .ok (.iload_n 2, 1) := by decide +kernel
theorem d_M_isTired_14 : decode b_M_isTired 14 = .ok (.iadd, 1) := by decide +kernel
theorem d_M_isTired_15 : decode b_M_isTired 15 = .ok (.iaload, 1) := by decide +kernel
theorem d_M_isTired_16 : decode b_M_isTired 16 = .ok (.istore 4, 2) := by decide +kernel
theorem d_M_isTired_18 : decode b_M_isTired 18 = .ok (.aload_n 1, 1) := by decide +kernel
theorem d_M_isTired_19 : decode b_M_isTired 19 = .ok (.bipush 6, 2) := by decide +kernel
theorem d_M_isTired_21 : decode b_M_isTired 21 = .ok (.iload_n 3, 1) := by decide +kernel
theorem d_M_isTired_22 : decode b_M_isTired 22 = .ok (.imul, 1) := by decide +kernel
theorem d_M_isTired_23 : decode b_M_isTired 23 = .ok (.iload_n 2, 1) := by decide +kernel
theorem d_M_isTired_24 : decode b_M_isTired 24 = .ok (.iadd, 1) := by decide +kernel
theorem d_M_isTired_25 : decode b_M_isTired 25 = .ok (.iaload, 1) := by decide +kernel
theorem d_M_isTired_26 : decode b_M_isTired 26 = .ok (.istore 5, 2) := by decide +kernel
theorem d_M_isTired_28 : decode b_M_isTired 28 = .ok (.iload 4, 2) := by decide +kernel
theorem d_M_isTired_30 : decode b_M_isTired 30 = .ok (.ifCond .le 26, 3) := by decide +kernel
theorem d_M_isTired_33 : decode b_M_isTired 33 = .ok (.iload 5, 2) := by decide +kernel
theorem d_M_isTired_35 : decode b_M_isTired 35 = .ok (.ifCond .le 21, 3) := by decide +kernel
theorem d_M_isTired_38 : decode b_M_isTired 38 = .ok (.iload 4, 2) := by decide +kernel
theorem d_M_isTired_40 : decode b_M_isTired 40 = .ok (.iload 5, 2) := by decide +kernel
theorem d_M_isTired_42 : decode b_M_isTired 42 = .ok (.invokestatic 93, 3) := by decide +kernel
theorem d_M_isTired_45 : decode b_M_isTired 45 = .ok (.aload_n 0, 1) := by decide +kernel
theorem d_M_isTired_46 : decode b_M_isTired 46 = .ok (.getfield 38, 3) := by decide +kernel
theorem d_M_isTired_49 : decode b_M_isTired 49 = .ok (.if_icmp .ge 7, 3) := by decide +kernel
theorem d_M_isTired_52 : decode b_M_isTired 52 = .ok (.iconst 1, 1) := by decide +kernel
theorem d_M_isTired_53 : decode b_M_isTired 53 = .ok (.goto 4, 3) := by decide +kernel
theorem d_M_isTired_56 : decode b_M_isTired 56 = .ok (.iconst 0, 1) := by decide +kernel
theorem d_M_isTired_57 : decode b_M_isTired 57 = .ok (.ireturn, 1) := by decide +kernel
theorem d_M_many_0 : decode b_M_many 0 = .ok (.iconst 0, 1) := by decide +kernel
theorem d_M_many_1 : decode b_M_many 1 = .ok (.istore_n 3, 1) := by decide +kernel
theorem d_M_many_2 : decode b_M_many 2 = .ok (.iconst 0, 1) := by decide +kernel
theorem d_M_many_3 : decode b_M_many 3 = .ok (.istore 4, 2) := by decide +kernel
theorem d_M_many_5 : decode b_M_many 5 = .ok (.iload 4, 2) := by decide +kernel
theorem d_M_many_7 : decode b_M_many 7 = .ok (.iload_n 2, 1) := by decide +kernel
theorem d_M_many_8 : decode b_M_many 8 = .ok (.if_icmp .gt 29, 3) := by decide +kernel
theorem d_M_many_11 : decode b_M_many 11 = .ok (.iload_n 3, 1) := by decide +kernel
theorem d_M_many_12 : decode b_M_many 12 = .ok (.aload_n 0, 1) := by decide +kernel
theorem d_M_many_13 : decode b_M_many 13 = .ok (.bipush 6, 2) := by decide +kernel
theorem d_M_many_15 : decode b_M_many 15 = .ok (.iload 4, 2) := by decide +kernel
theorem d_M_many_17 : decode b_M_many 17 = .ok (.imul, 1) := by decide +kernel
theorem d_M_many_18 : decode b_M_many 18 = .ok (.iload_n 1, 1) := by decide +kernel
theorem d_M_many_19 : decode b_M_many 19 = .ok (.iadd, 1) := by decide +kernel
theorem d_M_many_20 : decode b_M_many 20 = .ok (.iaload, 1) := by decide +kernel
theorem d_M_many_21 : decode b_M_many 21 = .ok (.ifCond .le 7, 3) := by decide +kernel
theorem d_M_many_24 : decode b_M_many 24 = .ok (.iconst 1, 1) := by decide +kernel
theorem d_M_many_25 : decode b_M_many 25 = .ok (.goto 4, 3) := by decide +kernel
theorem d_M_many_28 : decode b_M_many 28 = .ok (.iconst 0, 1) := by decide +kernel
theorem d_M_many_29 : decode b_M_many 29 = .ok (.iadd, 1) := by decide +kernel
theorem d_M_many_30 : decode b_M_many 30 = .ok (.istore_n 3, 1) := by decide +kernel
theorem d_M_many_31 : decode b_M_many 31 = .ok (.iinc 4 1, 3) := by decide +kernel
theorem d_M_many_34 : decode b_M_many 34 = .ok (.goto (-29), 3) := by decide +kernel
theorem d_M_many_37 : decode b_M_many 37 = .ok (.iload_n 3, 1) := by decide +kernel
theorem d_M_many_38 : decode b_M_many 38 = .ok (.ireturn, 1) := by decide +kernel
theorem d_M_nightsTo_0 : decode b_M_nightsTo 0 = .ok (.iconst 0, 1) := by decide +kernel
theorem d_M_nightsTo_1 : decode b_M_nightsTo 1 = .ok (.istore_n 3, 1) := by decide +kernel
theorem d_M_nightsTo_2 : decode b_M_nightsTo 2 = .ok (.iload_n 2, 1) := by decide +kernel
theorem d_M_nightsTo_3 : decode b_M_nightsTo 3 = .ok (.istore 4, 2) := by decide +kernel
theorem d_M_nightsTo_5 : decode b_M_nightsTo 5 = .ok (.iload 4, 2) := by decide +kernel
theorem d_M_nightsTo_7 : decode b_M_nightsTo 7 = .ok (.ifCond .lt 25, 3) := by decide +kernel
theorem d_M_nightsTo_10 : decode b_M_nightsTo 10 = .ok (.aload_n 0, 1) := by decide +kernel
theorem d_M_nightsTo_11 : decode b_M_nightsTo 11 = .ok (.bipush 6, 2) := by decide +kernel
theorem d_M_nightsTo_13 : decode b_M_nightsTo 13 = .ok (.iload 4, 2) := by decide +kernel
theorem d_M_nightsTo_15 : decode b_M_nightsTo 15 = .ok (.imul, 1) := by decide +kernel
theorem d_M_nightsTo_16 : decode b_M_nightsTo 16 = .ok (.iload_n 1, 1) := by decide +kernel
theorem d_M_nightsTo_17 : decode b_M_nightsTo 17 = .ok (.iadd, 1) := by decide +kernel
theorem d_M_nightsTo_18 : decode b_M_nightsTo 18 = .ok (.iaload, 1) := by decide +kernel
theorem d_M_nightsTo_19 : decode b_M_nightsTo 19 = .ok (.iconst 3, 1) := by decide +kernel
theorem d_M_nightsTo_20 : decode b_M_nightsTo 20 = .ok (.if_icmp .ne 12, 3) := by decide +kernel
theorem d_M_nightsTo_23 : decode b_M_nightsTo 23 = .ok (.iinc 3 1, 3) := by decide +kernel
theorem d_M_nightsTo_26 : decode b_M_nightsTo 26 = .ok (.iinc 4 (-1), 3) := by decide +kernel
theorem d_M_nightsTo_29 : decode b_M_nightsTo 29 = .ok (.goto (-24), 3) := by decide +kernel
theorem d_M_nightsTo_32 : decode b_M_nightsTo 32 = .ok (.iload_n 3, 1) := by decide +kernel
theorem d_M_nightsTo_33 : decode b_M_nightsTo 33 = .ok (.ireturn, 1) := by decide +kernel
theorem d_M_isMet_0 : decode b_M_isMet 0 = .ok (.iconst 0, 1) := by decide +kernel
theorem d_M_isMet_1 : decode b_M_isMet 1 = .ok (.istore 4, 2) := by decide +kernel
theorem d_M_isMet_3 : decode b_M_isMet 3 = .ok (.iconst 0, 1) := by decide +kernel
theorem d_M_isMet_4 : decode b_M_isMet 4 = .ok (.istore 5, 2) := by decide +kernel
theorem d_M_isMet_6 : decode b_M_isMet 6 = .ok (.iconst 0, 1) := by decide +kernel
theorem d_M_isMet_7 : decode b_M_isMet 7 = .ok (.istore 6, 2) := by decide +kernel
theorem d_M_isMet_9 : decode b_M_isMet 9 = .ok (.iload 6, 2) := by decide +kernel
theorem d_M_isMet_11 : decode b_M_isMet 11 = .ok (.aload_n 0, 1) := by decide +kernel
theorem d_M_isMet_12 : decode b_M_isMet 12 = .ok (.getfield 66, 3) := by decide +kernel
theorem d_M_isMet_15 : decode b_M_isMet 15 = .ok (.if_icmp .ge 37, 3) := by decide +kernel
theorem d_M_isMet_18 : decode b_M_isMet 18 = .ok (.aload_n 1, 1) := by decide +kernel
theorem d_M_isMet_19 : decode b_M_isMet 19 = .ok (.bipush 6, 2) := by decide +kernel
theorem d_M_isMet_21 : decode b_M_isMet 21 = .ok (.iload_n 2, 1) := by decide +kernel
theorem d_M_isMet_22 : decode b_M_isMet 22 = .ok (.imul, 1) := by decide +kernel
theorem d_M_isMet_23 : decode b_M_isMet 23 = .ok (.iload 6, 2) := by decide +kernel
theorem d_M_isMet_25 : decode b_M_isMet 25 = .ok (.iadd, 1) := by decide +kernel
theorem d_M_isMet_26 : decode b_M_isMet 26 = .ok (.iaload, 1) := by decide +kernel
theorem d_M_isMet_27 : decode b_M_isMet 27 = .ok (.iload_n 3, 1) := by decide +kernel
theorem d_M_isMet_28 : decode b_M_isMet 28 = .ok (.if_icmp .ne 18, 3) := by decide +kernel
theorem d_M_isMet_31 : decode b_M_isMet 31 = .ok (.iinc 4 1, 3) := by decide +kernel
theorem d_M_isMet_34 : decode b_M_isMet 34 = .ok (.iload 5, 2) := by decide +kernel
theorem d_M_isMet_36 : decode b_M_isMet 36 = .ok (.aload_n 0, 1) := by decide +kernel
theorem d_M_isMet_37 : decode b_M_isMet 37 = .ok (.getfield 7, 3) := by decide +kernel
theorem d_M_isMet_40 : decode b_M_isMet 40 = .ok (.iload 6, 2) := by decide +kernel
theorem d_M_isMet_42 : decode b_M_isMet 42 = .ok (.iaload, 1) := by decide +kernel
theorem d_M_isMet_43 : decode b_M_isMet 43 = .ok (.ior, 1) := by decide +kernel
theorem d_M_isMet_44 : decode b_M_isMet 44 = .ok (.istore 5, 2) := by decide +kernel
theorem d_M_isMet_46 : decode b_M_isMet 46 = .ok (.iinc 6 1, 3) := by decide +kernel
theorem d_M_isMet_49 : decode b_M_isMet 49 = .ok (.goto (-40), 3) := by decide +kernel
theorem d_M_isMet_52 : decode b_M_isMet 52 = .ok (.iload 4, 2) := by decide +kernel
theorem d_M_isMet_54 : decode b_M_isMet 54 = .ok (.aload_n 0, 1) := by decide +kernel
theorem d_M_isMet_55 : decode b_M_isMet 55 = .ok (.getfield 28, 3) := by decide +kernel
theorem d_M_isMet_58 : decode b_M_isMet 58 = .ok (.iconst 4, 1) := by decide +kernel
theorem d_M_isMet_59 : decode b_M_isMet 59 = .ok (.iload_n 2, 1) := by decide +kernel
theorem d_M_isMet_60 : decode b_M_isMet 60 = .ok (.imul, 1) := by decide +kernel
theorem d_M_isMet_61 : decode b_M_isMet 61 = .ok (.iload_n 3, 1) := by decide +kernel
theorem d_M_isMet_62 : decode b_M_isMet 62 = .ok (.iadd, 1) := by decide +kernel
theorem d_M_isMet_63 : decode b_M_isMet 63 = .ok (.iaload, 1) := by decide +kernel
theorem d_M_isMet_64 : decode b_M_isMet 64 = .ok (.if_icmp .lt 33, 3) := by decide +kernel
theorem d_M_isMet_67 : decode b_M_isMet 67 = .ok (.iload 5, 2) := by decide +kernel
theorem d_M_isMet_69 : decode b_M_isMet 69 = .ok (.aload_n 0, 1) := by decide +kernel
theorem d_M_isMet_70 : decode b_M_isMet 70 = .ok (.getfield 31, 3) := by decide +kernel
theorem d_M_isMet_73 : decode b_M_isMet 73 = .ok (.iconst 4, 1) := by decide +kernel
theorem d_M_isMet_74 : decode b_M_isMet 74 = .ok (.iload_n 2, 1) := by decide +kernel
theorem d_M_isMet_75 : decode b_M_isMet 75 = .ok (.imul, 1) := by decide +kernel
theorem d_M_isMet_76 : decode b_M_isMet 76 = .ok (.iload_n 3, 1) := by decide +kernel
theorem d_M_isMet_77 : decode b_M_isMet 77 = .ok (.iadd, 1) := by decide +kernel
theorem d_M_isMet_78 : decode b_M_isMet 78 = .ok (.iaload, 1) := by decide +kernel
theorem d_M_isMet_79 : decode b_M_isMet 79 = .ok (.iand, 1) := by decide +kernel
theorem d_M_isMet_80 : decode b_M_isMet 80 = .ok (.aload_n 0, 1) := by decide +kernel
theorem d_M_isMet_81 : decode b_M_isMet 81 = .ok (.getfield 31, 3) := by decide +kernel
theorem d_M_isMet_84 : decode b_M_isMet 84 = .ok (.iconst 4, 1) := by decide +kernel
theorem d_M_isMet_85 : decode b_M_isMet 85 = .ok (.iload_n 2, 1) := by decide +kernel
theorem d_M_isMet_86 : decode b_M_isMet 86 = .ok (.imul, 1) := by decide +kernel
theorem d_M_isMet_87 : decode b_M_isMet 87 = .ok (.iload_n 3, 1) := by decide +kernel
theorem d_M_isMet_88 : decode b_M_isMet 88 = .ok (.iadd, 1) := by decide +kernel
theorem d_M_isMet_89 : decode b_M_isMet 89 = .ok (.iaload, 1) := by decide +kernel
theorem d_M_isMet_90 : decode b_M_isMet 90 = .ok (.if_icmp .ne 7, 3) := by decide +kernel
theorem d_M_isMet_93 : decode b_M_isMet 93 = .ok (.iconst 1, 1) := by decide +kernel
theorem d_M_isMet_94 : decode b_M_isMet 94 = .ok (.goto 4, 3) := by decide +kernel
theorem d_M_isMet_97 : decode b_M_isMet 97 = .ok (.iconst 0, 1) := by decide +kernel
theorem d_M_isMet_98 : decode b_M_isMet 98 = .ok (.ireturn, 1) := by decide +kernel
theorem d_M_areMet_0 : decode b_M_areMet 0 = .ok (.aload_n 0, 1) := by decide +kernel
theorem d_M_areMet_1 : decode b_M_areMet 1 = .ok (.aload_n 1, 1) := by decide +kernel
theorem d_M_areMet_2 : decode b_M_areMet 2 = .ok (.iload_n 2, 1) := by decide +kernel
theorem d_M_areMet_3 : decode b_M_areMet 3 = .ok (.iconst 1, 1) := by decide +kernel
theorem d_M_areMet_4 : decode b_M_areMet 4 = .ok (.invokevirtual 97, 3) := by decide +kernel
theorem d_M_areMet_7 : decode b_M_areMet 7 = .ok (.ifCond .eq 27, 3) := by decide +kernel
theorem d_M_areMet_10 : decode b_M_areMet 10 = .ok (.aload_n 0, 1) := by decide +kernel
theorem d_M_areMet_11 : decode b_M_areMet 11 = .ok (.aload_n 1, 1) := by decide +kernel
theorem d_M_areMet_12 : decode b_M_areMet 12 = .ok (.iload_n 2, 1) := by decide +kernel
theorem d_M_areMet_13 : decode b_M_areMet 13 = .ok (.iconst 2, 1) := by decide +kernel
theorem d_M_areMet_14 : decode b_M_areMet 14 = .ok (.invokevirtual 97, 3) := by decide +kernel
theorem d_M_areMet_17 : decode b_M_areMet 17 = .ok (.ifCond .eq 17, 3) := by decide +kernel
theorem d_M_areMet_20 : decode b_M_areMet 20 = .ok (.aload_n 0, 1) := by decide +kernel
theorem d_M_areMet_21 : decode b_M_areMet 21 = .ok (.aload_n 1, 1) := by decide +kernel
theorem d_M_areMet_22 : decode b_M_areMet 22 = .ok (.iload_n 2, 1) := by decide +kernel
theorem d_M_areMet_23 : decode b_M_areMet 23 = .ok (.iconst 3, 1) := by decide +kernel
theorem d_M_areMet_24 : decode b_M_areMet 24 = .ok (.invokevirtual 97, 3) := by decide +kernel
theorem d_M_areMet_27 : decode b_M_areMet 27 = .ok (.ifCond .eq 7, 3) := by decide +kernel
theorem d_M_areMet_30 : decode b_M_areMet 30 = .ok (.iconst 1, 1) := by decide +kernel
theorem d_M_areMet_31 : decode b_M_areMet 31 = .ok (.goto 4, 3) := by decide +kernel
theorem d_M_areMet_34 : decode b_M_areMet 34 = .ok (.iconst 0, 1) := by decide +kernel
theorem d_M_areMet_35 : decode b_M_areMet 35 = .ok (.ireturn, 1) := by decide +kernel
theorem d_M_unmetTo_0 : decode b_M_unmetTo 0 = .ok (.iconst 0, 1) := by decide +kernel
theorem d_M_unmetTo_1 : decode b_M_unmetTo 1 = .ok (.istore_n 3, 1) := by decide +kernel
theorem d_M_unmetTo_2 : decode b_M_unmetTo 2 = .ok (.iconst 0, 1) := by decide +kernel
theorem d_M_unmetTo_3 : decode b_M_unmetTo 3 = .ok (.istore 4, 2) := by decide +kernel
theorem d_M_unmetTo_5 : decode b_M_unmetTo 5 = .ok (.iload 4, 2) := by decide +kernel
theorem d_M_unmetTo_7 : decode b_M_unmetTo 7 = .ok (.aload_n 0, 1) := by decide +kernel
theorem d_M_unmetTo_8 : decode b_M_unmetTo 8 = .ok (.getfield 83, 3) := by decide +kernel
theorem d_M_unmetTo_11 : decode b_M_unmetTo 11 = .ok (.if_icmp .ge 96, 3) := by decide +kernel
theorem d_M_unmetTo_14 : decode b_M_unmetTo 14 = .ok (.aload_n 1, 1) := by decide +kernel
theorem d_M_unmetTo_15 : decode b_M_unmetTo 15 = .ok (.bipush 6, 2) := by decide +kernel
theorem d_M_unmetTo_17 : decode b_M_unmetTo 17 = .ok (.aload_n 0, 1) := by decide +kernel
theorem d_M_unmetTo_18 : decode b_M_unmetTo 18 = .ok (.getfield 51, 3) := by decide +kernel
theorem d_M_unmetTo_21 : decode b_M_unmetTo 21 = .ok (.iload 4, 2) := by decide +kernel
theorem d_M_unmetTo_23 : decode b_M_unmetTo 23 = .ok (.iaload, 1) := by decide +kernel
theorem d_M_unmetTo_24 : decode b_M_unmetTo 24 = .ok (.imul, 1) := by decide +kernel
theorem d_M_unmetTo_25 : decode b_M_unmetTo 25 = .ok (.aload_n 0, 1) := by decide +kernel
theorem d_M_unmetTo_26 : decode b_M_unmetTo 26 = .ok (.getfield 48, 3) := by decide +kernel
theorem d_M_unmetTo_29 : decode b_M_unmetTo 29 = .ok (.iload 4, 2) := by decide +kernel
theorem d_M_unmetTo_31 : decode b_M_unmetTo 31 = .ok (.iaload, 1) := by decide +kernel
theorem d_M_unmetTo_32 : decode b_M_unmetTo 32 = .ok (.iadd, 1) := by decide +kernel
theorem d_M_unmetTo_33 : decode b_M_unmetTo 33 = .ok (.iaload, 1) := by decide +kernel
theorem d_M_unmetTo_34 : decode b_M_unmetTo 34 = .ok (.aload_n 0, 1) := by decide +kernel
theorem d_M_unmetTo_35 : decode b_M_unmetTo 35 = .ok (.getfield 54, 3) := by decide +kernel
theorem d_M_unmetTo_38 : decode b_M_unmetTo 38 = .ok (.iload 4, 2) := by decide +kernel
theorem d_M_unmetTo_40 : decode b_M_unmetTo 40 = .ok (.iaload, 1) := by decide +kernel
theorem d_M_unmetTo_41 : decode b_M_unmetTo 41 = .ok (.if_icmp .ne 7, 3) := by decide +kernel
theorem d_M_unmetTo_44 : decode b_M_unmetTo 44 = .ok (.iconst 1, 1) := by decide +kernel
theorem d_M_unmetTo_45 : decode b_M_unmetTo 45 = .ok (.goto 4, 3) := by decide +kernel
theorem d_M_unmetTo_48 : decode b_M_unmetTo 48 = .ok (.iconst 0, 1) := by decide +kernel
theorem d_M_unmetTo_49 : decode b_M_unmetTo 49 = .ok (.istore 5, 2) := by decide +kernel
theorem d_M_unmetTo_51 : decode b_M_unmetTo 51 = .ok (.iload_n 3, 1) := by decide +kernel
theorem d_M_unmetTo_52 : decode b_M_unmetTo 52 = .ok (.aload_n 0, 1) := by decide +kernel
theorem d_M_unmetTo_53 : decode b_M_unmetTo 53 = .ok (.getfield 51, 3) := by decide +kernel
theorem d_M_unmetTo_56 : decode b_M_unmetTo 56 = .ok (.iload 4, 2) := by decide +kernel
theorem d_M_unmetTo_58 : decode b_M_unmetTo 58 = .ok (.iaload, 1) := by decide +kernel
theorem d_M_unmetTo_59 : decode b_M_unmetTo 59 = .ok (.aload_n 0, 1) := by decide +kernel
theorem d_M_unmetTo_60 : decode b_M_unmetTo 60 = .ok (.getfield 66, 3) := by decide +kernel
theorem d_M_unmetTo_63 : decode b_M_unmetTo 63 = .ok (.imul, 1) := by decide +kernel
theorem d_M_unmetTo_64 : decode b_M_unmetTo 64 = .ok (.aload_n 0, 1) := by decide +kernel
theorem d_M_unmetTo_65 : decode b_M_unmetTo 65 = .ok (.getfield 48, 3) := by decide +kernel
theorem d_M_unmetTo_68 : decode b_M_unmetTo 68 = .ok (.iload 4, 2) := by decide +kernel
theorem d_M_unmetTo_70 : decode b_M_unmetTo 70 = .ok (.iaload, 1) := by decide +kernel
theorem d_M_unmetTo_71 : decode b_M_unmetTo 71 = .ok (.iadd, 1) := by decide +kernel
theorem d_M_unmetTo_72 : decode b_M_unmetTo 72 = .ok (.iload_n 2, 1) := by decide +kernel
theorem d_M_unmetTo_73 : decode b_M_unmetTo 73 = .ok (.if_icmp .gt 25, 3) := by decide +kernel
theorem d_M_unmetTo_76 : decode b_M_unmetTo 76 = .ok (.iload 5, 2) := by decide +kernel
theorem d_M_unmetTo_78 : decode b_M_unmetTo 78 = .ok (.aload_n 0, 1) := by decide +kernel
theorem d_M_unmetTo_79 : decode b_M_unmetTo 79 = .ok (.getfield 57, 3) := by decide +kernel
theorem d_M_unmetTo_82 : decode b_M_unmetTo 82 = .ok (.iload 4, 2) := by decide +kernel
theorem d_M_unmetTo_84 : decode b_M_unmetTo 84 = .ok (.baload, 1) := by decide +kernel
theorem d_M_unmetTo_85 : decode b_M_unmetTo 85 = .ok (.if_icmp .eq 13, 3) := by decide +kernel
theorem d_M_unmetTo_88 : decode b_M_unmetTo 88 = .ok (.aload_n 0, 1) := by decide +kernel
theorem d_M_unmetTo_89 : decode b_M_unmetTo 89 = .ok (.getfield 60, 3) := by decide +kernel
theorem d_M_unmetTo_92 : decode b_M_unmetTo 92 = .ok (.iload 4, 2) := by decide +kernel
theorem d_M_unmetTo_94 : decode b_M_unmetTo 94 = .ok (.iaload, 1) := by decide +kernel
theorem d_M_unmetTo_95 : decode b_M_unmetTo 95 = .ok (.goto 4, 3) := by decide +kernel
theorem d_M_unmetTo_98 : decode b_M_unmetTo 98 = .ok (.iconst 0, 1) := by decide +kernel
theorem d_M_unmetTo_99 : decode b_M_unmetTo 99 = .ok (.iadd, 1) := by decide +kernel
theorem d_M_unmetTo_100 : decode b_M_unmetTo 100 = .ok (.istore_n 3, 1) := by decide +kernel
theorem d_M_unmetTo_101 : decode b_M_unmetTo 101 = .ok (.iinc 4 1, 3) := by decide +kernel
theorem d_M_unmetTo_104 : decode b_M_unmetTo 104 = .ok (.goto (-99), 3) := by decide +kernel
theorem d_M_unmetTo_107 : decode b_M_unmetTo 107 = .ok (.iload_n 3, 1) := by decide +kernel
theorem d_M_unmetTo_108 : decode b_M_unmetTo 108 = .ok (.ireturn, 1) := by decide +kernel
theorem d_M_wrongWith_0 : decode b_M_wrongWith 0 = .ok (.iconst 0, 1) := by decide +kernel
theorem d_M_wrongWith_1 : decode b_M_wrongWith 1 = .ok (.istore_n 2, 1) := by decide +kernel
theorem d_M_wrongWith_2 : decode b_M_wrongWith 2 = .ok (.iload_n 2, 1) := by decide +kernel
theorem d_M_wrongWith_3 : decode b_M_wrongWith 3 = .ok (.aload_n 0, 1) := by decide +kernel
theorem d_M_wrongWith_4 : decode b_M_wrongWith 4 = .ok (.getfield 73, 3) := by decide +kernel
theorem d_M_wrongWith_7 : decode b_M_wrongWith 7 = .ok (.if_icmp .ge 42, 3) := by decide +kernel
theorem d_M_wrongWith_10 : decode b_M_wrongWith 10 = .ok (.iconst 1, 1) := by decide +kernel
theorem d_M_wrongWith_11 : decode b_M_wrongWith 11 = .ok (.istore_n 3, 1) := by decide +kernel
theorem d_M_wrongWith_12 : decode b_M_wrongWith 12 = .ok (.iload_n 3, 1) := by decide +kernel
theorem d_M_wrongWith_13 : decode b_M_wrongWith 13 = .ok (.iconst 4, 1) := by decide +kernel
theorem d_M_wrongWith_14 : decode b_M_wrongWith 14 = .ok (.if_icmp .ge 29, 3) := by decide +kernel
theorem d_M_wrongWith_17 : decode b_M_wrongWith 17 = .ok (.aload_n 0, 1) := by decide +kernel
theorem d_M_wrongWith_18 : decode b_M_wrongWith 18 = .ok (.aload_n 1, 1) := by decide +kernel
theorem d_M_wrongWith_19 : decode b_M_wrongWith 19 = .ok (.iload_n 2, 1) := by decide +kernel
theorem d_M_wrongWith_20 : decode b_M_wrongWith 20 = .ok (.iload_n 3, 1) := by decide +kernel
theorem d_M_wrongWith_21 : decode b_M_wrongWith 21 = .ok (.invokevirtual 97, 3) := by decide +kernel
theorem d_M_wrongWith_24 : decode b_M_wrongWith 24 = .ok (.ifCond .ne 13, 3) := by decide +kernel
theorem d_M_wrongWith_27 : decode b_M_wrongWith 27 = .ok (.bipush 100, 2) := by decide +kernel
theorem d_M_wrongWith_29 : decode b_M_wrongWith 29 = .ok (.bipush 10, 2) := by decide +kernel
theorem d_M_wrongWith_31 : decode b_M_wrongWith 31 = .ok (.iload_n 3, 1) := by decide +kernel
theorem d_M_wrongWith_32 : decode b_M_wrongWith 32 = .ok (.imul, 1) := by decide +kernel
theorem d_M_wrongWith_33 : decode b_M_wrongWith 33 = .ok (.iadd, 1) := by decide +kernel
theorem d_M_wrongWith_34 : decode b_M_wrongWith 34 = .ok (.iload_n 2, 1) := by decide +kernel
theorem d_M_wrongWith_35 : decode b_M_wrongWith 35 = .ok (.iadd, 1) := by decide +kernel
theorem d_M_wrongWith_36 : decode b_M_wrongWith 36 = .ok (.ireturn, 1) := by decide +kernel
theorem d_M_wrongWith_37 : decode b_M_wrongWith 37 = .ok (.iinc 3 1, 3) := by decide +kernel
theorem d_M_wrongWith_40 : decode b_M_wrongWith 40 = .ok (.goto (-28), 3) := by decide +kernel
theorem d_M_wrongWith_43 : decode b_M_wrongWith 43 = .ok (.iinc 2 1, 3) := by decide +kernel
theorem d_M_wrongWith_46 : decode b_M_wrongWith 46 = .ok (.goto (-44), 3) := by decide +kernel
theorem d_M_wrongWith_49 : decode b_M_wrongWith 49 = .ok (.iconst 2, 1) := by decide +kernel
theorem d_M_wrongWith_50 : decode b_M_wrongWith 50 = .ok (.istore_n 2, 1) := by decide +kernel
theorem d_M_wrongWith_51 : decode b_M_wrongWith 51 = .ok (.iload_n 2, 1) := by decide +kernel
theorem d_M_wrongWith_52 : decode b_M_wrongWith 52 = .ok (.bipush 6, 2) := by decide +kernel
theorem d_M_wrongWith_54 : decode b_M_wrongWith 54 = .ok (.if_icmp .ge 211, 3) := by decide +kernel
theorem d_M_wrongWith_57 : decode b_M_wrongWith 57 = .ok (.iconst 0, 1) := by decide +kernel
theorem d_M_wrongWith_58 : decode b_M_wrongWith 58 = .ok (.istore_n 3, 1) := by decide +kernel
theorem d_M_wrongWith_59 : decode b_M_wrongWith 59 = .ok (.iload_n 3, 1) := by decide +kernel
theorem d_M_wrongWith_60 : decode b_M_wrongWith 60 = .ok (.aload_n 0, 1) := by decide +kernel
theorem d_M_wrongWith_61 : decode b_M_wrongWith 61 = .ok (.getfield 66, 3) := by decide +kernel
theorem d_M_wrongWith_64 : decode b_M_wrongWith 64 = .ok (.if_icmp .ge 195, 3) := by decide +kernel
theorem d_M_wrongWith_67 : decode b_M_wrongWith 67 = .ok (.iconst 0, 1) := by decide +kernel
theorem d_M_wrongWith_68 : decode b_M_wrongWith 68 = .ok (.istore 4, 2) := by decide +kernel
theorem d_M_wrongWith_70 : decode b_M_wrongWith 70 = .ok (.iconst 0, 1) := by decide +kernel
theorem d_M_wrongWith_71 : decode b_M_wrongWith 71 = .ok (.istore 5, 2) := by decide +kernel
theorem d_M_wrongWith_73 : decode b_M_wrongWith 73 = .ok (.iload 5, 2) := by decide +kernel
theorem d_M_wrongWith_75 : decode b_M_wrongWith 75 = .ok (.aload_n 0, 1) := by decide +kernel
theorem d_M_wrongWith_76 : decode b_M_wrongWith 76 = .ok (.getfield 73, 3) := by decide +kernel
theorem d_M_wrongWith_79 : decode b_M_wrongWith 79 = .ok (.if_icmp .ge 132, 3) := by decide +kernel
theorem d_M_wrongWith_82 : decode b_M_wrongWith 82 = .ok (.aload_n 1, 1) := by decide +kernel
theorem d_M_wrongWith_83 : decode b_M_wrongWith 83 = .ok (.bipush 6, 2) := by decide +kernel
theorem d_M_wrongWith_85 : decode b_M_wrongWith 85 = .ok (.iload 5, 2) := by decide +kernel
theorem d_M_wrongWith_87 : decode b_M_wrongWith 87 = .ok (.imul, 1) := by decide +kernel
theorem d_M_wrongWith_88 : decode b_M_wrongWith 88 = .ok (.iload_n 3, 1) := by decide +kernel
theorem d_M_wrongWith_89 : decode b_M_wrongWith 89 = .ok (.iadd, 1) := by decide +kernel
theorem d_M_wrongWith_90 : decode b_M_wrongWith 90 = .ok (.iaload, 1) := by decide +kernel
theorem d_M_wrongWith_91 : decode b_M_wrongWith 91 = .ok (.istore 6, 2) := by decide +kernel
theorem d_M_wrongWith_93 : decode b_M_wrongWith 93 = .ok (.iload 6, 2) := by decide +kernel
theorem d_M_wrongWith_95 : decode b_M_wrongWith 95 = .ok (.ifCond .le 8, 3) := by decide +kernel
theorem d_M_wrongWith_98 : decode b_M_wrongWith 98 = .ok (.iload 5, 2) := by decide +kernel
theorem d_M_wrongWith_100 : decode b_M_wrongWith 100 = .ok (.goto 5, 3) := by decide +kernel
theorem d_M_wrongWith_103 : decode b_M_wrongWith 103 = .ok (.iload 4, 2) := by decide +kernel
theorem d_M_wrongWith_105 : decode b_M_wrongWith 105 = .ok (.istore 4, 2) := by decide +kernel
theorem d_M_wrongWith_107 : decode b_M_wrongWith 107 = .ok (.iload_n 2, 1) := by decide +kernel
theorem d_M_wrongWith_108 : decode b_M_wrongWith 108 = .ok (.iconst 2, 1) := by decide +kernel
theorem d_M_wrongWith_109 : decode b_M_wrongWith 109 = .ok (.if_icmp .ne 14, 3) := by decide +kernel
theorem d_M_wrongWith_112 : decode b_M_wrongWith 112 = .ok (.aload_n 0, 1) := by decide +kernel
theorem d_M_wrongWith_113 : decode b_M_wrongWith 113 = .ok (.aload_n 1, 1) := by decide +kernel
theorem d_M_wrongWith_114 : decode b_M_wrongWith 114 = .ok (.iload_n 3, 1) := by decide +kernel
theorem d_M_wrongWith_115 : decode b_M_wrongWith 115 = .ok (.iload 5, 2) := by decide +kernel
theorem d_M_wrongWith_117 : decode b_M_wrongWith 117 = .ok (.invokevirtual 101, 3) := by decide +kernel
theorem d_M_wrongWith_120 : decode b_M_wrongWith 120 = .ok (.goto 65, 3) := by decide +kernel
theorem d_M_wrongWith_123 : decode b_M_wrongWith 123 = .ok (.iload_n 2, 1) := by decide +kernel
theorem d_M_wrongWith_124 : decode b_M_wrongWith 124 = .ok (.iconst 4, 1) := by decide +kernel
theorem d_M_wrongWith_125 : decode b_M_wrongWith 125 = .ok (.if_icmp .ne 25, 3) := by decide +kernel
theorem d_M_wrongWith_128 : decode b_M_wrongWith 128 = .ok (.aload_n 1, 1) := by decide +kernel
theorem d_M_wrongWith_129 : decode b_M_wrongWith 129 = .ok (.iload_n 3, 1) := by decide +kernel
theorem d_M_wrongWith_130 : decode b_M_wrongWith 130 = .ok (.iload 5, 2) := by decide +kernel
theorem d_M_wrongWith_132 : decode b_M_wrongWith 132 = .ok (.invokestatic 104, 3) := by decide +kernel
theorem d_M_wrongWith_135 : decode b_M_wrongWith 135 = .ok (.aload_n 0, 1) := by decide +kernel
theorem d_M_wrongWith_136 : decode b_M_wrongWith 136 = .ok (.getfield 45, 3) := by decide +kernel
theorem d_M_wrongWith_139 : decode b_M_wrongWith 139 = .ok (.if_icmp .le 7, 3) := by decide +kernel
theorem d_M_wrongWith_142 : decode b_M_wrongWith 142 = .ok (.iconst 1, 1) := by decide +kernel
theorem d_M_wrongWith_143 : decode b_M_wrongWith 143 = .ok (.goto 42, 3) := by decide +kernel
theorem d_M_wrongWith_146 : decode b_M_wrongWith 146 = .ok (.iconst 0, 1) := by decide +kernel
theorem d_M_wrongWith_147 : decode b_M_wrongWith 147 = .ok (.goto 38, 3) := by decide +kernel
theorem d_M_wrongWith_150 : decode b_M_wrongWith 150 = .ok (.iload_n 2, 1) := by decide +kernel
theorem d_M_wrongWith_151 : decode b_M_wrongWith 151 = .ok (.iconst 5, 1) := by decide +kernel
theorem d_M_wrongWith_152 : decode b_M_wrongWith 152 = .ok (.if_icmp .ne 32, 3) := by decide +kernel
theorem d_M_wrongWith_155 : decode b_M_wrongWith 155 = .ok (.iload 6, 2) := by decide +kernel
theorem d_M_wrongWith_157 : decode b_M_wrongWith 157 = .ok (.ifCond .le 27, 3) := by decide +kernel
theorem d_M_wrongWith_160 : decode b_M_wrongWith 160 = .ok (.aload_n 0, 1) := by decide +kernel
theorem d_M_wrongWith_161 : decode b_M_wrongWith 161 = .ok (.getfield 34, 3) := by decide +kernel
theorem d_M_wrongWith_164 : decode b_M_wrongWith 164 = .ok (.bipush 24, 2) := by decide +kernel
theorem d_M_wrongWith_166 : decode b_M_wrongWith 166 = .ok (.iload 5, 2) := by decide +kernel
theorem d_M_wrongWith_168 : decode b_M_wrongWith 168 = .ok (.imul, 1) := by decide +kernel
theorem d_M_wrongWith_169 : decode b_M_wrongWith 169 = .ok (.iconst 4, 1) := by decide +kernel
theorem d_M_wrongWith_170 : decode b_M_wrongWith 170 = .ok (.iload_n 3, 1) := by decide +kernel
theorem d_M_wrongWith_171 : decode b_M_wrongWith 171 = .ok (.imul, 1) := by decide +kernel
theorem d_M_wrongWith_172 : decode b_M_wrongWith 172 = .ok (.iadd, 1) := by decide +kernel
theorem d_M_wrongWith_173 : decode b_M_wrongWith 173 = .ok (.iload 6, 2) := by decide +kernel
theorem d_M_wrongWith_175 : decode b_M_wrongWith 175 = .ok (.iadd, 1) := by decide +kernel
theorem d_M_wrongWith_176 : decode b_M_wrongWith 176 = .ok (.baload, 1) := by decide +kernel
theorem d_M_wrongWith_177 : decode b_M_wrongWith 177 = .ok (.ifCond .eq 7, 3) := by decide +kernel
theorem d_M_wrongWith_180 : decode b_M_wrongWith 180 = .ok (.iconst 1, 1) := by decide +kernel
theorem d_M_wrongWith_181 : decode b_M_wrongWith 181 = .ok (.goto 4, 3) := by decide +kernel
theorem d_M_wrongWith_184 : decode b_M_wrongWith 184 = .ok (.iconst 0, 1) := by decide +kernel
theorem d_M_wrongWith_185 : decode b_M_wrongWith 185 = .ok (.istore 7, 2) := by decide +kernel
theorem d_M_wrongWith_187 : decode b_M_wrongWith 187 = .ok (.iload 7, 2) := by decide +kernel
theorem d_M_wrongWith_189 : decode b_M_wrongWith 189 = .ok (.ifCond .eq 16, 3) := by decide +kernel
theorem d_M_wrongWith_192 : decode b_M_wrongWith 192 = .ok (.bipush 100, 2) := by decide +kernel
theorem d_M_wrongWith_194 : decode b_M_wrongWith 194 = .ok (.iload_n 2, 1) := by decide +kernel
theorem d_M_wrongWith_195 : decode b_M_wrongWith 195 = .ok (.imul, 1) := by decide +kernel
theorem d_M_wrongWith_196 : decode b_M_wrongWith 196 = .ok (.bipush 10, 2) := by decide +kernel
theorem d_M_wrongWith_198 : decode b_M_wrongWith 198 = .ok (.iload_n 3, 1) := by decide +kernel
theorem d_M_wrongWith_199 : decode b_M_wrongWith 199 = .ok (.imul, 1) := by decide +kernel
theorem d_M_wrongWith_200 : decode b_M_wrongWith 200 = .ok (.iadd, 1) := by decide +kernel
theorem d_M_wrongWith_201 : decode b_M_wrongWith 201 = .ok (.iload 5, 2) := by decide +kernel
theorem d_M_wrongWith_203 : decode b_M_wrongWith 203 = .ok (.iadd, 1) := by decide +kernel
theorem d_M_wrongWith_204 : decode b_M_wrongWith 204 = .ok (.ireturn, 1) := by decide +kernel
theorem d_M_wrongWith_205 : decode b_M_wrongWith 205 = .ok (.iinc 5 1, 3) := by decide +kernel
theorem d_M_wrongWith_208 : decode b_M_wrongWith 208 = .ok (.goto (-135), 3) := by decide +kernel
theorem d_M_wrongWith_211 : decode b_M_wrongWith 211 = .ok (.iload_n 2, 1) := by decide +kernel
theorem d_M_wrongWith_212 : decode b_M_wrongWith 212 = .ok (.iconst 3, 1) := by decide +kernel
theorem d_M_wrongWith_213 : decode b_M_wrongWith 213 = .ok (.if_icmp .ne 40, 3) := by decide +kernel
theorem d_M_wrongWith_216 : decode b_M_wrongWith 216 = .ok (.aload_n 0, 1) := by decide +kernel
theorem d_M_wrongWith_217 : decode b_M_wrongWith 217 = .ok (.getfield 73, 3) := by decide +kernel
theorem d_M_wrongWith_220 : decode b_M_wrongWith 220 = .ok (.ifCond .le 33, 3) := by decide +kernel
theorem d_M_wrongWith_223 : decode b_M_wrongWith 223 = .ok (.aload_n 1, 1) := by decide +kernel
theorem d_M_wrongWith_224 : decode b_M_wrongWith 224 = .ok (.iload_n 3, 1) := by decide +kernel
theorem d_M_wrongWith_225 : decode b_M_wrongWith 225 = .ok (.aload_n 0, 1) := by decide +kernel
theorem d_M_wrongWith_226 : decode b_M_wrongWith 226 = .ok (.getfield 73, 3) := by decide +kernel
theorem d_M_wrongWith_229 : decode b_M_wrongWith 229 = .ok (.iconst 1, 1) := by decide +kernel
theorem d_M_wrongWith_230 : decode b_M_wrongWith 230 = .ok (.isub, 1) := by decide +kernel
theorem d_M_wrongWith_231 : decode b_M_wrongWith 231 = .ok (.invokestatic 108, 3) := by decide +kernel
theorem d_M_wrongWith_234 : decode b_M_wrongWith 234 = .ok (.aload_n 0, 1) := by decide +kernel
theorem d_M_wrongWith_235 : decode b_M_wrongWith 235 = .ok (.getfield 42, 3) := by decide +kernel
theorem d_M_wrongWith_238 : decode b_M_wrongWith 238 = .ok (.if_icmp .le 15, 3) := by decide +kernel
theorem d_M_wrongWith_241 : decode b_M_wrongWith 241 = .ok (.sipush 300, 3) := by decide +kernel
theorem d_M_wrongWith_244 : decode b_M_wrongWith 244 = .ok (.bipush 10, 2) := by decide +kernel
theorem d_M_wrongWith_246 : decode b_M_wrongWith 246 = .ok (.iload_n 3, 1) := by decide +kernel
theorem d_M_wrongWith_247 : decode b_M_wrongWith 247 = .ok (.imul, 1) := by decide +kernel
theorem d_M_wrongWith_248 : decode b_M_wrongWith 248 = .ok (.iadd, 1) := by decide +kernel
theorem d_M_wrongWith_249 : decode b_M_wrongWith 249 = .ok (.iload 4, 2) := by decide +kernel
theorem d_M_wrongWith_251 : decode b_M_wrongWith 251 = .ok (.iadd, 1) := by decide +kernel
theorem d_M_wrongWith_252 : decode b_M_wrongWith 252 = .ok (.ireturn, 1) := by decide +kernel
theorem d_M_wrongWith_253 : decode b_M_wrongWith 253 = .ok (.iinc 3 1, 3) := by decide +kernel
theorem d_M_wrongWith_256 : decode b_M_wrongWith 256 = .ok (.goto (-197), 3) := by decide +kernel
theorem d_M_wrongWith_259 : decode b_M_wrongWith 259 = .ok (.iinc 2 1, 3) := by decide +kernel
theorem d_M_wrongWith_262 : decode b_M_wrongWith 262 = .ok (.goto (-211), 3) := by decide +kernel
theorem d_M_wrongWith_265 : decode b_M_wrongWith 265 = .ok (.iconst 0, 1) := by decide +kernel
theorem d_M_wrongWith_266 : decode b_M_wrongWith 266 = .ok (.ireturn, 1) := by decide +kernel
theorem d_M_givesUp_0 : decode b_M_givesUp 0 = .ok (.iload_n 1, 1) := by decide +kernel
theorem d_M_givesUp_1 : decode b_M_givesUp 1 = .ok (.aload_n 0, 1) := by decide +kernel
theorem d_M_givesUp_2 : decode b_M_givesUp 2 = .ok (.getfield 66, 3) := by decide +kernel
theorem d_M_givesUp_5 : decode b_M_givesUp 5 = .ok (.idiv, 1) := by decide +kernel
theorem d_M_givesUp_6 : decode b_M_givesUp 6 = .ok (.istore_n 3, 1) := by decide +kernel
theorem d_M_givesUp_7 : decode b_M_givesUp 7 = .ok (.iload_n 1, 1) := by decide +kernel
theorem d_M_givesUp_8 : decode b_M_givesUp 8 = .ok (.aload_n 0, 1) := by decide +kernel
theorem d_M_givesUp_9 : decode b_M_givesUp 9 = .ok (.getfield 66, 3) := by decide +kernel
theorem d_M_givesUp_12 : decode b_M_givesUp 12 = .ok (.irem, 1) := by decide +kernel
theorem d_M_givesUp_13 : decode b_M_givesUp 13 = .ok (.istore 4, 2) := by decide +kernel
theorem d_M_givesUp_15 : decode b_M_givesUp 15 = .ok (.aload_n 0, 1) := by decide +kernel
theorem d_M_givesUp_16 : decode b_M_givesUp 16 = .ok (.getfield 19, 3) := by decide +kernel
theorem d_M_givesUp_19 : decode b_M_givesUp 19 = .ok (.bipush 6, 2) := by decide +kernel
theorem d_M_givesUp_21 : decode b_M_givesUp 21 = .ok (.iload_n 3, 1) := by decide +kernel
theorem d_M_givesUp_22 : decode b_M_givesUp 22 = .ok (.imul, 1) := by decide +kernel
theorem d_M_givesUp_23 : decode b_M_givesUp 23 = .ok (.iload 4, 2) := by decide +kernel
theorem d_M_givesUp_25 : decode b_M_givesUp 25 = .ok (.iadd, 1) := by decide +kernel
theorem d_M_givesUp_26 : decode b_M_givesUp 26 = .ok (.iaload, 1) := by decide +kernel
theorem d_M_givesUp_27 : decode b_M_givesUp 27 = .ok (.istore 5, 2) := by decide +kernel
theorem d_M_givesUp_29 : decode b_M_givesUp 29 = .ok (.aload_n 0, 1) := by decide +kernel
theorem d_M_givesUp_30 : decode b_M_givesUp 30 = .ok (.aload_n 0, 1) := by decide +kernel
theorem d_M_givesUp_31 : decode b_M_givesUp 31 = .ok (.getfield 19, 3) := by decide +kernel
theorem d_M_givesUp_34 : decode b_M_givesUp 34 = .ok (.iload 4, 2) := by decide +kernel
theorem d_M_givesUp_36 : decode b_M_givesUp 36 = .ok (.iload_n 3, 1) := by decide +kernel
theorem d_M_givesUp_37 : decode b_M_givesUp 37 = .ok (.invokevirtual 101, 3) := by decide +kernel
theorem d_M_givesUp_40 : decode b_M_givesUp 40 = .ok (.ifCond .ne 37, 3) := by decide +kernel
theorem d_M_givesUp_43 : decode b_M_givesUp 43 = .ok (.aload_n 0, 1) := by decide +kernel
theorem d_M_givesUp_44 : decode b_M_givesUp 44 = .ok (.getfield 19, 3) := by decide +kernel
theorem d_M_givesUp_47 : decode b_M_givesUp 47 = .ok (.iload 4, 2) := by decide +kernel
theorem d_M_givesUp_49 : decode b_M_givesUp 49 = .ok (.iload_n 3, 1) := by decide +kernel
theorem d_M_givesUp_50 : decode b_M_givesUp 50 = .ok (.invokestatic 108, 3) := by decide +kernel
theorem d_M_givesUp_53 : decode b_M_givesUp 53 = .ok (.aload_n 0, 1) := by decide +kernel
theorem d_M_givesUp_54 : decode b_M_givesUp 54 = .ok (.getfield 42, 3) := by decide +kernel
theorem d_M_givesUp_57 : decode b_M_givesUp 57 = .ok (.if_icmp .gt 20, 3) := by decide +kernel
theorem d_M_givesUp_60 : decode b_M_givesUp 60 = .ok (.aload_n 0, 1) := by decide +kernel
theorem d_M_givesUp_61 : decode b_M_givesUp 61 = .ok (.getfield 19, 3) := by decide +kernel
theorem d_M_givesUp_64 : decode b_M_givesUp 64 = .ok (.iload 4, 2) := by decide +kernel
theorem d_M_givesUp_66 : decode b_M_givesUp 66 = .ok (.iload_n 3, 1) := by decide +kernel
theorem d_M_givesUp_67 : decode b_M_givesUp 67 = .ok (.invokestatic 104, 3) := by decide +kernel
theorem d_M_givesUp_70 : decode b_M_givesUp 70 = .ok (.aload_n 0, 1) := by decide +kernel
theorem d_M_givesUp_71 : decode b_M_givesUp 71 = .ok (.getfield 45, 3) := by decide +kernel
theorem d_M_givesUp_74 : decode b_M_givesUp 74 = .ok (.if_icmp .le 5, 3) := by decide +kernel
theorem d_M_givesUp_77 : decode b_M_givesUp 77 = .ok (.iconst 1, 1) := by decide +kernel
theorem d_M_givesUp_78 : decode b_M_givesUp 78 = .ok (.ireturn, 1) := by decide +kernel
theorem d_M_givesUp_79 : decode b_M_givesUp 79 = .ok (.iload 5, 2) := by decide +kernel
theorem d_M_givesUp_81 : decode b_M_givesUp 81 = .ok (.ifCond .le 25, 3) := by decide +kernel
theorem d_M_givesUp_84 : decode b_M_givesUp 84 = .ok (.aload_n 0, 1) := by decide +kernel
theorem d_M_givesUp_85 : decode b_M_givesUp 85 = .ok (.getfield 34, 3) := by decide +kernel
theorem d_M_givesUp_88 : decode b_M_givesUp 88 = .ok (.bipush 24, 2) := by decide +kernel
theorem d_M_givesUp_90 : decode b_M_givesUp 90 = .ok (.iload_n 3, 1) := by decide +kernel
theorem d_M_givesUp_91 : decode b_M_givesUp 91 = .ok (.imul, 1) := by decide +kernel
theorem d_M_givesUp_92 : decode b_M_givesUp 92 = .ok (.iconst 4, 1) := by decide +kernel
theorem d_M_givesUp_93 : decode b_M_givesUp 93 = .ok (.iload 4, 2) := by decide +kernel
theorem d_M_givesUp_95 : decode b_M_givesUp 95 = .ok (.imul, 1) := by decide +kernel
theorem d_M_givesUp_96 : decode b_M_givesUp 96 = .ok (.iadd, 1) := by decide +kernel
theorem d_M_givesUp_97 : decode b_M_givesUp 97 = .ok (.iload 5, 2) := by decide +kernel
theorem d_M_givesUp_99 : decode b_M_givesUp 99 = .ok (.iadd, 1) := by decide +kernel
theorem d_M_givesUp_100 : decode b_M_givesUp 100 = .ok (.baload, 1) := by decide +kernel
theorem d_M_givesUp_101 : decode b_M_givesUp 101 = .ok (.ifCond .eq 5, 3) := by decide +kernel
theorem d_M_givesUp_104 : decode b_M_givesUp 104 = .ok (.iconst 1, 1) := by decide +kernel
theorem d_M_givesUp_105 : decode b_M_givesUp 105 = .ok (.ireturn, 1) := by decide +kernel
theorem d_M_givesUp_106 : decode b_M_givesUp 106 = .ok (.iload 4, 2) := by decide +kernel
theorem d_M_givesUp_108 : decode b_M_givesUp 108 = .ok (.aload_n 0, 1) := by decide +kernel
theorem d_M_givesUp_109 : decode b_M_givesUp 109 = .ok (.getfield 66, 3) := by decide +kernel
theorem d_M_givesUp_112 : decode b_M_givesUp 112 = .ok (.iconst 1, 1) := by decide +kernel
theorem d_M_givesUp_113 : decode b_M_givesUp 113 = .ok (.isub, 1) := by decide +kernel
theorem d_M_givesUp_114 : decode b_M_givesUp 114 = .ok (.if_icmp .ne 17, 3) := by decide +kernel
theorem d_M_givesUp_117 : decode b_M_givesUp 117 = .ok (.aload_n 0, 1) := by decide +kernel
theorem d_M_givesUp_118 : decode b_M_givesUp 118 = .ok (.aload_n 0, 1) := by decide +kernel
theorem d_M_givesUp_119 : decode b_M_givesUp 119 = .ok (.getfield 19, 3) := by decide +kernel
theorem d_M_givesUp_122 : decode b_M_givesUp 122 = .ok (.iload_n 3, 1) := by decide +kernel
theorem d_M_givesUp_123 : decode b_M_givesUp 123 = .ok (.invokevirtual 111, 3) := by decide +kernel
theorem d_M_givesUp_126 : decode b_M_givesUp 126 = .ok (.ifCond .ne 5, 3) := by decide +kernel
theorem d_M_givesUp_129 : decode b_M_givesUp 129 = .ok (.iconst 1, 1) := by decide +kernel
theorem d_M_givesUp_130 : decode b_M_givesUp 130 = .ok (.ireturn, 1) := by decide +kernel
theorem d_M_givesUp_131 : decode b_M_givesUp 131 = .ok (.iload_n 2, 1) := by decide +kernel
theorem d_M_givesUp_132 : decode b_M_givesUp 132 = .ok (.ifCond .lt 20, 3) := by decide +kernel
theorem d_M_givesUp_135 : decode b_M_givesUp 135 = .ok (.aload_n 0, 1) := by decide +kernel
theorem d_M_givesUp_136 : decode b_M_givesUp 136 = .ok (.aload_n 0, 1) := by decide +kernel
theorem d_M_givesUp_137 : decode b_M_givesUp 137 = .ok (.getfield 19, 3) := by decide +kernel
theorem d_M_givesUp_140 : decode b_M_givesUp 140 = .ok (.iload_n 1, 1) := by decide +kernel
theorem d_M_givesUp_141 : decode b_M_givesUp 141 = .ok (.invokevirtual 115, 3) := by decide +kernel
theorem d_M_givesUp_144 : decode b_M_givesUp 144 = .ok (.iload_n 2, 1) := by decide +kernel
theorem d_M_givesUp_145 : decode b_M_givesUp 145 = .ok (.if_icmp .lt 7, 3) := by decide +kernel
theorem d_M_givesUp_148 : decode b_M_givesUp 148 = .ok (.iconst 1, 1) := by decide +kernel
theorem d_M_givesUp_149 : decode b_M_givesUp 149 = .ok (.goto 4, 3) := by decide +kernel
theorem d_M_givesUp_152 : decode b_M_givesUp 152 = .ok (.iconst 0, 1) := by decide +kernel
theorem d_M_givesUp_153 : decode b_M_givesUp 153 = .ok (.ireturn, 1) := by decide +kernel
theorem d_M_search_0 : decode b_M_search 0 = .ok (.iconst (-1), 1) := by decide +kernel
theorem d_M_search_1 : decode b_M_search 1 = .ok (.istore_n 2, 1) := by decide +kernel
theorem d_M_search_2 : decode b_M_search 2 = .ok (.iconst 0, 1) := by decide +kernel
theorem d_M_search_3 : decode b_M_search 3 = .ok (.istore_n 3, 1) := by decide +kernel
theorem d_M_search_4 : decode b_M_search 4 = .ok (.aload_n 0, 1) := by decide +kernel
theorem d_M_search_5 : decode b_M_search 5 = .ok (.getfield 66, 3) := by decide +kernel
theorem d_M_search_8 : decode b_M_search 8 = .ok (.aload_n 0, 1) := by decide +kernel
theorem d_M_search_9 : decode b_M_search 9 = .ok (.getfield 73, 3) := by decide +kernel
theorem d_M_search_12 : decode b_M_search 12 = .ok (.imul, 1) := by decide +kernel
theorem d_M_search_13 : decode b_M_search 13 = .ok (.iconst 1, 1) := by decide +kernel
theorem d_M_search_14 : decode b_M_search 14 = .ok (.isub, 1) := by decide +kernel
theorem d_M_search_15 : decode b_M_search 15 = .ok (.istore 4, 2) := by decide +kernel
theorem d_M_search_17 : decode b_M_search 17 = .ok (.iconst 0, 1) := by decide +kernel
theorem d_M_search_18 : decode b_M_search 18 = .ok (.istore 5, 2) := by decide +kernel
theorem d_M_search_20 : decode b_M_search 20 = .ok (.iload_n 3, 1) := by decide +kernel
theorem d_M_search_21 : decode b_M_search 21 = .ok (.ifCond .lt 257, 3) := by decide +kernel
theorem d_M_search_24 : decode b_M_search 24 = .ok (.bipush 6, 2) := by decide +kernel
theorem d_M_search_26 : decode b_M_search 26 = .ok (.iload_n 3, 1) := by decide +kernel
theorem d_M_search_27 : decode b_M_search 27 = .ok (.aload_n 0, 1) := by decide +kernel
theorem d_M_search_28 : decode b_M_search 28 = .ok (.getfield 66, 3) := by decide +kernel
theorem d_M_search_31 : decode b_M_search 31 = .ok (.idiv, 1) := by decide +kernel
theorem d_M_search_32 : decode b_M_search 32 = .ok (.imul, 1) := by decide +kernel
theorem d_M_search_33 : decode b_M_search 33 = .ok (.iload_n 3, 1) := by decide +kernel
theorem d_M_search_34 : decode b_M_search 34 = .ok (.aload_n 0, 1) := by decide +kernel
theorem d_M_search_35 : decode b_M_search 35 = .ok (.getfield 66, 3) := by decide +kernel
theorem d_M_search_38 : decode b_M_search 38 = .ok (.irem, 1) := by decide +kernel
theorem d_M_search_39 : decode b_M_search 39 = .ok (.iadd, 1) := by decide +kernel
theorem d_M_search_40 : decode b_M_search 40 = .ok (.istore 6, 2) := by decide +kernel
theorem d_M_search_42 : decode b_M_search 42 = .ok (.iload_n 3, 1) := by decide +kernel
theorem d_M_search_43 : decode b_M_search 43 = .ok (.aload_n 0, 1) := by decide +kernel
theorem d_M_search_44 : decode b_M_search 44 = .ok (.getfield 66, 3) := by decide +kernel
theorem d_M_search_47 : decode b_M_search 47 = .ok (.idiv, 1) := by decide +kernel
theorem d_M_search_48 : decode b_M_search 48 = .ok (.aload_n 0, 1) := by decide +kernel
theorem d_M_search_49 : decode b_M_search 49 = .ok (.getfield 80, 3) := by decide +kernel
theorem d_M_search_52 : decode b_M_search 52 = .ok (.if_icmp .ge 7, 3) := by decide +kernel
theorem d_M_search_55 : decode b_M_search 55 = .ok (.iconst 1, 1) := by decide +kernel
theorem d_M_search_56 : decode b_M_search 56 = .ok (.goto 4, 3) := by decide +kernel
theorem d_M_search_59 : decode b_M_search 59 = .ok (.iconst 0, 1) := by decide +kernel
theorem d_M_search_60 : decode b_M_search 60 = .ok (.istore 7, 2) := by decide +kernel
theorem d_M_search_62 : decode b_M_search 62 = .ok (.iload 7, 2) := by decide +kernel
theorem d_M_search_64 : decode b_M_search 64 = .ok (.ifCond .eq 13, 3) := by decide +kernel
theorem d_M_search_67 : decode b_M_search 67 = .ok (.aload_n 0, 1) := by decide +kernel
theorem d_M_search_68 : decode b_M_search 68 = .ok (.getfield 16, 3) := by decide +kernel
theorem d_M_search_71 : decode b_M_search 71 = .ok (.iload 6, 2) := by decide +kernel
theorem d_M_search_73 : decode b_M_search 73 = .ok (.iaload, 1) := by decide +kernel
theorem d_M_search_74 : decode b_M_search 74 = .ok (.goto 5, 3) := by decide +kernel
theorem d_M_search_77 : decode b_M_search 77 = .ok (.iload 5, 2) := by decide +kernel
theorem d_M_search_79 : decode b_M_search 79 = .ok (.istore 8, 2) := by decide +kernel
theorem d_M_search_81 : decode b_M_search 81 = .ok (.iload 7, 2) := by decide +kernel
theorem d_M_search_83 : decode b_M_search 83 = .ok (.ifCond .eq 11, 3) := by decide +kernel
theorem d_M_search_86 : decode b_M_search 86 = .ok (.iload 5, 2) := by decide +kernel
theorem d_M_search_88 : decode b_M_search 88 = .ok (.ifCond .le 64, 3) := by decide +kernel
theorem d_M_search_91 : decode b_M_search 91 = .ok (.goto 9, 3) := by decide +kernel
theorem d_M_search_94 : decode b_M_search 94 = .ok (.iload 5, 2) := by decide +kernel
theorem d_M_search_96 : decode b_M_search 96 = .ok (.iconst 3, 1) := by decide +kernel
theorem d_M_search_97 : decode b_M_search 97 = .ok (.if_icmp .le 55, 3) := by decide +kernel
theorem d_M_search_100 : decode b_M_search 100 = .ok (.iinc 3 (-1), 3) := by decide +kernel
theorem d_M_search_103 : decode b_M_search 103 = .ok (.iload_n 3, 1) := by decide +kernel
theorem d_M_search_104 : decode b_M_search 104 = .ok (.ifCond .lt 171, 3) := by decide +kernel
theorem d_M_search_107 : decode b_M_search 107 = .ok (.iload_n 3, 1) := by decide +kernel
theorem d_M_search_108 : decode b_M_search 108 = .ok (.aload_n 0, 1) := by decide +kernel
theorem d_M_search_109 : decode b_M_search 109 = .ok (.getfield 66, 3) := by decide +kernel
theorem d_M_search_112 : decode b_M_search 112 = .ok (.idiv, 1) := by decide +kernel
theorem d_M_search_113 : decode b_M_search 113 = .ok (.aload_n 0, 1) := by decide +kernel
theorem d_M_search_114 : decode b_M_search 114 = .ok (.getfield 80, 3) := by decide +kernel
theorem d_M_search_117 : decode b_M_search 117 = .ok (.if_icmp .ge 7, 3) := by decide +kernel
theorem d_M_search_120 : decode b_M_search 120 = .ok (.iconst 1, 1) := by decide +kernel
theorem d_M_search_121 : decode b_M_search 121 = .ok (.goto 26, 3) := by decide +kernel
theorem d_M_search_124 : decode b_M_search 124 = .ok (.aload_n 0, 1) := by decide +kernel
theorem d_M_search_125 : decode b_M_search 125 = .ok (.getfield 19, 3) := by decide +kernel
theorem d_M_search_128 : decode b_M_search 128 = .ok (.bipush 6, 2) := by decide +kernel
theorem d_M_search_130 : decode b_M_search 130 = .ok (.iload_n 3, 1) := by decide +kernel
theorem d_M_search_131 : decode b_M_search 131 = .ok (.aload_n 0, 1) := by decide +kernel
theorem d_M_search_132 : decode b_M_search 132 = .ok (.getfield 66, 3) := by decide +kernel
theorem d_M_search_135 : decode b_M_search 135 = .ok (.idiv, 1) := by decide +kernel
theorem d_M_search_136 : decode b_M_search 136 = .ok (.imul, 1) := by decide +kernel
theorem d_M_search_137 : decode b_M_search 137 = .ok (.iload_n 3, 1) := by decide +kernel
theorem d_M_search_138 : decode b_M_search 138 = .ok (.aload_n 0, 1) := by decide +kernel
theorem d_M_search_139 : decode b_M_search 139 = .ok (.getfield 66, 3) := by decide +kernel
theorem d_M_search_142 : decode b_M_search 142 = .ok (.irem, 1) := by decide +kernel
theorem d_M_search_143 : decode b_M_search 143 = .ok (.iadd, 1) := by decide +kernel
theorem d_M_search_144 : decode b_M_search 144 = .ok (.iaload, 1) := by decide +kernel
theorem d_M_search_145 : decode b_M_search 145 = .ok (.iconst 1, 1) := by decide +kernel
theorem d_M_search_146 : decode b_M_search 146 = .ok (.iadd, 1) := by decide +kernel
theorem d_M_search_147 : decode b_M_search 147 = .ok (.istore 5, 2) := by decide +kernel
theorem d_M_search_149 : decode b_M_search 149 = .ok (.goto 126, 3) := by decide +kernel
theorem d_M_search_152 : decode b_M_search 152 = .ok (.aload_n 0, 1) := by decide +kernel
theorem d_M_search_153 : decode b_M_search 153 = .ok (.getfield 119, 3) := by decide +kernel
theorem d_M_search_156 : decode b_M_search 156 = .ok (.iload_n 1, 1) := by decide +kernel
theorem d_M_search_157 : decode b_M_search 157 = .ok (.if_icmp .ne 10, 3) := by decide +kernel
theorem d_M_search_160 : decode b_M_search 160 = .ok (.aload_n 0, 1) := by decide +kernel
theorem d_M_search_161 : decode b_M_search 161 = .ok (.iconst 0, 1) := by decide +kernel
theorem d_M_search_162 : decode b_M_search 162 = .ok (.putfield 122, 3) := by decide +kernel
theorem d_M_search_165 : decode b_M_search 165 = .ok (.iload_n 2, 1) := by decide +kernel
theorem d_M_search_166 : decode b_M_search 166 = .ok (.ireturn, 1) := by decide +kernel
theorem d_M_search_167 : decode b_M_search 167 = .ok (.aload_n 0, 1) := by decide +kernel
theorem d_M_search_168 : decode b_M_search 168 = .ok (.dup, 1) := by decide +kernel
theorem d_M_search_169 : decode b_M_search 169 = .ok (.getfield 119, 3) := by decide +kernel
theorem d_M_search_172 : decode b_M_search 172 = .ok (.iconst 1, 1) := by decide +kernel
theorem d_M_search_173 : decode b_M_search 173 = .ok (.iadd, 1) := by decide +kernel
theorem d_M_search_174 : decode b_M_search 174 = .ok (.putfield 119, 3) := by decide +kernel
theorem d_M_search_177 : decode b_M_search 177 = .ok (.aload_n 0, 1) := by decide +kernel
theorem d_M_search_178 : decode b_M_search 178 = .ok (.getfield 19, 3) := by decide +kernel
theorem d_M_search_181 : decode b_M_search 181 = .ok (.iload 6, 2) := by decide +kernel
theorem d_M_search_183 : decode b_M_search 183 = .ok (.iload 8, 2) := by decide +kernel
theorem d_M_search_185 : decode b_M_search 185 = .ok (.iastore, 1) := by decide +kernel
theorem d_M_search_186 : decode b_M_search 186 = .ok (.iload 7, 2) := by decide +kernel
theorem d_M_search_188 : decode b_M_search 188 = .ok (.ifCond .eq 7, 3) := by decide +kernel
theorem d_M_search_191 : decode b_M_search 191 = .ok (.iconst 1, 1) := by decide +kernel
theorem d_M_search_192 : decode b_M_search 192 = .ok (.goto 7, 3) := by decide +kernel
theorem d_M_search_195 : decode b_M_search 195 = .ok (.iload 8, 2) := by decide +kernel
theorem d_M_search_197 : decode b_M_search 197 = .ok (.iconst 1, 1) := by decide +kernel
theorem d_M_search_198 : decode b_M_search 198 = .ok (.iadd, 1) := by decide +kernel
theorem d_M_search_199 : decode b_M_search 199 = .ok (.istore 5, 2) := by decide +kernel
theorem d_M_search_201 : decode b_M_search 201 = .ok (.aload_n 0, 1) := by decide +kernel
theorem d_M_search_202 : decode b_M_search 202 = .ok (.iload_n 3, 1) := by decide +kernel
theorem d_M_search_203 : decode b_M_search 203 = .ok (.iload_n 2, 1) := by decide +kernel
theorem d_M_search_204 : decode b_M_search 204 = .ok (.invokevirtual 126, 3) := by decide +kernel
theorem d_M_search_207 : decode b_M_search 207 = .ok (.ifCond .ne 68, 3) := by decide +kernel
theorem d_M_search_210 : decode b_M_search 210 = .ok (.iload_n 3, 1) := by decide +kernel
theorem d_M_search_211 : decode b_M_search 211 = .ok (.iload 4, 2) := by decide +kernel
theorem d_M_search_213 : decode b_M_search 213 = .ok (.if_icmp .ne 56, 3) := by decide +kernel
theorem d_M_search_216 : decode b_M_search 216 = .ok (.aload_n 0, 1) := by decide +kernel
theorem d_M_search_217 : decode b_M_search 217 = .ok (.dup, 1) := by decide +kernel
theorem d_M_search_218 : decode b_M_search 218 = .ok (.getfield 130, 3) := by decide +kernel
theorem d_M_search_221 : decode b_M_search 221 = .ok (.iconst 1, 1) := by decide +kernel
theorem d_M_search_222 : decode b_M_search 222 = .ok (.iadd, 1) := by decide +kernel
theorem d_M_search_223 : decode b_M_search 223 = .ok (.putfield 130, 3) := by decide +kernel
theorem d_M_search_226 : decode b_M_search 226 = .ok (.aload_n 0, 1) := by decide +kernel
theorem d_M_search_227 : decode b_M_search 227 = .ok (.aload_n 0, 1) := by decide +kernel
theorem d_M_search_228 : decode b_M_search 228 = .ok (.getfield 19, 3) := by decide +kernel
theorem d_M_search_231 : decode b_M_search 231 = .ok (.iload_n 3, 1) := by decide +kernel
theorem d_M_search_232 : decode b_M_search 232 = .ok (.invokevirtual 115, 3) := by decide +kernel
theorem d_M_search_235 : decode b_M_search 235 = .ok (.istore_n 2, 1) := by decide +kernel
theorem d_M_search_236 : decode b_M_search 236 = .ok (.iconst 0, 1) := by decide +kernel
theorem d_M_search_237 : decode b_M_search 237 = .ok (.istore 9, 2) := by decide +kernel
theorem d_M_search_239 : decode b_M_search 239 = .ok (.iload 9, 2) := by decide +kernel
theorem d_M_search_241 : decode b_M_search 241 = .ok (.bipush 42, 2) := by decide +kernel
theorem d_M_search_243 : decode b_M_search 243 = .ok (.if_icmp .ge 23, 3) := by decide +kernel
theorem d_M_search_246 : decode b_M_search 246 = .ok (.aload_n 0, 1) := by decide +kernel
theorem d_M_search_247 : decode b_M_search 247 = .ok (.getfield 22, 3) := by decide +kernel
theorem d_M_search_250 : decode b_M_search 250 = .ok (.iload 9, 2) := by decide +kernel
theorem d_M_search_252 : decode b_M_search 252 = .ok (.aload_n 0, 1) := by decide +kernel
theorem d_M_search_253 : decode b_M_search 253 = .ok (.getfield 19, 3) := by decide +kernel
theorem d_M_search_256 : decode b_M_search 256 = .ok (.iload 9, 2) := by decide +kernel
theorem d_M_search_258 : decode b_M_search 258 = .ok (.iaload, 1) := by decide +kernel
theorem d_M_search_259 : decode b_M_search 259 = .ok (.iastore, 1) := by decide +kernel
theorem d_M_search_260 : decode b_M_search 260 = .ok (.iinc 9 1, 3) := by decide +kernel
theorem d_M_search_263 : decode b_M_search 263 = .ok (.goto (-24), 3) := by decide +kernel
theorem d_M_search_266 : decode b_M_search 266 = .ok (.goto 9, 3) := by decide +kernel
theorem d_M_search_269 : decode b_M_search 269 = .ok (.iinc 3 1, 3) := by decide +kernel
theorem d_M_search_272 : decode b_M_search 272 = .ok (.iconst 0, 1) := by decide +kernel
theorem d_M_search_273 : decode b_M_search 273 = .ok (.istore 5, 2) := by decide +kernel
theorem d_M_search_275 : decode b_M_search 275 = .ok (.goto (-255), 3) := by decide +kernel
theorem d_M_search_278 : decode b_M_search 278 = .ok (.iload_n 2, 1) := by decide +kernel
theorem d_M_search_279 : decode b_M_search 279 = .ok (.ireturn, 1) := by decide +kernel
theorem d_M_solve_0 : decode b_M_solve 0 = .ok (.aload_n 0, 1) := by decide +kernel
theorem d_M_solve_1 : decode b_M_solve 1 = .ok (.iload_n 1, 1) := by decide +kernel
theorem d_M_solve_2 : decode b_M_solve 2 = .ok (.iconst 0, 1) := by decide +kernel
theorem d_M_solve_3 : decode b_M_solve 3 = .ok (.sipush 20000, 3) := by decide +kernel
theorem d_M_solve_6 : decode b_M_solve 6 = .ok (.invokestatic 69, 3) := by decide +kernel
theorem d_M_solve_9 : decode b_M_solve 9 = .ok (.ifCond .ne 7, 3) := by decide +kernel
theorem d_M_solve_12 : decode b_M_solve 12 = .ok (.iconst 1, 1) := by decide +kernel
theorem d_M_solve_13 : decode b_M_solve 13 = .ok (.goto 4, 3) := by decide +kernel
theorem d_M_solve_16 : decode b_M_solve 16 = .ok (.iconst 0, 1) := by decide +kernel
theorem d_M_solve_17 : decode b_M_solve 17 = .ok (.iconst 0, 1) := by decide +kernel
theorem d_M_solve_18 : decode b_M_solve 18 = .ok (.iconst 0, 1) := by decide +kernel
theorem d_M_solve_19 : decode b_M_solve 19 = .ok (.iconst 0, 1) := by decide +kernel
theorem d_M_solve_20 : decode b_M_solve 20 = .ok (.invokevirtual 76, 3) := by decide +kernel
theorem d_M_solve_23 : decode b_M_solve 23 = .ok (.ifCond .eq 5, 3) := by decide +kernel
theorem d_M_solve_26 : decode b_M_solve 26 = .ok (.iconst 0, 1) := by decide +kernel
theorem d_M_solve_27 : decode b_M_solve 27 = .ok (.ireturn, 1) := by decide +kernel
theorem d_M_solve_28 : decode b_M_solve 28 = .ok (.aload_n 0, 1) := by decide +kernel
theorem d_M_solve_29 : decode b_M_solve 29 = .ok (.iconst 1, 1) := by decide +kernel
theorem d_M_solve_30 : decode b_M_solve 30 = .ok (.putfield 122, 3) := by decide +kernel
theorem d_M_solve_33 : decode b_M_solve 33 = .ok (.aload_n 0, 1) := by decide +kernel
theorem d_M_solve_34 : decode b_M_solve 34 = .ok (.iconst 0, 1) := by decide +kernel
theorem d_M_solve_35 : decode b_M_solve 35 = .ok (.putfield 119, 3) := by decide +kernel
theorem d_M_solve_38 : decode b_M_solve 38 = .ok (.aload_n 0, 1) := by decide +kernel
theorem d_M_solve_39 : decode b_M_solve 39 = .ok (.iconst 0, 1) := by decide +kernel
theorem d_M_solve_40 : decode b_M_solve 40 = .ok (.putfield 130, 3) := by decide +kernel
theorem d_M_solve_43 : decode b_M_solve 43 = .ok (.aload_n 0, 1) := by decide +kernel
theorem d_M_solve_44 : decode b_M_solve 44 = .ok (.getfield 66, 3) := by decide +kernel
theorem d_M_solve_47 : decode b_M_solve 47 = .ok (.aload_n 0, 1) := by decide +kernel
theorem d_M_solve_48 : decode b_M_solve 48 = .ok (.getfield 73, 3) := by decide +kernel
theorem d_M_solve_51 : decode b_M_solve 51 = .ok (.imul, 1) := by decide +kernel
theorem d_M_solve_52 : decode b_M_solve 52 = .ok (.ifCond .ne 66, 3) := by decide +kernel
theorem d_M_solve_55 : decode b_M_solve 55 = .ok (.iconst 1, 1) := by decide +kernel
theorem d_M_solve_56 : decode b_M_solve 56 = .ok (.istore_n 2, 1) := by decide +kernel
theorem d_M_solve_57 : decode b_M_solve 57 = .ok (.iconst 0, 1) := by decide +kernel
theorem d_M_solve_58 : decode b_M_solve 58 = .ok (.istore_n 3, 1) := by decide +kernel
theorem d_M_solve_59 : decode b_M_solve 59 = .ok (.iload_n 3, 1) := by decide +kernel
theorem d_M_solve_60 : decode b_M_solve 60 = .ok (.aload_n 0, 1) := by decide +kernel
theorem d_M_solve_61 : decode b_M_solve 61 = .ok (.getfield 73, 3) := by decide +kernel
theorem d_M_solve_64 : decode b_M_solve 64 = .ok (.if_icmp .ge 31, 3) := by decide +kernel
theorem d_M_solve_67 : decode b_M_solve 67 = .ok (.iload_n 2, 1) := by decide +kernel
theorem d_M_solve_68 : decode b_M_solve 68 = .ok (.ifCond .eq 19, 3) := by decide +kernel
theorem d_M_solve_71 : decode b_M_solve 71 = .ok (.aload_n 0, 1) := by decide +kernel
theorem d_M_solve_72 : decode b_M_solve 72 = .ok (.aload_n 0, 1) := by decide +kernel
theorem d_M_solve_73 : decode b_M_solve 73 = .ok (.getfield 16, 3) := by decide +kernel
theorem d_M_solve_76 : decode b_M_solve 76 = .ok (.iload_n 3, 1) := by decide +kernel
theorem d_M_solve_77 : decode b_M_solve 77 = .ok (.invokevirtual 111, 3) := by decide +kernel
theorem d_M_solve_80 : decode b_M_solve 80 = .ok (.ifCond .eq 7, 3) := by decide +kernel
theorem d_M_solve_83 : decode b_M_solve 83 = .ok (.iconst 1, 1) := by decide +kernel
theorem d_M_solve_84 : decode b_M_solve 84 = .ok (.goto 4, 3) := by decide +kernel
theorem d_M_solve_87 : decode b_M_solve 87 = .ok (.iconst 0, 1) := by decide +kernel
theorem d_M_solve_88 : decode b_M_solve 88 = .ok (.istore_n 2, 1) := by decide +kernel
theorem d_M_solve_89 : decode b_M_solve 89 = .ok (.iinc 3 1, 3) := by decide +kernel
theorem d_M_solve_92 : decode b_M_solve 92 = .ok (.goto (-33), 3) := by decide +kernel
theorem d_M_solve_95 : decode b_M_solve 95 = .ok (.aload_n 0, 1) := by decide +kernel
theorem d_M_solve_96 : decode b_M_solve 96 = .ok (.iload_n 2, 1) := by decide +kernel
theorem d_M_solve_97 : decode b_M_solve 97 = .ok (.ifCond .eq 7, 3) := by decide +kernel
theorem d_M_solve_100 : decode b_M_solve 100 = .ok (.iconst 1, 1) := by decide +kernel
theorem d_M_solve_101 : decode b_M_solve 101 = .ok (.goto 4, 3) := by decide +kernel
theorem d_M_solve_104 : decode b_M_solve 104 = .ok (.iconst 0, 1) := by decide +kernel
theorem d_M_solve_105 : decode b_M_solve 105 = .ok (.putfield 130, 3) := by decide +kernel
theorem d_M_solve_108 : decode b_M_solve 108 = .ok (.iload_n 2, 1) := by decide +kernel
theorem d_M_solve_109 : decode b_M_solve 109 = .ok (.ifCond .eq 7, 3) := by decide +kernel
theorem d_M_solve_112 : decode b_M_solve 112 = .ok (.iconst 0, 1) := by decide +kernel
theorem d_M_solve_113 : decode b_M_solve 113 = .ok (.goto 4, 3) := by decide +kernel
theorem d_M_solve_116 : decode b_M_solve 116 = .ok (.iconst (-1), 1) := by decide +kernel
theorem d_M_solve_117 : decode b_M_solve 117 = .ok (.ireturn, 1) := by decide +kernel
theorem d_M_solve_118 : decode b_M_solve 118 = .ok (.iconst 0, 1) := by decide +kernel
theorem d_M_solve_119 : decode b_M_solve 119 = .ok (.istore_n 2, 1) := by decide +kernel
theorem d_M_solve_120 : decode b_M_solve 120 = .ok (.iload_n 2, 1) := by decide +kernel
theorem d_M_solve_121 : decode b_M_solve 121 = .ok (.bipush 42, 2) := by decide +kernel
theorem d_M_solve_123 : decode b_M_solve 123 = .ok (.if_icmp .ge 16, 3) := by decide +kernel
theorem d_M_solve_126 : decode b_M_solve 126 = .ok (.aload_n 0, 1) := by decide +kernel
theorem d_M_solve_127 : decode b_M_solve 127 = .ok (.getfield 19, 3) := by decide +kernel
theorem d_M_solve_130 : decode b_M_solve 130 = .ok (.iload_n 2, 1) := by decide +kernel
theorem d_M_solve_131 : decode b_M_solve 131 = .ok (.iconst 0, 1) := by decide +kernel
theorem d_M_solve_132 : decode b_M_solve 132 = .ok (.iastore, 1) := by decide +kernel
theorem d_M_solve_133 : decode b_M_solve 133 = .ok (.iinc 2 1, 3) := by decide +kernel
theorem d_M_solve_136 : decode b_M_solve 136 = .ok (.goto (-16), 3) := by decide +kernel
theorem d_M_solve_139 : decode b_M_solve 139 = .ok (.aload_n 0, 1) := by decide +kernel
theorem d_M_solve_140 : decode b_M_solve 140 = .ok (.iload_n 1, 1) := by decide +kernel
theorem d_M_solve_141 : decode b_M_solve 141 = .ok (.invokevirtual 133, 3) := by decide +kernel
theorem d_M_solve_144 : decode b_M_solve 144 = .ok (.istore_n 2, 1) := by decide +kernel
theorem d_M_solve_145 : decode b_M_solve 145 = .ok (.iconst 0, 1) := by decide +kernel
theorem d_M_solve_146 : decode b_M_solve 146 = .ok (.istore_n 3, 1) := by decide +kernel
theorem d_M_solve_147 : decode b_M_solve 147 = .ok (.iload_n 3, 1) := by decide +kernel
theorem d_M_solve_148 : decode b_M_solve 148 = .ok (.bipush 42, 2) := by decide +kernel
theorem d_M_solve_150 : decode b_M_solve 150 = .ok (.if_icmp .ge 25, 3) := by decide +kernel
theorem d_M_solve_153 : decode b_M_solve 153 = .ok (.iload_n 2, 1) := by decide +kernel
theorem d_M_solve_154 : decode b_M_solve 154 = .ok (.ifCond .lt 21, 3) := by decide +kernel
theorem d_M_solve_157 : decode b_M_solve 157 = .ok (.aload_n 0, 1) := by decide +kernel
theorem d_M_solve_158 : decode b_M_solve 158 = .ok (.getfield 16, 3) := by decide +kernel
theorem d_M_solve_161 : decode b_M_solve 161 = .ok (.iload_n 3, 1) := by decide +kernel
theorem d_M_solve_162 : decode b_M_solve 162 = .ok (.aload_n 0, 1) := by decide +kernel
theorem d_M_solve_163 : decode b_M_solve 163 = .ok (.getfield 22, 3) := by decide +kernel
theorem d_M_solve_166 : decode b_M_solve 166 = .ok (.iload_n 3, 1) := by decide +kernel
theorem d_M_solve_167 : decode b_M_solve 167 = .ok (.iaload, 1) := by decide +kernel
theorem d_M_solve_168 : decode b_M_solve 168 = .ok (.iastore, 1) := by decide +kernel
theorem d_M_solve_169 : decode b_M_solve 169 = .ok (.iinc 3 1, 3) := by decide +kernel
theorem d_M_solve_172 : decode b_M_solve 172 = .ok (.goto (-25), 3) := by decide +kernel
theorem d_M_solve_175 : decode b_M_solve 175 = .ok (.iload_n 2, 1) := by decide +kernel
theorem d_M_solve_176 : decode b_M_solve 176 = .ok (.ireturn, 1) := by decide +kernel
theorem d_M_solved_0 : decode b_M_solved 0 = .ok (.aload_n 0, 1) := by decide +kernel
theorem d_M_solved_1 : decode b_M_solved 1 = .ok (.iload_n 1, 1) := by decide +kernel
theorem d_M_solved_2 : decode b_M_solved 2 = .ok (.iconst 0, 1) := by decide +kernel
theorem d_M_solved_3 : decode b_M_solved 3 = .ok (.iconst 2, 1) := by decide +kernel
theorem d_M_solved_4 : decode b_M_solved 4 = .ok (.invokestatic 69, 3) := by decide +kernel
theorem d_M_solved_7 : decode b_M_solved 7 = .ok (.ifCond .ne 7, 3) := by decide +kernel
theorem d_M_solved_10 : decode b_M_solved 10 = .ok (.iconst 1, 1) := by decide +kernel
theorem d_M_solved_11 : decode b_M_solved 11 = .ok (.goto 4, 3) := by decide +kernel
theorem d_M_solved_14 : decode b_M_solved 14 = .ok (.iconst 0, 1) := by decide +kernel
theorem d_M_solved_15 : decode b_M_solved 15 = .ok (.iconst 0, 1) := by decide +kernel
theorem d_M_solved_16 : decode b_M_solved 16 = .ok (.iconst 0, 1) := by decide +kernel
theorem d_M_solved_17 : decode b_M_solved 17 = .ok (.iconst 0, 1) := by decide +kernel
theorem d_M_solved_18 : decode b_M_solved 18 = .ok (.invokevirtual 76, 3) := by decide +kernel
theorem d_M_solved_21 : decode b_M_solved 21 = .ok (.ifCond .eq 5, 3) := by decide +kernel
theorem d_M_solved_24 : decode b_M_solved 24 = .ok (.iconst 0, 1) := by decide +kernel
theorem d_M_solved_25 : decode b_M_solved 25 = .ok (.ireturn, 1) := by decide +kernel
theorem d_M_solved_26 : decode b_M_solved 26 = .ok (.iload_n 1, 1) := by decide +kernel
theorem d_M_solved_27 : decode b_M_solved 27 = .ok (.ifCond .ne 18, 3) := by decide +kernel
theorem d_M_solved_30 : decode b_M_solved 30 = .ok (.aload_n 0, 1) := by decide +kernel
theorem d_M_solved_31 : decode b_M_solved 31 = .ok (.getfield 122, 3) := by decide +kernel
theorem d_M_solved_34 : decode b_M_solved 34 = .ok (.ifCond .eq 7, 3) := by decide +kernel
theorem d_M_solved_37 : decode b_M_solved 37 = .ok (.iconst 1, 1) := by decide +kernel
theorem d_M_solved_38 : decode b_M_solved 38 = .ok (.goto 23, 3) := by decide +kernel
theorem d_M_solved_41 : decode b_M_solved 41 = .ok (.iconst 0, 1) := by decide +kernel
theorem d_M_solved_42 : decode b_M_solved 42 = .ok (.goto 19, 3) := by decide +kernel
theorem d_M_solved_45 : decode b_M_solved 45 = .ok (.iload_n 1, 1) := by decide +kernel
theorem d_M_solved_46 : decode b_M_solved 46 = .ok (.iconst 1, 1) := by decide +kernel
theorem d_M_solved_47 : decode b_M_solved 47 = .ok (.if_icmp .ne 10, 3) := by decide +kernel
theorem d_M_solved_50 : decode b_M_solved 50 = .ok (.aload_n 0, 1) := by decide +kernel
theorem d_M_solved_51 : decode b_M_solved 51 = .ok (.getfield 119, 3) := by decide +kernel
theorem d_M_solved_54 : decode b_M_solved 54 = .ok (.goto 7, 3) := by decide +kernel
theorem d_M_solved_57 : decode b_M_solved 57 = .ok (.aload_n 0, 1) := by decide +kernel
theorem d_M_solved_58 : decode b_M_solved 58 = .ok (.getfield 130, 3) := by decide +kernel
theorem d_M_solved_61 : decode b_M_solved 61 = .ok (.ireturn, 1) := by decide +kernel
theorem d_M_swap_0 : decode b_M_swap 0 = .ok (.aload_n 0, 1) := by decide +kernel
theorem d_M_swap_1 : decode b_M_swap 1 = .ok (.iload_n 1, 1) := by decide +kernel
theorem d_M_swap_2 : decode b_M_swap 2 = .ok (.invokevirtual 90, 3) := by decide +kernel
theorem d_M_swap_5 : decode b_M_swap 5 = .ok (.ifCond .eq 24, 3) := by decide +kernel
theorem d_M_swap_8 : decode b_M_swap 8 = .ok (.aload_n 0, 1) := by decide +kernel
theorem d_M_swap_9 : decode b_M_swap 9 = .ok (.iload_n 2, 1) := by decide +kernel
theorem d_M_swap_10 : decode b_M_swap 10 = .ok (.invokevirtual 90, 3) := by decide +kernel
theorem d_M_swap_13 : decode b_M_swap 13 = .ok (.ifCond .eq 16, 3) := by decide +kernel
theorem d_M_swap_16 : decode b_M_swap 16 = .ok (.iload_n 1, 1) := by decide +kernel
theorem d_M_swap_17 : decode b_M_swap 17 = .ok (.iload_n 2, 1) := by decide +kernel
theorem d_M_swap_18 : decode b_M_swap 18 = .ok (.if_icmp .eq 11, 3) := by decide +kernel
theorem d_M_swap_21 : decode b_M_swap 21 = .ok (.aload_n 0, 1) := by decide +kernel
theorem d_M_swap_22 : decode b_M_swap 22 = .ok (.iload_n 3, 1) := by decide +kernel
theorem d_M_swap_23 : decode b_M_swap 23 = .ok (.invokevirtual 86, 3) := by decide +kernel
theorem d_M_swap_26 : decode b_M_swap 26 = .ok (.ifCond .ne 7, 3) := by decide +kernel
theorem d_M_swap_29 : decode b_M_swap 29 = .ok (.iconst 1, 1) := by decide +kernel
theorem d_M_swap_30 : decode b_M_swap 30 = .ok (.goto 4, 3) := by decide +kernel
theorem d_M_swap_33 : decode b_M_swap 33 = .ok (.iconst 0, 1) := by decide +kernel
theorem d_M_swap_34 : decode b_M_swap 34 = .ok (.istore 4, 2) := by decide +kernel
theorem d_M_swap_36 : decode b_M_swap 36 = .ok (.iload 4, 2) := by decide +kernel
theorem d_M_swap_38 : decode b_M_swap 38 = .ok (.ifCond .ne 15, 3) := by decide +kernel
theorem d_M_swap_41 : decode b_M_swap 41 = .ok (.iload_n 3, 1) := by decide +kernel
theorem d_M_swap_42 : decode b_M_swap 42 = .ok (.aload_n 0, 1) := by decide +kernel
theorem d_M_swap_43 : decode b_M_swap 43 = .ok (.getfield 80, 3) := by decide +kernel
theorem d_M_swap_46 : decode b_M_swap 46 = .ok (.if_icmp .ge 7, 3) := by decide +kernel
theorem d_M_swap_49 : decode b_M_swap 49 = .ok (.iconst 1, 1) := by decide +kernel
theorem d_M_swap_50 : decode b_M_swap 50 = .ok (.goto 4, 3) := by decide +kernel
theorem d_M_swap_53 : decode b_M_swap 53 = .ok (.iconst 0, 1) := by decide +kernel
theorem d_M_swap_54 : decode b_M_swap 54 = .ok (.istore 5, 2) := by decide +kernel
theorem d_M_swap_56 : decode b_M_swap 56 = .ok (.iload 4, 2) := by decide +kernel
theorem d_M_swap_58 : decode b_M_swap 58 = .ok (.ifCond .ne 127, 3) := by decide +kernel
theorem d_M_swap_61 : decode b_M_swap 61 = .ok (.iload 5, 2) := by decide +kernel
theorem d_M_swap_63 : decode b_M_swap 63 = .ok (.ifCond .ne 122, 3) := by decide +kernel
theorem d_M_swap_66 : decode b_M_swap 66 = .ok (.aload_n 0, 1) := by decide +kernel
theorem d_M_swap_67 : decode b_M_swap 67 = .ok (.getfield 16, 3) := by decide +kernel
theorem d_M_swap_70 : decode b_M_swap 70 = .ok (.bipush 6, 2) := by decide +kernel
theorem d_M_swap_72 : decode b_M_swap 72 = .ok (.iload_n 3, 1) := by decide +kernel
theorem d_M_swap_73 : decode b_M_swap 73 = .ok (.imul, 1) := by decide +kernel
theorem d_M_swap_74 : decode b_M_swap 74 = .ok (.iload_n 1, 1) := by decide +kernel
theorem d_M_swap_75 : decode b_M_swap 75 = .ok (.iadd, 1) := by decide +kernel
theorem d_M_swap_76 : decode b_M_swap 76 = .ok (.iaload, 1) := by decide +kernel
theorem d_M_swap_77 : decode b_M_swap 77 = .ok (.istore 6, 2) := by decide +kernel
theorem d_M_swap_79 : decode b_M_swap 79 = .ok (.aload_n 0, 1) := by decide +kernel
theorem d_M_swap_80 : decode b_M_swap 80 = .ok (.getfield 16, 3) := by decide +kernel
theorem d_M_swap_83 : decode b_M_swap 83 = .ok (.bipush 6, 2) := by decide +kernel
theorem d_M_swap_85 : decode b_M_swap 85 = .ok (.iload_n 3, 1) := by decide +kernel
theorem d_M_swap_86 : decode b_M_swap 86 = .ok (.imul, 1) := by decide +kernel
theorem d_M_swap_87 : decode b_M_swap 87 = .ok (.iload_n 1, 1) := by decide +kernel
theorem d_M_swap_88 : decode b_M_swap 88 = .ok (.iadd, 1) := by decide +kernel
theorem d_M_swap_89 : decode b_M_swap 89 = .ok (.aload_n 0, 1) := by decide +kernel
theorem d_M_swap_90 : decode b_M_swap 90 = .ok (.getfield 16, 3) := by decide +kernel
theorem d_M_swap_93 : decode b_M_swap 93 = .ok (.bipush 6, 2) := by decide +kernel
theorem d_M_swap_95 : decode b_M_swap 95 = .ok (.iload_n 3, 1) := by decide +kernel
theorem d_M_swap_96 : decode b_M_swap 96 = .ok (.imul, 1) := by decide +kernel
theorem d_M_swap_97 : decode b_M_swap 97 = .ok (.iload_n 2, 1) := by decide +kernel
theorem d_M_swap_98 : decode b_M_swap 98 = .ok (.iadd, 1) := by decide +kernel
theorem d_M_swap_99 : decode b_M_swap 99 = .ok (.iaload, 1) := by decide +kernel
theorem d_M_swap_100 : decode b_M_swap 100 = .ok (.iastore, 1) := by decide +kernel
theorem d_M_swap_101 : decode b_M_swap 101 = .ok (.aload_n 0, 1) := by decide +kernel
theorem d_M_swap_102 : decode b_M_swap 102 = .ok (.getfield 16, 3) := by decide +kernel
theorem d_M_swap_105 : decode b_M_swap 105 = .ok (.bipush 6, 2) := by decide +kernel
theorem d_M_swap_107 : decode b_M_swap 107 = .ok (.iload_n 3, 1) := by decide +kernel
theorem d_M_swap_108 : decode b_M_swap 108 = .ok (.imul, 1) := by decide +kernel
theorem d_M_swap_109 : decode b_M_swap 109 = .ok (.iload_n 2, 1) := by decide +kernel
theorem d_M_swap_110 : decode b_M_swap 110 = .ok (.iadd, 1) := by decide +kernel
theorem d_M_swap_111 : decode b_M_swap 111 = .ok (.iload 6, 2) := by decide +kernel
theorem d_M_swap_113 : decode b_M_swap 113 = .ok (.iastore, 1) := by decide +kernel
theorem d_M_swap_114 : decode b_M_swap 114 = .ok (.aload_n 0, 1) := by decide +kernel
theorem d_M_swap_115 : decode b_M_swap 115 = .ok (.aload_n 0, 1) := by decide +kernel
theorem d_M_swap_116 : decode b_M_swap 116 = .ok (.getfield 16, 3) := by decide +kernel
theorem d_M_swap_119 : decode b_M_swap 119 = .ok (.invokevirtual 137, 3) := by decide +kernel
theorem d_M_swap_122 : decode b_M_swap 122 = .ok (.ifCond .le 7, 3) := by decide +kernel
theorem d_M_swap_125 : decode b_M_swap 125 = .ok (.iconst 1, 1) := by decide +kernel
theorem d_M_swap_126 : decode b_M_swap 126 = .ok (.goto 4, 3) := by decide +kernel
theorem d_M_swap_129 : decode b_M_swap 129 = .ok (.iconst 0, 1) := by decide +kernel
theorem d_M_swap_130 : decode b_M_swap 130 = .ok (.istore 5, 2) := by decide +kernel
theorem d_M_swap_132 : decode b_M_swap 132 = .ok (.iload 5, 2) := by decide +kernel
theorem d_M_swap_134 : decode b_M_swap 134 = .ok (.ifCond .eq 51, 3) := by decide +kernel
theorem d_M_swap_137 : decode b_M_swap 137 = .ok (.aload_n 0, 1) := by decide +kernel
theorem d_M_swap_138 : decode b_M_swap 138 = .ok (.getfield 16, 3) := by decide +kernel
theorem d_M_swap_141 : decode b_M_swap 141 = .ok (.bipush 6, 2) := by decide +kernel
theorem d_M_swap_143 : decode b_M_swap 143 = .ok (.iload_n 3, 1) := by decide +kernel
theorem d_M_swap_144 : decode b_M_swap 144 = .ok (.imul, 1) := by decide +kernel
theorem d_M_swap_145 : decode b_M_swap 145 = .ok (.iload_n 1, 1) := by decide +kernel
theorem d_M_swap_146 : decode b_M_swap 146 = .ok (.iadd, 1) := by decide +kernel
theorem d_M_swap_147 : decode b_M_swap 147 = .ok (.iaload, 1) := by decide +kernel
theorem d_M_swap_148 : decode b_M_swap 148 = .ok (.istore 6, 2) := by decide +kernel
theorem d_M_swap_150 : decode b_M_swap 150 = .ok (.aload_n 0, 1) := by decide +kernel
theorem d_M_swap_151 : decode b_M_swap 151 = .ok (.getfield 16, 3) := by decide +kernel
theorem d_M_swap_154 : decode b_M_swap 154 = .ok (.bipush 6, 2) := by decide +kernel
theorem d_M_swap_156 : decode b_M_swap 156 = .ok (.iload_n 3, 1) := by decide +kernel
theorem d_M_swap_157 : decode b_M_swap 157 = .ok (.imul, 1) := by decide +kernel
theorem d_M_swap_158 : decode b_M_swap 158 = .ok (.iload_n 1, 1) := by decide +kernel
theorem d_M_swap_159 : decode b_M_swap 159 = .ok (.iadd, 1) := by decide +kernel
theorem d_M_swap_160 : decode b_M_swap 160 = .ok (.aload_n 0, 1) := by decide +kernel
theorem d_M_swap_161 : decode b_M_swap 161 = .ok (.getfield 16, 3) := by decide +kernel
theorem d_M_swap_164 : decode b_M_swap 164 = .ok (.bipush 6, 2) := by decide +kernel
theorem d_M_swap_166 : decode b_M_swap 166 = .ok (.iload_n 3, 1) := by decide +kernel
theorem d_M_swap_167 : decode b_M_swap 167 = .ok (.imul, 1) := by decide +kernel
theorem d_M_swap_168 : decode b_M_swap 168 = .ok (.iload_n 2, 1) := by decide +kernel
theorem d_M_swap_169 : decode b_M_swap 169 = .ok (.iadd, 1) := by decide +kernel
theorem d_M_swap_170 : decode b_M_swap 170 = .ok (.iaload, 1) := by decide +kernel
theorem d_M_swap_171 : decode b_M_swap 171 = .ok (.iastore, 1) := by decide +kernel
theorem d_M_swap_172 : decode b_M_swap 172 = .ok (.aload_n 0, 1) := by decide +kernel
theorem d_M_swap_173 : decode b_M_swap 173 = .ok (.getfield 16, 3) := by decide +kernel
theorem d_M_swap_176 : decode b_M_swap 176 = .ok (.bipush 6, 2) := by decide +kernel
theorem d_M_swap_178 : decode b_M_swap 178 = .ok (.iload_n 3, 1) := by decide +kernel
theorem d_M_swap_179 : decode b_M_swap 179 = .ok (.imul, 1) := by decide +kernel
theorem d_M_swap_180 : decode b_M_swap 180 = .ok (.iload_n 2, 1) := by decide +kernel
theorem d_M_swap_181 : decode b_M_swap 181 = .ok (.iadd, 1) := by decide +kernel
theorem d_M_swap_182 : decode b_M_swap 182 = .ok (.iload 6, 2) := by decide +kernel
theorem d_M_swap_184 : decode b_M_swap 184 = .ok (.iastore, 1) := by decide +kernel
theorem d_M_swap_185 : decode b_M_swap 185 = .ok (.aload_n 0, 1) := by decide +kernel
theorem d_M_swap_186 : decode b_M_swap 186 = .ok (.iload 4, 2) := by decide +kernel
theorem d_M_swap_188 : decode b_M_swap 188 = .ok (.iload 5, 2) := by decide +kernel
theorem d_M_swap_190 : decode b_M_swap 190 = .ok (.iconst 0, 1) := by decide +kernel
theorem d_M_swap_191 : decode b_M_swap 191 = .ok (.iconst 0, 1) := by decide +kernel
theorem d_M_swap_192 : decode b_M_swap 192 = .ok (.invokevirtual 76, 3) := by decide +kernel
theorem d_M_swap_195 : decode b_M_swap 195 = .ok (.pop, 1) := by decide +kernel
theorem d_M_swap_196 : decode b_M_swap 196 = .ok (.return_, 1) := by decide +kernel
theorem d_M_shift_0 : decode b_M_shift 0 = .ok (.aload_n 0, 1) := by decide +kernel
theorem d_M_shift_1 : decode b_M_shift 1 = .ok (.aload_n 0, 1) := by decide +kernel
theorem d_M_shift_2 : decode b_M_shift 2 = .ok (.iload_n 1, 1) := by decide +kernel
theorem d_M_shift_3 : decode b_M_shift 3 = .ok (.invokevirtual 90, 3) := by decide +kernel
theorem d_M_shift_6 : decode b_M_shift 6 = .ok (.ifCond .eq 11, 3) := by decide +kernel
theorem d_M_shift_9 : decode b_M_shift 9 = .ok (.aload_n 0, 1) := by decide +kernel
theorem d_M_shift_10 : decode b_M_shift 10 = .ok (.iload_n 2, 1) := by decide +kernel
theorem d_M_shift_11 : decode b_M_shift 11 = .ok (.invokevirtual 86, 3) := by decide +kernel
theorem d_M_shift_14 : decode b_M_shift 14 = .ok (.ifCond .ne 7, 3) := by decide +kernel
theorem d_M_shift_17 : decode b_M_shift 17 = .ok (.iconst 1, 1) := by decide +kernel
theorem d_M_shift_18 : decode b_M_shift 18 = .ok (.goto 4, 3) := by decide +kernel
theorem d_M_shift_21 : decode b_M_shift 21 = .ok (.iconst 0, 1) := by decide +kernel
theorem d_M_shift_22 : decode b_M_shift 22 = .ok (.iconst 0, 1) := by decide +kernel
theorem d_M_shift_23 : decode b_M_shift 23 = .ok (.iconst 0, 1) := by decide +kernel
theorem d_M_shift_24 : decode b_M_shift 24 = .ok (.iconst 0, 1) := by decide +kernel
theorem d_M_shift_25 : decode b_M_shift 25 = .ok (.invokevirtual 76, 3) := by decide +kernel
theorem d_M_shift_28 : decode b_M_shift 28 = .ok (.ifCond .eq 5, 3) := by decide +kernel
theorem d_M_shift_31 : decode b_M_shift 31 = .ok (.iconst 0, 1) := by decide +kernel
theorem d_M_shift_32 : decode b_M_shift 32 = .ok (.ireturn, 1) := by decide +kernel
theorem d_M_shift_33 : decode b_M_shift 33 = .ok (.aload_n 0, 1) := by decide +kernel
theorem d_M_shift_34 : decode b_M_shift 34 = .ok (.getfield 16, 3) := by decide +kernel
theorem d_M_shift_37 : decode b_M_shift 37 = .ok (.bipush 6, 2) := by decide +kernel
theorem d_M_shift_39 : decode b_M_shift 39 = .ok (.iload_n 2, 1) := by decide +kernel
theorem d_M_shift_40 : decode b_M_shift 40 = .ok (.imul, 1) := by decide +kernel
theorem d_M_shift_41 : decode b_M_shift 41 = .ok (.iload_n 1, 1) := by decide +kernel
theorem d_M_shift_42 : decode b_M_shift 42 = .ok (.iadd, 1) := by decide +kernel
theorem d_M_shift_43 : decode b_M_shift 43 = .ok (.iaload, 1) := by decide +kernel
theorem d_M_shift_44 : decode b_M_shift 44 = .ok (.ireturn, 1) := by decide +kernel
theorem d_M_wrong_0 : decode b_M_wrong 0 = .ok (.aload_n 0, 1) := by decide +kernel
theorem d_M_wrong_1 : decode b_M_wrong 1 = .ok (.iconst 0, 1) := by decide +kernel
theorem d_M_wrong_2 : decode b_M_wrong 2 = .ok (.putfield 63, 3) := by decide +kernel
theorem d_M_wrong_5 : decode b_M_wrong 5 = .ok (.aload_n 0, 1) := by decide +kernel
theorem d_M_wrong_6 : decode b_M_wrong 6 = .ok (.aload_n 0, 1) := by decide +kernel
theorem d_M_wrong_7 : decode b_M_wrong 7 = .ok (.getfield 16, 3) := by decide +kernel
theorem d_M_wrong_10 : decode b_M_wrong 10 = .ok (.invokevirtual 137, 3) := by decide +kernel
theorem d_M_wrong_13 : decode b_M_wrong 13 = .ok (.ireturn, 1) := by decide +kernel
theorem d_M_unmet_0 : decode b_M_unmet 0 = .ok (.aload_n 0, 1) := by decide +kernel
theorem d_M_unmet_1 : decode b_M_unmet 1 = .ok (.iconst 0, 1) := by decide +kernel
theorem d_M_unmet_2 : decode b_M_unmet 2 = .ok (.putfield 63, 3) := by decide +kernel
theorem d_M_unmet_5 : decode b_M_unmet 5 = .ok (.aload_n 0, 1) := by decide +kernel
theorem d_M_unmet_6 : decode b_M_unmet 6 = .ok (.aload_n 0, 1) := by decide +kernel
theorem d_M_unmet_7 : decode b_M_unmet 7 = .ok (.getfield 16, 3) := by decide +kernel
theorem d_M_unmet_10 : decode b_M_unmet 10 = .ok (.bipush 42, 2) := by decide +kernel
theorem d_M_unmet_12 : decode b_M_unmet 12 = .ok (.invokevirtual 115, 3) := by decide +kernel
theorem d_M_unmet_15 : decode b_M_unmet 15 = .ok (.ireturn, 1) := by decide +kernel
theorem d_M_costOf_0 : decode b_M_costOf 0 = .ok (.aload_n 0, 1) := by decide +kernel
theorem d_M_costOf_1 : decode b_M_costOf 1 = .ok (.getfield 73, 3) := by decide +kernel
theorem d_M_costOf_4 : decode b_M_costOf 4 = .ok (.ifCond .ne 7, 3) := by decide +kernel
theorem d_M_costOf_7 : decode b_M_costOf 7 = .ok (.iconst 0, 1) := by decide +kernel
theorem d_M_costOf_8 : decode b_M_costOf 8 = .ok (.goto 27, 3) := by decide +kernel
theorem d_M_costOf_11 : decode b_M_costOf 11 = .ok (.bipush 8, 2) := by decide +kernel
theorem d_M_costOf_13 : decode b_M_costOf 13 = .ok (.aload_n 0, 1) := by decide +kernel
theorem d_M_costOf_14 : decode b_M_costOf 14 = .ok (.getfield 13, 3) := by decide +kernel
theorem d_M_costOf_17 : decode b_M_costOf 17 = .ok (.iload_n 1, 1) := by decide +kernel
theorem d_M_costOf_18 : decode b_M_costOf 18 = .ok (.iaload, 1) := by decide +kernel
theorem d_M_costOf_19 : decode b_M_costOf 19 = .ok (.imul, 1) := by decide +kernel
theorem d_M_costOf_20 : decode b_M_costOf 20 = .ok (.aload_n 0, 1) := by decide +kernel
theorem d_M_costOf_21 : decode b_M_costOf 21 = .ok (.getfield 16, 3) := by decide +kernel
theorem d_M_costOf_24 : decode b_M_costOf 24 = .ok (.iload_n 1, 1) := by decide +kernel
theorem d_M_costOf_25 : decode b_M_costOf 25 = .ok (.aload_n 0, 1) := by decide +kernel
theorem d_M_costOf_26 : decode b_M_costOf 26 = .ok (.getfield 73, 3) := by decide +kernel
theorem d_M_costOf_29 : decode b_M_costOf 29 = .ok (.iconst 1, 1) := by decide +kernel
theorem d_M_costOf_30 : decode b_M_costOf 30 = .ok (.isub, 1) := by decide +kernel
theorem d_M_costOf_31 : decode b_M_costOf 31 = .ok (.invokestatic 108, 3) := by decide +kernel
theorem d_M_costOf_34 : decode b_M_costOf 34 = .ok (.imul, 1) := by decide +kernel
theorem d_M_costOf_35 : decode b_M_costOf 35 = .ok (.ireturn, 1) := by decide +kernel
theorem d_M_cost_0 : decode b_M_cost 0 = .ok (.aload_n 0, 1) := by decide +kernel
theorem d_M_cost_1 : decode b_M_cost 1 = .ok (.iconst 0, 1) := by decide +kernel
theorem d_M_cost_2 : decode b_M_cost 2 = .ok (.putfield 63, 3) := by decide +kernel
theorem d_M_cost_5 : decode b_M_cost 5 = .ok (.iconst 0, 1) := by decide +kernel
theorem d_M_cost_6 : decode b_M_cost 6 = .ok (.istore_n 1, 1) := by decide +kernel
theorem d_M_cost_7 : decode b_M_cost 7 = .ok (.iconst 0, 1) := by decide +kernel
theorem d_M_cost_8 : decode b_M_cost 8 = .ok (.istore_n 2, 1) := by decide +kernel
theorem d_M_cost_9 : decode b_M_cost 9 = .ok (.iload_n 2, 1) := by decide +kernel
theorem d_M_cost_10 : decode b_M_cost 10 = .ok (.aload_n 0, 1) := by decide +kernel
theorem d_M_cost_11 : decode b_M_cost 11 = .ok (.getfield 66, 3) := by decide +kernel
theorem d_M_cost_14 : decode b_M_cost 14 = .ok (.if_icmp .ge 17, 3) := by decide +kernel
theorem d_M_cost_17 : decode b_M_cost 17 = .ok (.iload_n 1, 1) := by decide +kernel
theorem d_M_cost_18 : decode b_M_cost 18 = .ok (.aload_n 0, 1) := by decide +kernel
theorem d_M_cost_19 : decode b_M_cost 19 = .ok (.iload_n 2, 1) := by decide +kernel
theorem d_M_cost_20 : decode b_M_cost 20 = .ok (.invokevirtual 141, 3) := by decide +kernel
theorem d_M_cost_23 : decode b_M_cost 23 = .ok (.iadd, 1) := by decide +kernel
theorem d_M_cost_24 : decode b_M_cost 24 = .ok (.istore_n 1, 1) := by decide +kernel
theorem d_M_cost_25 : decode b_M_cost 25 = .ok (.iinc 2 1, 3) := by decide +kernel
theorem d_M_cost_28 : decode b_M_cost 28 = .ok (.goto (-19), 3) := by decide +kernel
theorem d_M_cost_31 : decode b_M_cost 31 = .ok (.iload_n 1, 1) := by decide +kernel
theorem d_M_cost_32 : decode b_M_cost 32 = .ok (.ireturn, 1) := by decide +kernel
theorem d_M_share_0 : decode b_M_share 0 = .ok (.aload_n 0, 1) := by decide +kernel
theorem d_M_share_1 : decode b_M_share 1 = .ok (.invokevirtual 144, 3) := by decide +kernel
theorem d_M_share_4 : decode b_M_share 4 = .ok (.istore_n 2, 1) := by decide +kernel
theorem d_M_share_5 : decode b_M_share 5 = .ok (.aload_n 0, 1) := by decide +kernel
theorem d_M_share_6 : decode b_M_share 6 = .ok (.iload_n 1, 1) := by decide +kernel
theorem d_M_share_7 : decode b_M_share 7 = .ok (.invokevirtual 90, 3) := by decide +kernel
theorem d_M_share_10 : decode b_M_share 10 = .ok (.ifCond .ne 7, 3) := by decide +kernel
theorem d_M_share_13 : decode b_M_share 13 = .ok (.iconst 1, 1) := by decide +kernel
theorem d_M_share_14 : decode b_M_share 14 = .ok (.goto 4, 3) := by decide +kernel
theorem d_M_share_17 : decode b_M_share 17 = .ok (.iconst 0, 1) := by decide +kernel
theorem d_M_share_18 : decode b_M_share 18 = .ok (.istore_n 3, 1) := by decide +kernel
theorem d_M_share_19 : decode b_M_share 19 = .ok (.aload_n 0, 1) := by decide +kernel
theorem d_M_share_20 : decode b_M_share 20 = .ok (.iload_n 3, 1) := by decide +kernel
theorem d_M_share_21 : decode b_M_share 21 = .ok (.iload_n 2, 1) := by decide +kernel
theorem d_M_share_22 : decode b_M_share 22 = .ok (.ifCond .ne 7, 3) := by decide +kernel
theorem d_M_share_25 : decode b_M_share 25 = .ok (.iconst 1, 1) := by decide +kernel
theorem d_M_share_26 : decode b_M_share 26 = .ok (.goto 4, 3) := by decide +kernel
theorem d_M_share_29 : decode b_M_share 29 = .ok (.iconst 0, 1) := by decide +kernel
theorem d_M_share_30 : decode b_M_share 30 = .ok (.iconst 0, 1) := by decide +kernel
theorem d_M_share_31 : decode b_M_share 31 = .ok (.iconst 0, 1) := by decide +kernel
theorem d_M_share_32 : decode b_M_share 32 = .ok (.invokevirtual 76, 3) := by decide +kernel
theorem d_M_share_35 : decode b_M_share 35 = .ok (.ifCond .eq 5, 3) := by decide +kernel
theorem d_M_share_38 : decode b_M_share 38 = .ok (.iconst 0, 1) := by decide +kernel
theorem d_M_share_39 : decode b_M_share 39 = .ok (.ireturn, 1) := by decide +kernel
theorem d_M_share_40 : decode b_M_share 40 = .ok (.ldc2_w 148, 3) := by decide +kernel
theorem d_M_share_43 : decode b_M_share 43 = .ok (.aload_n 0, 1) := by decide +kernel
theorem d_M_share_44 : decode b_M_share 44 = .ok (.iload_n 1, 1) := by decide +kernel
theorem d_M_share_45 : decode b_M_share 45 = .ok (.invokevirtual 141, 3) := by decide +kernel
theorem d_M_share_48 : decode b_M_share 48 = .ok (.i2l, 1) := by decide +kernel
theorem d_M_share_49 : decode b_M_share 49 = .ok (.lmul, 1) := by decide +kernel
theorem d_M_share_50 : decode b_M_share 50 = .ok (.iload_n 2, 1) := by decide +kernel
theorem d_M_share_51 : decode b_M_share 51 = .ok (.i2l, 1) := by decide +kernel
theorem d_M_share_52 : decode b_M_share 52 = .ok (.ldiv, 1) := by decide +kernel
theorem d_M_share_53 : decode b_M_share 53 = .ok (.l2i, 1) := by decide +kernel
theorem d_M_share_54 : decode b_M_share 54 = .ok (.ireturn, 1) := by decide +kernel
theorem d_M_publish_0 : decode b_M_publish 0 = .ok (.aload_n 0, 1) := by decide +kernel
theorem d_M_publish_1 : decode b_M_publish 1 = .ok (.iconst 0, 1) := by decide +kernel
theorem d_M_publish_2 : decode b_M_publish 2 = .ok (.putfield 63, 3) := by decide +kernel
theorem d_M_publish_5 : decode b_M_publish 5 = .ok (.iconst 0, 1) := by decide +kernel
theorem d_M_publish_6 : decode b_M_publish 6 = .ok (.istore_n 1, 1) := by decide +kernel
theorem d_M_publish_7 : decode b_M_publish 7 = .ok (.iconst 0, 1) := by decide +kernel
theorem d_M_publish_8 : decode b_M_publish 8 = .ok (.istore_n 2, 1) := by decide +kernel
theorem d_M_publish_9 : decode b_M_publish 9 = .ok (.iload_n 2, 1) := by decide +kernel
theorem d_M_publish_10 : decode b_M_publish 10 = .ok (.bipush 42, 2) := by decide +kernel
theorem d_M_publish_12 : decode b_M_publish 12 = .ok (.if_icmp .ge 76, 3) := by decide +kernel
theorem d_M_publish_15 : decode b_M_publish 15 = .ok (.iload_n 2, 1) := by decide +kernel
theorem d_M_publish_16 : decode b_M_publish 16 = .ok (.bipush 6, 2) := by decide +kernel
theorem d_M_publish_18 : decode b_M_publish 18 = .ok (.idiv, 1) := by decide +kernel
theorem d_M_publish_19 : decode b_M_publish 19 = .ok (.aload_n 0, 1) := by decide +kernel
theorem d_M_publish_20 : decode b_M_publish 20 = .ok (.getfield 73, 3) := by decide +kernel
theorem d_M_publish_23 : decode b_M_publish 23 = .ok (.if_icmp .ge 18, 3) := by decide +kernel
theorem d_M_publish_26 : decode b_M_publish 26 = .ok (.iload_n 2, 1) := by decide +kernel
theorem d_M_publish_27 : decode b_M_publish 27 = .ok (.bipush 6, 2) := by decide +kernel
theorem d_M_publish_29 : decode b_M_publish 29 = .ok (.irem, 1) := by decide +kernel
theorem d_M_publish_30 : decode b_M_publish 30 = .ok (.aload_n 0, 1) := by decide +kernel
theorem d_M_publish_31 : decode b_M_publish 31 = .ok (.getfield 66, 3) := by decide +kernel
theorem d_M_publish_34 : decode b_M_publish 34 = .ok (.if_icmp .ge 7, 3) := by decide +kernel
theorem d_M_publish_37 : decode b_M_publish 37 = .ok (.iconst 1, 1) := by decide +kernel
theorem d_M_publish_38 : decode b_M_publish 38 = .ok (.goto 4, 3) := by decide +kernel
theorem d_M_publish_41 : decode b_M_publish 41 = .ok (.iconst 0, 1) := by decide +kernel
theorem d_M_publish_42 : decode b_M_publish 42 = .ok (.istore_n 3, 1) := by decide +kernel
theorem d_M_publish_43 : decode b_M_publish 43 = .ok (.iload_n 1, 1) := by decide +kernel
theorem d_M_publish_44 : decode b_M_publish 44 = .ok (.iload_n 3, 1) := by decide +kernel
theorem d_M_publish_45 : decode b_M_publish 45 = .ok (.ifCond .eq 22, 3) := by decide +kernel
theorem d_M_publish_48 : decode b_M_publish 48 = .ok (.aload_n 0, 1) := by decide +kernel
theorem d_M_publish_49 : decode b_M_publish 49 = .ok (.getfield 25, 3) := by decide +kernel
theorem d_M_publish_52 : decode b_M_publish 52 = .ok (.iload_n 2, 1) := by decide +kernel
theorem d_M_publish_53 : decode b_M_publish 53 = .ok (.iaload, 1) := by decide +kernel
theorem d_M_publish_54 : decode b_M_publish 54 = .ok (.aload_n 0, 1) := by decide +kernel
theorem d_M_publish_55 : decode b_M_publish 55 = .ok (.getfield 16, 3) := by decide +kernel
theorem d_M_publish_58 : decode b_M_publish 58 = .ok (.iload_n 2, 1) := by decide +kernel
theorem d_M_publish_59 : decode b_M_publish 59 = .ok (.iaload, 1) := by decide +kernel
theorem d_M_publish_60 : decode b_M_publish 60 = .ok (.if_icmp .eq 7, 3) := by decide +kernel
theorem d_M_publish_63 : decode b_M_publish 63 = .ok (.iconst 1, 1) := by decide +kernel
theorem d_M_publish_64 : decode b_M_publish 64 = .ok (.goto 4, 3) := by decide +kernel
theorem d_M_publish_67 : decode b_M_publish 67 = .ok (.iconst 0, 1) := by decide +kernel
theorem d_M_publish_68 : decode b_M_publish 68 = .ok (.iadd, 1) := by decide +kernel
theorem d_M_publish_69 : decode b_M_publish 69 = .ok (.istore_n 1, 1) := by decide +kernel
theorem d_M_publish_70 : decode b_M_publish 70 = .ok (.aload_n 0, 1) := by decide +kernel
theorem d_M_publish_71 : decode b_M_publish 71 = .ok (.getfield 25, 3) := by decide +kernel
theorem d_M_publish_74 : decode b_M_publish 74 = .ok (.iload_n 2, 1) := by decide +kernel
theorem d_M_publish_75 : decode b_M_publish 75 = .ok (.aload_n 0, 1) := by decide +kernel
theorem d_M_publish_76 : decode b_M_publish 76 = .ok (.getfield 16, 3) := by decide +kernel
theorem d_M_publish_79 : decode b_M_publish 79 = .ok (.iload_n 2, 1) := by decide +kernel
theorem d_M_publish_80 : decode b_M_publish 80 = .ok (.iaload, 1) := by decide +kernel
theorem d_M_publish_81 : decode b_M_publish 81 = .ok (.iastore, 1) := by decide +kernel
theorem d_M_publish_82 : decode b_M_publish 82 = .ok (.iinc 2 1, 3) := by decide +kernel
theorem d_M_publish_85 : decode b_M_publish 85 = .ok (.goto (-76), 3) := by decide +kernel
theorem d_M_publish_88 : decode b_M_publish 88 = .ok (.aload_n 0, 1) := by decide +kernel
theorem d_M_publish_89 : decode b_M_publish 89 = .ok (.dup, 1) := by decide +kernel
theorem d_M_publish_90 : decode b_M_publish 90 = .ok (.getfield 150, 3) := by decide +kernel
theorem d_M_publish_93 : decode b_M_publish 93 = .ok (.iconst 1, 1) := by decide +kernel
theorem d_M_publish_94 : decode b_M_publish 94 = .ok (.iadd, 1) := by decide +kernel
theorem d_M_publish_95 : decode b_M_publish 95 = .ok (.putfield 150, 3) := by decide +kernel
theorem d_M_publish_98 : decode b_M_publish 98 = .ok (.iload_n 1, 1) := by decide +kernel
theorem d_M_publish_99 : decode b_M_publish 99 = .ok (.ireturn, 1) := by decide +kernel
theorem d_M_count_0 : decode b_M_count 0 = .ok (.aload_n 0, 1) := by decide +kernel
theorem d_M_count_1 : decode b_M_count 1 = .ok (.iload_n 1, 1) := by decide +kernel
theorem d_M_count_2 : decode b_M_count 2 = .ok (.iconst 0, 1) := by decide +kernel
theorem d_M_count_3 : decode b_M_count 3 = .ok (.iconst 4, 1) := by decide +kernel
theorem d_M_count_4 : decode b_M_count 4 = .ok (.invokestatic 69, 3) := by decide +kernel
theorem d_M_count_7 : decode b_M_count 7 = .ok (.ifCond .ne 7, 3) := by decide +kernel
theorem d_M_count_10 : decode b_M_count 10 = .ok (.iconst 1, 1) := by decide +kernel
theorem d_M_count_11 : decode b_M_count 11 = .ok (.goto 4, 3) := by decide +kernel
theorem d_M_count_14 : decode b_M_count 14 = .ok (.iconst 0, 1) := by decide +kernel
theorem d_M_count_15 : decode b_M_count 15 = .ok (.iconst 0, 1) := by decide +kernel
theorem d_M_count_16 : decode b_M_count 16 = .ok (.iconst 0, 1) := by decide +kernel
theorem d_M_count_17 : decode b_M_count 17 = .ok (.iconst 0, 1) := by decide +kernel
theorem d_M_count_18 : decode b_M_count 18 = .ok (.invokevirtual 76, 3) := by decide +kernel
theorem d_M_count_21 : decode b_M_count 21 = .ok (.ifCond .eq 5, 3) := by decide +kernel
theorem d_M_count_24 : decode b_M_count 24 = .ok (.iconst 0, 1) := by decide +kernel
theorem d_M_count_25 : decode b_M_count 25 = .ok (.ireturn, 1) := by decide +kernel
theorem d_M_count_26 : decode b_M_count 26 = .ok (.iload_n 1, 1) := by decide +kernel
theorem d_M_count_27 : decode b_M_count 27 = .ok (.ifCond .ne 10, 3) := by decide +kernel
theorem d_M_count_30 : decode b_M_count 30 = .ok (.aload_n 0, 1) := by decide +kernel
theorem d_M_count_31 : decode b_M_count 31 = .ok (.getfield 66, 3) := by decide +kernel
theorem d_M_count_34 : decode b_M_count 34 = .ok (.goto 43, 3) := by decide +kernel
theorem d_M_count_37 : decode b_M_count 37 = .ok (.iload_n 1, 1) := by decide +kernel
theorem d_M_count_38 : decode b_M_count 38 = .ok (.iconst 1, 1) := by decide +kernel
theorem d_M_count_39 : decode b_M_count 39 = .ok (.if_icmp .ne 10, 3) := by decide +kernel
theorem d_M_count_42 : decode b_M_count 42 = .ok (.aload_n 0, 1) := by decide +kernel
theorem d_M_count_43 : decode b_M_count 43 = .ok (.getfield 73, 3) := by decide +kernel
theorem d_M_count_46 : decode b_M_count 46 = .ok (.goto 31, 3) := by decide +kernel
theorem d_M_count_49 : decode b_M_count 49 = .ok (.iload_n 1, 1) := by decide +kernel
theorem d_M_count_50 : decode b_M_count 50 = .ok (.iconst 2, 1) := by decide +kernel
theorem d_M_count_51 : decode b_M_count 51 = .ok (.if_icmp .ne 10, 3) := by decide +kernel
theorem d_M_count_54 : decode b_M_count 54 = .ok (.aload_n 0, 1) := by decide +kernel
theorem d_M_count_55 : decode b_M_count 55 = .ok (.getfield 83, 3) := by decide +kernel
theorem d_M_count_58 : decode b_M_count 58 = .ok (.goto 19, 3) := by decide +kernel
theorem d_M_count_61 : decode b_M_count 61 = .ok (.iload_n 1, 1) := by decide +kernel
theorem d_M_count_62 : decode b_M_count 62 = .ok (.iconst 3, 1) := by decide +kernel
theorem d_M_count_63 : decode b_M_count 63 = .ok (.if_icmp .ne 10, 3) := by decide +kernel
theorem d_M_count_66 : decode b_M_count 66 = .ok (.aload_n 0, 1) := by decide +kernel
theorem d_M_count_67 : decode b_M_count 67 = .ok (.getfield 80, 3) := by decide +kernel
theorem d_M_count_70 : decode b_M_count 70 = .ok (.goto 7, 3) := by decide +kernel
theorem d_M_count_73 : decode b_M_count 73 = .ok (.aload_n 0, 1) := by decide +kernel
theorem d_M_count_74 : decode b_M_count 74 = .ok (.getfield 150, 3) := by decide +kernel
theorem d_M_count_77 : decode b_M_count 77 = .ok (.ireturn, 1) := by decide +kernel
