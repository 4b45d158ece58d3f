theorem dX6_add_60 : decode cX6_add 60 = .ok (.ireturn, 1) := by decide +kernel
theorem dX6_inForce_0 : decode cX6_inForce 0 = .ok (.bipush (-9), 2) := by decide +kernel
theorem dX6_inForce_2 : decode cX6_inForce 2 = .ok (.istore 4, 2) := by decide +kernel
theorem dX6_inForce_4 : decode cX6_inForce 4 = .ok (.iconst 0, 1) := by decide +kernel
theorem dX6_inForce_5 : decode cX6_inForce 5 = .ok (.istore 5, 2) := by decide +kernel
theorem dX6_inForce_7 : decode cX6_inForce 7 = .ok (.iload 5, 2) := by decide +kernel
theorem dX6_inForce_9 : decode cX6_inForce 9 = .ok (.aload_n 0, 1) := by decide +kernel
theorem dX6_inForce_10 : decode cX6_inForce 10 = .ok (.getfield 9, 3) := by decide +kernel
theorem dX6_inForce_13 : decode cX6_inForce 13 = .ok (.if_icmp .ge 76, 3) := by decide +kernel
theorem dX6_inForce_16 : decode cX6_inForce 16 = .ok (.aload_n 0, 1) := by decide +kernel
theorem dX6_inForce_17 : decode cX6_inForce 17 = .ok (.getfield 22, 3) := by decide +kernel
theorem dX6_inForce_20 : decode cX6_inForce 20 = .ok (.iload 5, 2) := by decide +kernel
theorem dX6_inForce_22 : decode cX6_inForce 22 = .ok (.iaload, 1) := by decide +kernel
theorem dX6_inForce_23 : decode cX6_inForce 23 = .ok (.iload_n 1, 1) := by decide +kernel
theorem dX6_inForce_24 : decode cX6_inForce 24 = .ok (.if_icmp .ne 29, 3) := by decide +kernel
theorem dX6_inForce_27 : decode cX6_inForce 27 = .ok (.aload_n 0, 1) := by decide +kernel
theorem dX6_inForce_28 : decode cX6_inForce 28 = .ok (.getfield 28, 3) := by decide +kernel
theorem dX6_inForce_31 : decode cX6_inForce 31 = .ok (.iload 5, 2) := by decide +kernel
theorem dX6_inForce_33 : decode cX6_inForce 33 = .ok (.iaload, 1) := by decide +kernel
theorem dX6_inForce_34 : decode cX6_inForce 34 = .ok (.iload_n 3, 1) := by decide +kernel
theorem dX6_inForce_35 : decode cX6_inForce 35 = .ok (.if_icmp .gt 18, 3) := by decide +kernel
theorem dX6_inForce_38 : decode cX6_inForce 38 = .ok (.aload_n 0, 1) := by decide +kernel
theorem dX6_inForce_39 : decode cX6_inForce 39 = .ok (.getfield 25, 3) := by decide +kernel
theorem dX6_inForce_42 : decode cX6_inForce 42 = .ok (.iload 5, 2) := by decide +kernel
theorem dX6_inForce_44 : decode cX6_inForce 44 = .ok (.iaload, 1) := by decide +kernel
theorem dX6_inForce_45 : decode cX6_inForce 45 = .ok (.iload_n 2, 1) := by decide +kernel
theorem dX6_inForce_46 : decode cX6_inForce 46 = .ok (.if_icmp .gt 7, 3) := by decide +kernel
theorem dX6_inForce_49 : decode cX6_inForce 49 = .ok (.iconst 1, 1) := by decide +kernel
theorem dX6_inForce_50 : decode cX6_inForce 50 = .ok (.goto 4, 3) := by decide +kernel
theorem dX6_inForce_53 : decode cX6_inForce 53 = .ok (.iconst 0, 1) := by decide +kernel
theorem dX6_inForce_54 : decode cX6_inForce 54 = .ok (.istore 6, 2) := by decide +kernel
theorem dX6_inForce_56 : decode cX6_inForce 56 = .ok (.iload 6, 2) := by decide +kernel
theorem dX6_inForce_58 : decode cX6_inForce 58 = .ok (.ifCond .eq 25, 3) := by decide +kernel
theorem dX6_inForce_61 : decode cX6_inForce 61 = .ok (.iload 4, 2) := by decide +kernel
theorem dX6_inForce_63 : decode cX6_inForce 63 = .ok (.bipush (-9), 2) := by decide +kernel
theorem dX6_inForce_65 : decode cX6_inForce 65 = .ok (.if_icmp .eq 14, 3) := by decide +kernel
theorem dX6_inForce_68 : decode cX6_inForce 68 = .ok (.aload_n 0, 1) := by decide +kernel
theorem dX6_inForce_69 : decode cX6_inForce 69 = .ok (.iload 4, 2) := by decide +kernel
theorem dX6_inForce_71 : decode cX6_inForce 71 = .ok (.iload 5, 2) := by decide +kernel
theorem dX6_inForce_73 : decode cX6_inForce 73 = .ok (.invokevirtual 31, 3) := by decide +kernel
theorem dX6_inForce_76 : decode cX6_inForce 76 = .ok (.ifCond .ne 7, 3) := by decide +kernel
theorem dX6_inForce_79 : decode cX6_inForce 79 = .ok (.iload 5, 2) := by decide +kernel
theorem dX6_inForce_81 : decode cX6_inForce 81 = .ok (.istore 4, 2) := by decide +kernel
theorem dX6_inForce_83 : decode cX6_inForce 83 = .ok (.iinc 5 1, 3) := by decide +kernel
theorem dX6_inForce_86 : decode cX6_inForce 86 = .ok (.goto (-79), 3) := by decide +kernel
theorem dX6_inForce_89 : decode cX6_inForce 89 = .ok (.iload 4, 2) := by decide +kernel
theorem dX6_inForce_91 : decode cX6_inForce 91 = .ok (.ireturn, 1) := by decide +kernel
theorem dX6_goesBefore_0 : decode cX6_goesBefore 0 = .ok (.aload_n 0, 1) := by decide +kernel
theorem dX6_goesBefore_1 : decode cX6_goesBefore 1 = .ok (.getfield 25, 3) := by decide +kernel
theorem dX6_goesBefore_4 : decode cX6_goesBefore 4 = .ok (.iload_n 1, 1) := by decide +kernel
theorem dX6_goesBefore_5 : decode cX6_goesBefore 5 = .ok (.iaload, 1) := by decide +kernel
theorem dX6_goesBefore_6 : decode cX6_goesBefore 6 = .ok (.aload_n 0, 1) := by decide +kernel
theorem dX6_goesBefore_7 : decode cX6_goesBefore 7 = .ok (.getfield 25, 3) := by decide +kernel
theorem dX6_goesBefore_10 : decode cX6_goesBefore 10 = .ok (.iload_n 2, 1) := by decide +kernel
theorem dX6_goesBefore_11 : decode cX6_goesBefore 11 = .ok (.iaload, 1) := by decide +kernel
theorem dX6_goesBefore_12 : decode cX6_goesBefore 12 = .ok (.if_icmp .eq 24, 3) := by decide +kernel
theorem dX6_goesBefore_15 : decode cX6_goesBefore 15 = .ok (.aload_n 0, 1) := by decide +kernel
theorem dX6_goesBefore_16 : decode cX6_goesBefore 16 = .ok (.getfield 25, 3) := by decide +kernel
theorem dX6_goesBefore_19 : decode cX6_goesBefore 19 = .ok (.iload_n 1, 1) := by decide +kernel
theorem dX6_goesBefore_20 : decode cX6_goesBefore 20 = .ok (.iaload, 1) := by decide +kernel
theorem dX6_goesBefore_21 : decode cX6_goesBefore 21 = .ok (.aload_n 0, 1) := by decide +kernel
theorem dX6_goesBefore_22 : decode cX6_goesBefore 22 = .ok (.getfield 25, 3) := by decide +kernel
theorem dX6_goesBefore_25 : decode cX6_goesBefore 25 = .ok (.iload_n 2, 1) := by decide +kernel
theorem dX6_goesBefore_26 : decode cX6_goesBefore 26 = .ok (.iaload, 1) := by decide +kernel
theorem dX6_goesBefore_27 : decode cX6_goesBefore 27 = .ok (.if_icmp .le 7, 3) := by decide +kernel
theorem dX6_goesBefore_30 : decode cX6_goesBefore 30 = .ok (.iconst 1, 1) := by decide +kernel
theorem dX6_goesBefore_31 : decode cX6_goesBefore 31 = .ok (.goto 4, 3) := by decide +kernel
theorem dX6_goesBefore_34 : decode cX6_goesBefore 34 = .ok (.iconst 0, 1) := by decide +kernel
theorem dX6_goesBefore_35 : decode cX6_goesBefore 35 = .ok (.ireturn, 1) := by decide +kernel
theorem dX6_goesBefore_36 : decode cX6_goesBefore 36 = .ok (.aload_n 0, 1) := by decide +kernel
theorem dX6_goesBefore_37 : decode cX6_goesBefore 37 = .ok (.getfield 28, 3) := by decide +kernel
theorem dX6_goesBefore_40 : decode cX6_goesBefore 40 = .ok (.iload_n 1, 1) := by decide +kernel
theorem dX6_goesBefore_41 : decode cX6_goesBefore 41 = .ok (.iaload, 1) := by decide +kernel
theorem dX6_goesBefore_42 : decode cX6_goesBefore 42 = .ok (.aload_n 0, 1) := by decide +kernel
theorem dX6_goesBefore_43 : decode cX6_goesBefore 43 = .ok (.getfield 28, 3) := by decide +kernel
theorem dX6_goesBefore_46 : decode cX6_goesBefore 46 = .ok (.iload_n 2, 1) := by decide +kernel
theorem dX6_goesBefore_47 : decode cX6_goesBefore 47 = .ok (.iaload, 1) := by decide +kernel
theorem dX6_goesBefore_48 : decode cX6_goesBefore 48 = .ok (.if_icmp .le 7, 3) := by decide +kernel
theorem dX6_goesBefore_51 : decode cX6_goesBefore 51 = .ok (.iconst 1, 1) := by decide +kernel
theorem dX6_goesBefore_52 : decode cX6_goesBefore 52 = .ok (.goto 4, 3) := by decide +kernel
theorem dX6_goesBefore_55 : decode cX6_goesBefore 55 = .ok (.iconst 0, 1) := by decide +kernel
theorem dX6_goesBefore_56 : decode cX6_goesBefore 56 = .ok (.ireturn, 1) := by decide +kernel
theorem dX7_init_0 : decode cX7_init 0 = .ok (.aload_n 0, 1) := by decide +kernel
theorem dX7_init_1 : decode cX7_init 1 = .ok (.invokespecial 3, 3) := by decide +kernel
theorem dX7_init_4 : decode cX7_init 4 = .ok (.aload_n 0, 1) := by decide +kernel
theorem dX7_init_5 : decode cX7_init 5 = .ok (.iconst 0, 1) := by decide +kernel
theorem dX7_init_6 : decode cX7_init 6 = .ok (.putfield 9, 3) := by decide +kernel
theorem dX7_init_9 : decode cX7_init 9 = .ok (.aload_n 0, 1) := by decide +kernel
theorem dX7_init_10 : decode cX7_init 10 = .ok (.bipush 20, 2) := by decide +kernel
theorem dX7_init_12 : decode cX7_init 12 = .ok (.newarray .int, 2) := by decide +kernel
theorem dX7_init_14 : decode cX7_init 14 = .ok (.putfield 15, 3) := by decide +kernel
theorem dX7_init_17 : decode cX7_init 17 = .ok (.return_, 1) := by decide +kernel
theorem dX7_standsOn_0 : decode cX7_standsOn 0 = .ok (.aload_n 0, 1) := by decide +kernel
theorem dX7_standsOn_1 : decode cX7_standsOn 1 = .ok (.getfield 15, 3) := by decide +kernel
theorem dX7_standsOn_4 : decode cX7_standsOn 4 = .ok (.iload_n 1, 1) := by decide +kernel
theorem dX7_standsOn_5 : decode cX7_standsOn 5 = .ok (.iaload, 1) := by decide +kernel
theorem dX7_standsOn_6 : decode cX7_standsOn 6 = .ok (.ifCond .le 7, 3) := by decide +kernel
theorem dX7_standsOn_9 : decode cX7_standsOn 9 = .ok (.iconst 1, 1) := by decide +kernel
theorem dX7_standsOn_10 : decode cX7_standsOn 10 = .ok (.goto 4, 3) := by decide +kernel
theorem dX7_standsOn_13 : decode cX7_standsOn 13 = .ok (.iconst 0, 1) := by decide +kernel
theorem dX7_standsOn_14 : decode cX7_standsOn 14 = .ok (.ireturn, 1) := by decide +kernel
theorem dX7_countStanding_0 : decode cX7_countStanding 0 = .ok (.iconst 0, 1) := by decide +kernel
theorem dX7_countStanding_1 : decode cX7_countStanding 1 = .ok (.istore_n 1, 1) := by decide +kernel
theorem dX7_countStanding_2 : decode cX7_countStanding 2 = .ok (.iconst 0, 1) := by decide +kernel
theorem dX7_countStanding_3 : decode cX7_countStanding 3 = .ok (.istore_n 2, 1) := by decide +kernel
theorem dX7_countStanding_4 : decode cX7_countStanding 4 = .ok (.iload_n 2, 1) := by decide +kernel
theorem dX7_countStanding_5 : decode cX7_countStanding 5 = .ok (.bipush 20, 2) := by decide +kernel
theorem dX7_countStanding_7 : decode cX7_countStanding 7 = .ok (.if_icmp .ge 20, 3) := by decide +kernel
theorem dX7_countStanding_10 : decode cX7_countStanding 10 = .ok (.aload_n 0, 1) := by decide +kernel
theorem dX7_countStanding_11 : decode cX7_countStanding 11 = .ok (.iload_n 2, 1) := by decide +kernel
theorem dX7_countStanding_12 : decode cX7_countStanding 12 = .ok (.invokevirtual 19, 3) := by decide +kernel
theorem dX7_countStanding_15 : decode cX7_countStanding 15 = .ok (.ifCond .eq 6, 3) := by decide +kernel
theorem dX7_countStanding_18 : decode cX7_countStanding 18 = .ok (.iinc 1 1, 3) := by decide +kernel
theorem dX7_countStanding_21 : decode cX7_countStanding 21 = .ok (.iinc 2 1, 3) := by decide +kernel
theorem dX7_countStanding_24 : decode cX7_countStanding 24 = .ok (.goto (-20), 3) := by decide +kernel
theorem dX7_countStanding_27 : decode cX7_countStanding 27 = .ok (.iload_n 1, 1) := by decide +kernel
theorem dX7_countStanding_28 : decode cX7_countStanding 28 = .ok (.ireturn, 1) := by decide +kernel
theorem dX7_passDay_0 : decode cX7_passDay 0 = .ok (.iconst 0, 1) := by decide +kernel
theorem dX7_passDay_1 : decode cX7_passDay 1 = .ok (.istore_n 2, 1) := by decide +kernel
theorem dX7_passDay_2 : decode cX7_passDay 2 = .ok (.iload_n 2, 1) := by decide +kernel
theorem dX7_passDay_3 : decode cX7_passDay 3 = .ok (.bipush 20, 2) := by decide +kernel
theorem dX7_passDay_5 : decode cX7_passDay 5 = .ok (.if_icmp .ge 26, 3) := by decide +kernel
theorem dX7_passDay_8 : decode cX7_passDay 8 = .ok (.aload_n 0, 1) := by decide +kernel
theorem dX7_passDay_9 : decode cX7_passDay 9 = .ok (.dup, 1) := by decide +kernel
theorem dX7_passDay_10 : decode cX7_passDay 10 = .ok (.getfield 9, 3) := by decide +kernel
theorem dX7_passDay_13 : decode cX7_passDay 13 = .ok (.aload_n 0, 1) := by decide +kernel
theorem dX7_passDay_14 : decode cX7_passDay 14 = .ok (.getfield 15, 3) := by decide +kernel
theorem dX7_passDay_17 : decode cX7_passDay 17 = .ok (.iload_n 2, 1) := by decide +kernel
theorem dX7_passDay_18 : decode cX7_passDay 18 = .ok (.iaload, 1) := by decide +kernel
theorem dX7_passDay_19 : decode cX7_passDay 19 = .ok (.iload_n 1, 1) := by decide +kernel
theorem dX7_passDay_20 : decode cX7_passDay 20 = .ok (.imul, 1) := by decide +kernel
theorem dX7_passDay_21 : decode cX7_passDay 21 = .ok (.iadd, 1) := by decide +kernel
theorem dX7_passDay_22 : decode cX7_passDay 22 = .ok (.putfield 9, 3) := by decide +kernel
theorem dX7_passDay_25 : decode cX7_passDay 25 = .ok (.iinc 2 1, 3) := by decide +kernel
theorem dX7_passDay_28 : decode cX7_passDay 28 = .ok (.goto (-26), 3) := by decide +kernel
theorem dX7_passDay_31 : decode cX7_passDay 31 = .ok (.return_, 1) := by decide +kernel
theorem dX8_init_0 : decode cX8_init 0 = .ok (.aload_n 0, 1) := by decide +kernel
theorem dX8_init_1 : decode cX8_init 1 = .ok (.invokespecial 3, 3) := by decide +kernel
theorem dX8_init_4 : decode cX8_init 4 = .ok (.aload_n 0, 1) := by decide +kernel
theorem dX8_init_5 : decode cX8_init 5 = .ok (.iconst 0, 1) := by decide +kernel
theorem dX8_init_6 : decode cX8_init 6 = .ok (.putfield 9, 3) := by decide +kernel
theorem dX8_init_9 : decode cX8_init 9 = .ok (.aload_n 0, 1) := by decide +kernel
theorem dX8_init_10 : decode cX8_init 10 = .ok (.bipush 24, 2) := by decide +kernel
theorem dX8_init_12 : decode cX8_init 12 = .ok (.newarray .int, 2) := by decide +kernel
theorem dX8_init_14 : decode cX8_init 14 = .ok (.putfield 15, 3) := by decide +kernel
theorem dX8_init_17 : decode cX8_init 17 = .ok (.aload_n 0, 1) := by decide +kernel
theorem dX8_init_18 : decode cX8_init 18 = .ok (.bipush 24, 2) := by decide +kernel
theorem dX8_init_20 : decode cX8_init 20 = .ok (.newarray .int, 2) := by decide +kernel
theorem dX8_init_22 : decode cX8_init 22 = .ok (.putfield 19, 3) := by decide +kernel
theorem dX8_init_25 : decode cX8_init 25 = .ok (.return_, 1) := by decide +kernel
theorem dX8_add_0 : decode cX8_add 0 = .ok (.aload_n 0, 1) := by decide +kernel
theorem dX8_add_1 : decode cX8_add 1 = .ok (.getfield 9, 3) := by decide +kernel
theorem dX8_add_4 : decode cX8_add 4 = .ok (.istore_n 3, 1) := by decide +kernel
theorem dX8_add_5 : decode cX8_add 5 = .ok (.aload_n 0, 1) := by decide +kernel
theorem dX8_add_6 : decode cX8_add 6 = .ok (.getfield 15, 3) := by decide +kernel
theorem dX8_add_9 : decode cX8_add 9 = .ok (.iload_n 3, 1) := by decide +kernel
theorem dX8_add_10 : decode cX8_add 10 = .ok (.iload_n 1, 1) := by decide +kernel
theorem dX8_add_11 : decode cX8_add 11 = .ok (.iastore, 1) := by decide +kernel
theorem dX8_add_12 : decode cX8_add 12 = .ok (.aload_n 0, 1) := by decide +kernel
theorem dX8_add_13 : decode cX8_add 13 = .ok (.getfield 19, 3) := by decide +kernel
theorem dX8_add_16 : decode cX8_add 16 = .ok (.iload_n 3, 1) := by decide +kernel
theorem dX8_add_17 : decode cX8_add 17 = .ok (.iload_n 2, 1) := by decide +kernel
theorem dX8_add_18 : decode cX8_add 18 = .ok (.iastore, 1) := by decide +kernel
theorem dX8_add_19 : decode cX8_add 19 = .ok (.aload_n 0, 1) := by decide +kernel
theorem dX8_add_20 : decode cX8_add 20 = .ok (.dup, 1) := by decide +kernel
theorem dX8_add_21 : decode cX8_add 21 = .ok (.getfield 9, 3) := by decide +kernel
theorem dX8_add_24 : decode cX8_add 24 = .ok (.iconst 1, 1) := by decide +kernel
theorem dX8_add_25 : decode cX8_add 25 = .ok (.iadd, 1) := by decide +kernel
theorem dX8_add_26 : decode cX8_add 26 = .ok (.putfield 9, 3) := by decide +kernel
theorem dX8_add_29 : decode cX8_add 29 = .ok (.iload_n 3, 1) := by decide +kernel
theorem dX8_add_30 : decode cX8_add 30 = .ok (.ireturn, 1) := by decide +kernel
theorem dX8_clearFrom_0 : decode cX8_clearFrom 0 = .ok (.iload_n 3, 1) := by decide +kernel
theorem dX8_clearFrom_1 : decode cX8_clearFrom 1 = .ok (.istore 5, 2) := by decide +kernel
theorem dX8_clearFrom_3 : decode cX8_clearFrom 3 = .ok (.iload_n 1, 1) := by decide +kernel
theorem dX8_clearFrom_4 : decode cX8_clearFrom 4 = .ok (.istore 6, 2) := by decide +kernel
theorem dX8_clearFrom_6 : decode cX8_clearFrom 6 = .ok (.iload 6, 2) := by decide +kernel
theorem dX8_clearFrom_8 : decode cX8_clearFrom 8 = .ok (.iload_n 2, 1) := by decide +kernel
theorem dX8_clearFrom_9 : decode cX8_clearFrom 9 = .ok (.if_icmp .gt 107, 3) := by decide +kernel
theorem dX8_clearFrom_12 : decode cX8_clearFrom 12 = .ok (.iload 6, 2) := by decide +kernel
theorem dX8_clearFrom_14 : decode cX8_clearFrom 14 = .ok (.iload_n 1, 1) := by decide +kernel
theorem dX8_clearFrom_15 : decode cX8_clearFrom 15 = .ok (.isub, 1) := by decide +kernel
theorem dX8_clearFrom_16 : decode cX8_clearFrom 16 = .ok (.iload 4, 2) := by decide +kernel
theorem dX8_clearFrom_18 : decode cX8_clearFrom 18 = .ok (.imul, 1) := by decide +kernel
theorem dX8_clearFrom_19 : decode cX8_clearFrom 19 = .ok (.istore 7, 2) := by decide +kernel
theorem dX8_clearFrom_21 : decode cX8_clearFrom 21 = .ok (.iload_n 3, 1) := by decide +kernel
theorem dX8_clearFrom_22 : decode cX8_clearFrom 22 = .ok (.iload 7, 2) := by decide +kernel
theorem dX8_clearFrom_24 : decode cX8_clearFrom 24 = .ok (.iadd, 1) := by decide +kernel
theorem dX8_clearFrom_25 : decode cX8_clearFrom 25 = .ok (.iconst 5, 1) := by decide +kernel
theorem dX8_clearFrom_26 : decode cX8_clearFrom 26 = .ok (.isub, 1) := by decide +kernel
theorem dX8_clearFrom_27 : decode cX8_clearFrom 27 = .ok (.istore 8, 2) := by decide +kernel
theorem dX8_clearFrom_29 : decode cX8_clearFrom 29 = .ok (.iload_n 3, 1) := by decide +kernel
theorem dX8_clearFrom_30 : decode cX8_clearFrom 30 = .ok (.iload 7, 2) := by decide +kernel
theorem dX8_clearFrom_32 : decode cX8_clearFrom 32 = .ok (.iadd, 1) := by decide +kernel
theorem dX8_clearFrom_33 : decode cX8_clearFrom 33 = .ok (.iload 4, 2) := by decide +kernel
theorem dX8_clearFrom_35 : decode cX8_clearFrom 35 = .ok (.iadd, 1) := by decide +kernel
theorem dX8_clearFrom_36 : decode cX8_clearFrom 36 = .ok (.iconst 1, 1) := by decide +kernel
theorem dX8_clearFrom_37 : decode cX8_clearFrom 37 = .ok (.isub, 1) := by decide +kernel
theorem dX8_clearFrom_38 : decode cX8_clearFrom 38 = .ok (.iconst 5, 1) := by decide +kernel
theorem dX8_clearFrom_39 : decode cX8_clearFrom 39 = .ok (.iadd, 1) := by decide +kernel
theorem dX8_clearFrom_40 : decode cX8_clearFrom 40 = .ok (.istore 9, 2) := by decide +kernel
theorem dX8_clearFrom_42 : decode cX8_clearFrom 42 = .ok (.iconst 0, 1) := by decide +kernel
theorem dX8_clearFrom_43 : decode cX8_clearFrom 43 = .ok (.istore 10, 2) := by decide +kernel
theorem dX8_clearFrom_45 : decode cX8_clearFrom 45 = .ok (.iload 10, 2) := by decide +kernel
theorem dX8_clearFrom_47 : decode cX8_clearFrom 47 = .ok (.aload_n 0, 1) := by decide +kernel
theorem dX8_clearFrom_48 : decode cX8_clearFrom 48 = .ok (.getfield 9, 3) := by decide +kernel
theorem dX8_clearFrom_51 : decode cX8_clearFrom 51 = .ok (.if_icmp .ge 59, 3) := by decide +kernel
theorem dX8_clearFrom_54 : decode cX8_clearFrom 54 = .ok (.aload_n 0, 1) := by decide +kernel
theorem dX8_clearFrom_55 : decode cX8_clearFrom 55 = .ok (.getfield 15, 3) := by decide +kernel
theorem dX8_clearFrom_58 : decode cX8_clearFrom 58 = .ok (.iload 10, 2) := by decide +kernel
theorem dX8_clearFrom_60 : decode cX8_clearFrom 60 = .ok (.iaload, 1) := by decide +kernel
theorem dX8_clearFrom_61 : decode cX8_clearFrom 61 = .ok (.aload_n 0, 1) := by decide +kernel
theorem dX8_clearFrom_62 : decode cX8_clearFrom 62 = .ok (.getfield 19, 3) := by decide +kernel
theorem dX8_clearFrom_65 : decode cX8_clearFrom 65 = .ok (.iload 10, 2) := by decide +kernel
theorem dX8_clearFrom_67 : decode cX8_clearFrom 67 = .ok (.iaload, 1) := by decide +kernel
theorem dX8_clearFrom_68 : decode cX8_clearFrom 68 = .ok (.iload 6, 2) := by decide +kernel
theorem dX8_clearFrom_70 : decode cX8_clearFrom 70 = .ok (.imul, 1) := by decide +kernel
theorem dX8_clearFrom_71 : decode cX8_clearFrom 71 = .ok (.iadd, 1) := by decide +kernel
theorem dX8_clearFrom_72 : decode cX8_clearFrom 72 = .ok (.istore 11, 2) := by decide +kernel
theorem dX8_clearFrom_74 : decode cX8_clearFrom 74 = .ok (.iload 11, 2) := by decide +kernel
theorem dX8_clearFrom_76 : decode cX8_clearFrom 76 = .ok (.iload 8, 2) := by decide +kernel
theorem dX8_clearFrom_78 : decode cX8_clearFrom 78 = .ok (.if_icmp .lt 26, 3) := by decide +kernel
theorem dX8_clearFrom_81 : decode cX8_clearFrom 81 = .ok (.iload 11, 2) := by decide +kernel
theorem dX8_clearFrom_83 : decode cX8_clearFrom 83 = .ok (.iload 9, 2) := by decide +kernel
theorem dX8_clearFrom_85 : decode cX8_clearFrom 85 = .ok (.if_icmp .gt 19, 3) := by decide +kernel
theorem dX8_clearFrom_88 : decode cX8_clearFrom 88 = .ok (.iload 5, 2) := by decide +kernel
theorem dX8_clearFrom_90 : decode cX8_clearFrom 90 = .ok (.iload 11, 2) := by decide +kernel
theorem dX8_clearFrom_92 : decode cX8_clearFrom 92 = .ok (.iconst 5, 1) := by decide +kernel
theorem dX8_clearFrom_93 : decode cX8_clearFrom 93 = .ok (.iadd, 1) := by decide +kernel
theorem dX8_clearFrom_94 : decode cX8_clearFrom 94 = .ok (.iconst 1, 1) := by decide +kernel
theorem dX8_clearFrom_95 : decode cX8_clearFrom 95 = .ok (.iadd, 1) := by decide +kernel
theorem dX8_clearFrom_96 : decode cX8_clearFrom 96 = .ok (.iload 7, 2) := by decide +kernel
theorem dX8_clearFrom_98 : decode cX8_clearFrom 98 = .ok (.isub, 1) := by decide +kernel
theorem dX8_clearFrom_99 : decode cX8_clearFrom 99 = .ok (.invokestatic 22, 3) := by decide +kernel
theorem dX8_clearFrom_102 : decode cX8_clearFrom 102 = .ok (.istore 5, 2) := by decide +kernel
theorem dX8_clearFrom_104 : decode cX8_clearFrom 104 = .ok (.iinc 10 1, 3) := by decide +kernel
theorem dX8_clearFrom_107 : decode cX8_clearFrom 107 = .ok (.goto (-62), 3) := by decide +kernel
theorem dX8_clearFrom_110 : decode cX8_clearFrom 110 = .ok (.iinc 6 1, 3) := by decide +kernel
theorem dX8_clearFrom_113 : decode cX8_clearFrom 113 = .ok (.goto (-107), 3) := by decide +kernel
theorem dX8_clearFrom_116 : decode cX8_clearFrom 116 = .ok (.iload 5, 2) := by decide +kernel
theorem dX8_clearFrom_118 : decode cX8_clearFrom 118 = .ok (.ireturn, 1) := by decide +kernel
theorem dX8_firstSafe_0 : decode cX8_firstSafe 0 = .ok (.sipush 1440, 3) := by decide +kernel
theorem dX8_firstSafe_3 : decode cX8_firstSafe 3 = .ok (.iload_n 2, 1) := by decide +kernel
theorem dX8_firstSafe_4 : decode cX8_firstSafe 4 = .ok (.iload_n 1, 1) := by decide +kernel
theorem dX8_firstSafe_5 : decode cX8_firstSafe 5 = .ok (.isub, 1) := by decide +kernel
theorem dX8_firstSafe_6 : decode cX8_firstSafe 6 = .ok (.iconst 1, 1) := by decide +kernel
theorem dX8_firstSafe_7 : decode cX8_firstSafe 7 = .ok (.iadd, 1) := by decide +kernel
theorem dX8_firstSafe_8 : decode cX8_firstSafe 8 = .ok (.iload 4, 2) := by decide +kernel
theorem dX8_firstSafe_10 : decode cX8_firstSafe 10 = .ok (.imul, 1) := by decide +kernel
theorem dX8_firstSafe_11 : decode cX8_firstSafe 11 = .ok (.isub, 1) := by decide +kernel
theorem dX8_firstSafe_12 : decode cX8_firstSafe 12 = .ok (.istore 5, 2) := by decide +kernel
theorem dX8_firstSafe_14 : decode cX8_firstSafe 14 = .ok (.iload_n 3, 1) := by decide +kernel
theorem dX8_firstSafe_15 : decode cX8_firstSafe 15 = .ok (.istore 6, 2) := by decide +kernel
theorem dX8_firstSafe_17 : decode cX8_firstSafe 17 = .ok (.iconst 0, 1) := by decide +kernel
theorem dX8_firstSafe_18 : decode cX8_firstSafe 18 = .ok (.istore 7, 2) := by decide +kernel
theorem dX8_firstSafe_20 : decode cX8_firstSafe 20 = .ok (.iload 7, 2) := by decide +kernel
theorem dX8_firstSafe_22 : decode cX8_firstSafe 22 = .ok (.sipush 1440, 3) := by decide +kernel
theorem dX8_firstSafe_25 : decode cX8_firstSafe 25 = .ok (.if_icmp .ge 42, 3) := by decide +kernel
theorem dX8_firstSafe_28 : decode cX8_firstSafe 28 = .ok (.iload 6, 2) := by decide +kernel
theorem dX8_firstSafe_30 : decode cX8_firstSafe 30 = .ok (.iload 5, 2) := by decide +kernel
theorem dX8_firstSafe_32 : decode cX8_firstSafe 32 = .ok (.if_icmp .gt 35, 3) := by decide +kernel
theorem dX8_firstSafe_35 : decode cX8_firstSafe 35 = .ok (.aload_n 0, 1) := by decide +kernel
theorem dX8_firstSafe_36 : decode cX8_firstSafe 36 = .ok (.iload_n 1, 1) := by decide +kernel
theorem dX8_firstSafe_37 : decode cX8_firstSafe 37 = .ok (.iload_n 2, 1) := by decide +kernel
theorem dX8_firstSafe_38 : decode cX8_firstSafe 38 = .ok (.iload 6, 2) := by decide +kernel
theorem dX8_firstSafe_40 : decode cX8_firstSafe 40 = .ok (.iload 4, 2) := by decide +kernel
theorem dX8_firstSafe_42 : decode cX8_firstSafe 42 = .ok (.invokevirtual 28, 3) := by decide +kernel
theorem dX8_firstSafe_45 : decode cX8_firstSafe 45 = .ok (.istore 8, 2) := by decide +kernel
theorem dX8_firstSafe_47 : decode cX8_firstSafe 47 = .ok (.iload 8, 2) := by decide +kernel
theorem dX8_firstSafe_49 : decode cX8_firstSafe 49 = .ok (.iload 6, 2) := by decide +kernel
theorem dX8_firstSafe_51 : decode cX8_firstSafe 51 = .ok (.if_icmp .ne 6, 3) := by decide +kernel
theorem dX8_firstSafe_54 : decode cX8_firstSafe 54 = .ok (.iload 6, 2) := by decide +kernel
theorem dX8_firstSafe_56 : decode cX8_firstSafe 56 = .ok (.ireturn, 1) := by decide +kernel
theorem dX8_firstSafe_57 : decode cX8_firstSafe 57 = .ok (.iload 8, 2) := by decide +kernel
theorem dX8_firstSafe_59 : decode cX8_firstSafe 59 = .ok (.istore 6, 2) := by decide +kernel
theorem dX8_firstSafe_61 : decode cX8_firstSafe 61 = .ok (.iinc 7 1, 3) := by decide +kernel
theorem dX8_firstSafe_64 : decode cX8_firstSafe 64 = .ok (.goto (-44), 3) := by decide +kernel
theorem dX8_firstSafe_67 : decode cX8_firstSafe 67 = .ok (.bipush (-9), 2) := by decide +kernel
theorem dX8_firstSafe_69 : decode cX8_firstSafe 69 = .ok (.ireturn, 1) := by decide +kernel
theorem dX9_init_0 : decode cX9_init 0 = .ok (.aload_n 0, 1) := by decide +kernel
theorem dX9_init_1 : decode cX9_init 1 = .ok (.invokespecial 1, 3) := by decide +kernel
theorem dX9_init_4 : decode cX9_init 4 = .ok (.aload_n 0, 1) := by decide +kernel
theorem dX9_init_5 : decode cX9_init 5 = .ok (.iconst 0, 1) := by decide +kernel
theorem dX9_init_6 : decode cX9_init 6 = .ok (.putfield 7, 3) := by decide +kernel
theorem dX9_init_9 : decode cX9_init 9 = .ok (.aload_n 0, 1) := by decide +kernel
theorem dX9_init_10 : decode cX9_init 10 = .ok (.bipush 7, 2) := by decide +kernel
theorem dX9_init_12 : decode cX9_init 12 = .ok (.newarray .int, 2) := by decide +kernel
theorem dX9_init_14 : decode cX9_init 14 = .ok (.putfield 13, 3) := by decide +kernel
theorem dX9_init_17 : decode cX9_init 17 = .ok (.aload_n 0, 1) := by decide +kernel
theorem dX9_init_18 : decode cX9_init 18 = .ok (.iconst 4, 1) := by decide +kernel
theorem dX9_init_19 : decode cX9_init 19 = .ok (.newarray .int, 2) := by decide +kernel
theorem dX9_init_21 : decode cX9_init 21 = .ok (.dup, 1) := by decide +kernel
theorem dX9_init_22 : decode cX9_init 22 = .ok (.iconst 0, 1) := by decide +kernel
theorem dX9_init_23 : decode cX9_init 23 = .ok (.bipush 10, 2) := by decide +kernel
theorem dX9_init_25 : decode cX9_init 25 = .ok (.iastore, 1) := by decide +kernel
theorem dX9_init_26 : decode cX9_init 26 = .ok (.dup, 1) := by decide +kernel
theorem dX9_init_27 : decode cX9_init 27 = .ok (.iconst 1, 1) := by decide +kernel
theorem dX9_init_28 : decode cX9_init 28 = .ok (.bipush 30, 2) := by decide +kernel
theorem dX9_init_30 : decode cX9_init 30 = .ok (.iastore, 1) := by decide +kernel
theorem dX9_init_31 : decode cX9_init 31 = .ok (.dup, 1) := by decide +kernel
theorem dX9_init_32 : decode cX9_init 32 = .ok (.iconst 2, 1) := by decide +kernel
theorem dX9_init_33 : decode cX9_init 33 = .ok (.bipush 40, 2) := by decide +kernel
theorem dX9_init_35 : decode cX9_init 35 = .ok (.iastore, 1) := by decide +kernel
theorem dX9_init_36 : decode cX9_init 36 = .ok (.dup, 1) := by decide +kernel
theorem dX9_init_37 : decode cX9_init 37 = .ok (.iconst 3, 1) := by decide +kernel
theorem dX9_init_38 : decode cX9_init 38 = .ok (.bipush 10, 2) := by decide +kernel
theorem dX9_init_40 : decode cX9_init 40 = .ok (.iastore, 1) := by decide +kernel
theorem dX9_init_41 : decode cX9_init 41 = .ok (.putfield 17, 3) := by decide +kernel
theorem dX9_init_44 : decode cX9_init 44 = .ok (.aload_n 0, 1) := by decide +kernel
theorem dX9_init_45 : decode cX9_init 45 = .ok (.iconst 4, 1) := by decide +kernel
theorem dX9_init_46 : decode cX9_init 46 = .ok (.newarray .int, 2) := by decide +kernel
theorem dX9_init_48 : decode cX9_init 48 = .ok (.dup, 1) := by decide +kernel
theorem dX9_init_49 : decode cX9_init 49 = .ok (.iconst 0, 1) := by decide +kernel
theorem dX9_init_50 : decode cX9_init 50 = .ok (.bipush 10, 2) := by decide +kernel
theorem dX9_init_52 : decode cX9_init 52 = .ok (.iastore, 1) := by decide +kernel
theorem dX9_init_53 : decode cX9_init 53 = .ok (.dup, 1) := by decide +kernel
theorem dX9_init_54 : decode cX9_init 54 = .ok (.iconst 1, 1) := by decide +kernel
theorem dX9_init_55 : decode cX9_init 55 = .ok (.bipush 10, 2) := by decide +kernel
theorem dX9_init_57 : decode cX9_init 57 = .ok (.iastore, 1) := by decide +kernel
theorem dX9_init_58 : decode cX9_init 58 = .ok (.dup, 1) := by decide +kernel
theorem dX9_init_59 : decode cX9_init 59 = .ok (.iconst 2, 1) := by decide +kernel
theorem dX9_init_60 : decode cX9_init 60 = .ok (.bipush 10, 2) := by decide +kernel
theorem dX9_init_62 : decode cX9_init 62 = .ok (.iastore, 1) := by decide +kernel
theorem dX9_init_63 : decode cX9_init 63 = .ok (.dup, 1) := by decide +kernel
theorem dX9_init_64 : decode cX9_init 64 = .ok (.iconst 3, 1) := by decide +kernel
theorem dX9_init_65 : decode cX9_init 65 = .ok (.bipush 10, 2) := by decide +kernel
theorem dX9_init_67 : decode cX9_init 67 = .ok (.iastore, 1) := by decide +kernel
theorem dX9_init_68 : decode cX9_init 68 = .ok (.putfield 20, 3) := by decide +kernel
theorem dX9_init_71 : decode cX9_init 71 = .ok (.aload_n 0, 1) := by decide +kernel
theorem dX9_init_72 : decode cX9_init 72 = .ok (.new 23, 3) := by decide +kernel
theorem dX9_init_75 : decode cX9_init 75 = .ok (.dup, 1) := by decide +kernel
theorem dX9_init_76 : decode cX9_init 76 = .ok (.bipush 30, 2) := by decide +kernel
theorem dX9_init_78 : decode cX9_init 78 = .ok (.bipush 99, 2) := by decide +kernel
theorem dX9_init_80 : decode cX9_init 80 = .ok (.invokespecial 25, 3) := by decide +kernel
theorem dX9_init_83 : decode cX9_init 83 = .ok (.putfield 28, 3) := by decide +kernel
theorem dX9_init_86 : decode cX9_init 86 = .ok (.aload_n 0, 1) := by decide +kernel
theorem dX9_init_87 : decode cX9_init 87 = .ok (.new 23, 3) := by decide +kernel
theorem dX9_init_90 : decode cX9_init 90 = .ok (.dup, 1) := by decide +kernel
theorem dX9_init_91 : decode cX9_init 91 = .ok (.bipush 10, 2) := by decide +kernel
theorem dX9_init_93 : decode cX9_init 93 = .ok (.bipush 40, 2) := by decide +kernel
theorem dX9_init_95 : decode cX9_init 95 = .ok (.invokespecial 25, 3) := by decide +kernel
theorem dX9_init_98 : decode cX9_init 98 = .ok (.putfield 32, 3) := by decide +kernel
theorem dX9_init_101 : decode cX9_init 101 = .ok (.aload_n 0, 1) := by decide +kernel
theorem dX9_init_102 : decode cX9_init 102 = .ok (.new 35, 3) := by decide +kernel
theorem dX9_init_105 : decode cX9_init 105 = .ok (.dup, 1) := by decide +kernel
theorem dX9_init_106 : decode cX9_init 106 = .ok (.invokespecial 37, 3) := by decide +kernel
theorem dX9_init_109 : decode cX9_init 109 = .ok (.putfield 38, 3) := by decide +kernel
theorem dX9_init_112 : decode cX9_init 112 = .ok (.aload_n 0, 1) := by decide +kernel
theorem dX9_init_113 : decode cX9_init 113 = .ok (.new 42, 3) := by decide +kernel
theorem dX9_init_116 : decode cX9_init 116 = .ok (.dup, 1) := by decide +kernel
theorem dX9_init_117 : decode cX9_init 117 = .ok (.invokespecial 44, 3) := by decide +kernel
theorem dX9_init_120 : decode cX9_init 120 = .ok (.putfield 45, 3) := by decide +kernel
theorem dX9_init_123 : decode cX9_init 123 = .ok (.aload_n 0, 1) := by decide +kernel
theorem dX9_init_124 : decode cX9_init 124 = .ok (.new 49, 3) := by decide +kernel
theorem dX9_init_127 : decode cX9_init 127 = .ok (.dup, 1) := by decide +kernel
theorem dX9_init_128 : decode cX9_init 128 = .ok (.invokespecial 51, 3) := by decide +kernel
theorem dX9_init_131 : decode cX9_init 131 = .ok (.putfield 52, 3) := by decide +kernel
theorem dX9_init_134 : decode cX9_init 134 = .ok (.aload_n 0, 1) := by decide +kernel
theorem dX9_init_135 : decode cX9_init 135 = .ok (.new 56, 3) := by decide +kernel
theorem dX9_init_138 : decode cX9_init 138 = .ok (.dup, 1) := by decide +kernel
theorem dX9_init_139 : decode cX9_init 139 = .ok (.invokespecial 58, 3) := by decide +kernel
theorem dX9_init_142 : decode cX9_init 142 = .ok (.putfield 59, 3) := by decide +kernel
theorem dX9_init_145 : decode cX9_init 145 = .ok (.aload_n 0, 1) := by decide +kernel
theorem dX9_init_146 : decode cX9_init 146 = .ok (.bipush 20, 2) := by decide +kernel
theorem dX9_init_148 : decode cX9_init 148 = .ok (.newarray .int, 2) := by decide +kernel
theorem dX9_init_150 : decode cX9_init 150 = .ok (.putfield 63, 3) := by decide +kernel
theorem dX9_init_153 : decode cX9_init 153 = .ok (.aload_n 0, 1) := by decide +kernel
theorem dX9_init_154 : decode cX9_init 154 = .ok (.bipush 21, 2) := by decide +kernel
theorem dX9_init_156 : decode cX9_init 156 = .ok (.newarray .int, 2) := by decide +kernel
theorem dX9_init_158 : decode cX9_init 158 = .ok (.putfield 66, 3) := by decide +kernel
theorem dX9_init_161 : decode cX9_init 161 = .ok (.aload_n 0, 1) := by decide +kernel
theorem dX9_init_162 : decode cX9_init 162 = .ok (.new 69, 3) := by decide +kernel
theorem dX9_init_165 : decode cX9_init 165 = .ok (.dup, 1) := by decide +kernel
theorem dX9_init_166 : decode cX9_init 166 = .ok (.invokespecial 71, 3) := by decide +kernel
theorem dX9_init_169 : decode cX9_init 169 = .ok (.putfield 72, 3) := by decide +kernel
theorem dX9_init_172 : decode cX9_init 172 = .ok (.aload_n 0, 1) := by decide +kernel
theorem dX9_init_173 : decode cX9_init 173 = .ok (.new 76, 3) := by decide +kernel
theorem dX9_init_176 : decode cX9_init 176 = .ok (.dup, 1) := by decide +kernel
theorem dX9_init_177 : decode cX9_init 177 = .ok (.invokespecial 78, 3) := by decide +kernel
theorem dX9_init_180 : decode cX9_init 180 = .ok (.putfield 79, 3) := by decide +kernel
theorem dX9_init_183 : decode cX9_init 183 = .ok (.aload_n 0, 1) := by decide +kernel
theorem dX9_init_184 : decode cX9_init 184 = .ok (.new 83, 3) := by decide +kernel
theorem dX9_init_187 : decode cX9_init 187 = .ok (.dup, 1) := by decide +kernel
theorem dX9_init_188 : decode cX9_init 188 = .ok (.invokespecial 85, 3) := by decide +kernel
theorem dX9_init_191 : decode cX9_init 191 = .ok (.putfield 86, 3) := by decide +kernel
theorem dX9_init_194 : decode cX9_init 194 = .ok (.aload_n 0, 1) := by decide +kernel
theorem dX9_init_195 : decode cX9_init 195 = .ok (.new 90, 3) := by decide +kernel
theorem dX9_init_198 : decode cX9_init 198 = .ok (.dup, 1) := by decide +kernel
theorem dX9_init_199 : decode cX9_init 199 = .ok (.invokespecial 92, 3) := by decide +kernel
theorem dX9_init_202 : decode cX9_init 202 = .ok (.putfield 93, 3) := by decide +kernel
theorem dX9_init_205 : decode cX9_init 205 = .ok (.return_, 1) := by decide +kernel
theorem dX9_day_0 : decode cX9_day 0 = .ok (.iload_n 1, 1) := by decide +kernel
theorem dX9_day_1 : decode cX9_day 1 = .ok (.invokestatic 97, 3) := by decide +kernel
theorem dX9_day_4 : decode cX9_day 4 = .ok (.ifCond .ne 9, 3) := by decide +kernel
theorem dX9_day_7 : decode cX9_day 7 = .ok (.aload_n 0, 1) := by decide +kernel
theorem dX9_day_8 : decode cX9_day 8 = .ok (.iconst (-1), 1) := by decide +kernel
theorem dX9_day_9 : decode cX9_day 9 = .ok (.invokevirtual 101, 3) := by decide +kernel
theorem dX9_day_12 : decode cX9_day 12 = .ok (.ireturn, 1) := by decide +kernel
theorem dX9_day_13 : decode cX9_day 13 = .ok (.iload_n 2, 1) := by decide +kernel
theorem dX9_day_14 : decode cX9_day 14 = .ok (.ifCond .lt 8, 3) := by decide +kernel
theorem dX9_day_17 : decode cX9_day 17 = .ok (.iload_n 2, 1) := by decide +kernel
theorem dX9_day_18 : decode cX9_day 18 = .ok (.iconst 1, 1) := by decide +kernel
theorem dX9_day_19 : decode cX9_day 19 = .ok (.if_icmp .le 10, 3) := by decide +kernel
theorem dX9_day_22 : decode cX9_day 22 = .ok (.aload_n 0, 1) := by decide +kernel
theorem dX9_day_23 : decode cX9_day 23 = .ok (.bipush (-2), 2) := by decide +kernel
theorem dX9_day_25 : decode cX9_day 25 = .ok (.invokevirtual 101, 3) := by decide +kernel
theorem dX9_day_28 : decode cX9_day 28 = .ok (.ireturn, 1) := by decide +kernel
theorem dX9_day_29 : decode cX9_day 29 = .ok (.iload_n 1, 1) := by decide +kernel
theorem dX9_day_30 : decode cX9_day 30 = .ok (.aload_n 0, 1) := by decide +kernel
theorem dX9_day_31 : decode cX9_day 31 = .ok (.getfield 7, 3) := by decide +kernel
theorem dX9_day_34 : decode cX9_day 34 = .ok (.if_icmp .ge 10, 3) := by decide +kernel
theorem dX9_day_37 : decode cX9_day 37 = .ok (.aload_n 0, 1) := by decide +kernel
theorem dX9_day_38 : decode cX9_day 38 = .ok (.bipush (-3), 2) := by decide +kernel
theorem dX9_day_40 : decode cX9_day 40 = .ok (.invokevirtual 101, 3) := by decide +kernel
theorem dX9_day_43 : decode cX9_day 43 = .ok (.ireturn, 1) := by decide +kernel
theorem dX9_day_44 : decode cX9_day 44 = .ok (.aload_n 0, 1) := by decide +kernel
theorem dX9_day_45 : decode cX9_day 45 = .ok (.iload_n 2, 1) := by decide +kernel
theorem dX9_day_46 : decode cX9_day 46 = .ok (.invokevirtual 105, 3) := by decide +kernel
theorem dX9_day_49 : decode cX9_day 49 = .ok (.astore 4, 2) := by decide +kernel
theorem dX9_day_51 : decode cX9_day 51 = .ok (.iload_n 3, 1) := by decide +kernel
theorem dX9_day_52 : decode cX9_day 52 = .ok (.iconst (-1), 1) := by decide +kernel
theorem dX9_day_53 : decode cX9_day 53 = .ok (.if_icmp .ge 10, 3) := by decide +kernel
theorem dX9_day_56 : decode cX9_day 56 = .ok (.aload_n 0, 1) := by decide +kernel
theorem dX9_day_57 : decode cX9_day 57 = .ok (.bipush (-4), 2) := by decide +kernel
theorem dX9_day_59 : decode cX9_day 59 = .ok (.invokevirtual 101, 3) := by decide +kernel
theorem dX9_day_62 : decode cX9_day 62 = .ok (.ireturn, 1) := by decide +kernel
theorem dX9_day_63 : decode cX9_day 63 = .ok (.iload_n 3, 1) := by decide +kernel
theorem dX9_day_64 : decode cX9_day 64 = .ok (.aload 4, 2) := by decide +kernel
theorem dX9_day_66 : decode cX9_day 66 = .ok (.getfield 109, 3) := by decide +kernel
theorem dX9_day_69 : decode cX9_day 69 = .ok (.if_icmp .le 10, 3) := by decide +kernel
theorem dX9_day_72 : decode cX9_day 72 = .ok (.aload_n 0, 1) := by decide +kernel
theorem dX9_day_73 : decode cX9_day 73 = .ok (.bipush (-6), 2) := by decide +kernel
theorem dX9_day_75 : decode cX9_day 75 = .ok (.invokevirtual 101, 3) := by decide +kernel
theorem dX9_day_78 : decode cX9_day 78 = .ok (.ireturn, 1) := by decide +kernel
theorem dX9_day_79 : decode cX9_day 79 = .ok (.aload 4, 2) := by decide +kernel
theorem dX9_day_81 : decode cX9_day 81 = .ok (.iload_n 1, 1) := by decide +kernel
theorem dX9_day_82 : decode cX9_day 82 = .ok (.iload_n 3, 1) := by decide +kernel
theorem dX9_day_83 : decode cX9_day 83 = .ok (.invokevirtual 112, 3) := by decide +kernel
theorem dX9_day_86 : decode cX9_day 86 = .ok (.ireturn, 1) := by decide +kernel
theorem dX9_dayOf_0 : decode cX9_dayOf 0 = .ok (.iload_n 1, 1) := by decide +kernel
theorem dX9_dayOf_1 : decode cX9_dayOf 1 = .ok (.invokestatic 97, 3) := by decide +kernel
theorem dX9_dayOf_4 : decode cX9_dayOf 4 = .ok (.ifCond .ne 9, 3) := by decide +kernel
theorem dX9_dayOf_7 : decode cX9_dayOf 7 = .ok (.aload_n 0, 1) := by decide +kernel
theorem dX9_dayOf_8 : decode cX9_dayOf 8 = .ok (.iconst (-1), 1) := by decide +kernel
theorem dX9_dayOf_9 : decode cX9_dayOf 9 = .ok (.invokevirtual 116, 3) := by decide +kernel
theorem dX9_dayOf_12 : decode cX9_dayOf 12 = .ok (.ireturn, 1) := by decide +kernel
theorem dX9_dayOf_13 : decode cX9_dayOf 13 = .ok (.iload_n 2, 1) := by decide +kernel
theorem dX9_dayOf_14 : decode cX9_dayOf 14 = .ok (.ifCond .lt 8, 3) := by decide +kernel
theorem dX9_dayOf_17 : decode cX9_dayOf 17 = .ok (.iload_n 2, 1) := by decide +kernel
theorem dX9_dayOf_18 : decode cX9_dayOf 18 = .ok (.iconst 1, 1) := by decide +kernel
theorem dX9_dayOf_19 : decode cX9_dayOf 19 = .ok (.if_icmp .le 10, 3) := by decide +kernel
theorem dX9_dayOf_22 : decode cX9_dayOf 22 = .ok (.aload_n 0, 1) := by decide +kernel
theorem dX9_dayOf_23 : decode cX9_dayOf 23 = .ok (.bipush (-2), 2) := by decide +kernel
theorem dX9_dayOf_25 : decode cX9_dayOf 25 = .ok (.invokevirtual 116, 3) := by decide +kernel
theorem dX9_dayOf_28 : decode cX9_dayOf 28 = .ok (.ireturn, 1) := by decide +kernel
theorem dX9_dayOf_29 : decode cX9_dayOf 29 = .ok (.aload_n 0, 1) := by decide +kernel
theorem dX9_dayOf_30 : decode cX9_dayOf 30 = .ok (.iload_n 2, 1) := by decide +kernel
theorem dX9_dayOf_31 : decode cX9_dayOf 31 = .ok (.invokevirtual 105, 3) := by decide +kernel
theorem dX9_dayOf_34 : decode cX9_dayOf 34 = .ok (.iload_n 1, 1) := by decide +kernel
theorem dX9_dayOf_35 : decode cX9_dayOf 35 = .ok (.invokevirtual 119, 3) := by decide +kernel
theorem dX9_dayOf_38 : decode cX9_dayOf 38 = .ok (.ireturn, 1) := by decide +kernel
theorem dX9_growth_0 : decode cX9_growth 0 = .ok (.iload_n 1, 1) := by decide +kernel
theorem dX9_growth_1 : decode cX9_growth 1 = .ok (.invokestatic 122, 3) := by decide +kernel
theorem dX9_growth_4 : decode cX9_growth 4 = .ok (.ifCond .ne 9, 3) := by decide +kernel
theorem dX9_growth_7 : decode cX9_growth 7 = .ok (.aload_n 0, 1) := by decide +kernel
theorem dX9_growth_8 : decode cX9_growth 8 = .ok (.iconst (-1), 1) := by decide +kernel
theorem dX9_growth_9 : decode cX9_growth 9 = .ok (.invokevirtual 116, 3) := by decide +kernel
theorem dX9_growth_12 : decode cX9_growth 12 = .ok (.ireturn, 1) := by decide +kernel
theorem dX9_growth_13 : decode cX9_growth 13 = .ok (.iload_n 2, 1) := by decide +kernel
theorem dX9_growth_14 : decode cX9_growth 14 = .ok (.ifCond .ge 10, 3) := by decide +kernel
theorem dX9_growth_17 : decode cX9_growth 17 = .ok (.aload_n 0, 1) := by decide +kernel
theorem dX9_growth_18 : decode cX9_growth 18 = .ok (.bipush (-4), 2) := by decide +kernel
theorem dX9_growth_20 : decode cX9_growth 20 = .ok (.invokevirtual 116, 3) := by decide +kernel
theorem dX9_growth_23 : decode cX9_growth 23 = .ok (.ireturn, 1) := by decide +kernel
theorem dX9_growth_24 : decode cX9_growth 24 = .ok (.iload_n 2, 1) := by decide +kernel
theorem dX9_growth_25 : decode cX9_growth 25 = .ok (.bipush 50, 2) := by decide +kernel
theorem dX9_growth_27 : decode cX9_growth 27 = .ok (.if_icmp .le 10, 3) := by decide +kernel
theorem dX9_growth_30 : decode cX9_growth 30 = .ok (.aload_n 0, 1) := by decide +kernel
theorem dX9_growth_31 : decode cX9_growth 31 = .ok (.bipush (-6), 2) := by decide +kernel
theorem dX9_growth_33 : decode cX9_growth 33 = .ok (.invokevirtual 116, 3) := by decide +kernel
theorem dX9_growth_36 : decode cX9_growth 36 = .ok (.ireturn, 1) := by decide +kernel
theorem dX9_growth_37 : decode cX9_growth 37 = .ok (.aload_n 0, 1) := by decide +kernel
theorem dX9_growth_38 : decode cX9_growth 38 = .ok (.getfield 20, 3) := by decide +kernel
theorem dX9_growth_41 : decode cX9_growth 41 = .ok (.iload_n 1, 1) := by decide +kernel
theorem dX9_growth_42 : decode cX9_growth 42 = .ok (.iaload, 1) := by decide +kernel
theorem dX9_growth_43 : decode cX9_growth 43 = .ok (.istore_n 3, 1) := by decide +kernel
theorem dX9_growth_44 : decode cX9_growth 44 = .ok (.aload_n 0, 1) := by decide +kernel
theorem dX9_growth_45 : decode cX9_growth 45 = .ok (.getfield 20, 3) := by decide +kernel
theorem dX9_growth_48 : decode cX9_growth 48 = .ok (.iload_n 1, 1) := by decide +kernel
theorem dX9_growth_49 : decode cX9_growth 49 = .ok (.iload_n 2, 1) := by decide +kernel
theorem dX9_growth_50 : decode cX9_growth 50 = .ok (.iastore, 1) := by decide +kernel
theorem dX9_growth_51 : decode cX9_growth 51 = .ok (.iload_n 3, 1) := by decide +kernel
theorem dX9_growth_52 : decode cX9_growth 52 = .ok (.ireturn, 1) := by decide +kernel
theorem dX9_defect_0 : decode cX9_defect 0 = .ok (.iload_n 1, 1) := by decide +kernel
theorem dX9_defect_1 : decode cX9_defect 1 = .ok (.invokestatic 125, 3) := by decide +kernel
theorem dX9_defect_4 : decode cX9_defect 4 = .ok (.ifCond .eq 11, 3) := by decide +kernel
theorem dX9_defect_7 : decode cX9_defect 7 = .ok (.iload 4, 2) := by decide +kernel
theorem dX9_defect_9 : decode cX9_defect 9 = .ok (.invokestatic 122, 3) := by decide +kernel
theorem dX9_defect_12 : decode cX9_defect 12 = .ok (.ifCond .ne 9, 3) := by decide +kernel
theorem dX9_defect_15 : decode cX9_defect 15 = .ok (.aload_n 0, 1) := by decide +kernel
theorem dX9_defect_16 : decode cX9_defect 16 = .ok (.iconst (-1), 1) := by decide +kernel
theorem dX9_defect_17 : decode cX9_defect 17 = .ok (.invokevirtual 116, 3) := by decide +kernel
theorem dX9_defect_20 : decode cX9_defect 20 = .ok (.ireturn, 1) := by decide +kernel
theorem dX9_defect_21 : decode cX9_defect 21 = .ok (.iload_n 2, 1) := by decide +kernel
theorem dX9_defect_22 : decode cX9_defect 22 = .ok (.ifCond .lt 17, 3) := by decide +kernel
theorem dX9_defect_25 : decode cX9_defect 25 = .ok (.iload_n 3, 1) := by decide +kernel
theorem dX9_defect_26 : decode cX9_defect 26 = .ok (.ifCond .lt 13, 3) := by decide +kernel
theorem dX9_defect_29 : decode cX9_defect 29 = .ok (.iload 5, 2) := by decide +kernel
theorem dX9_defect_31 : decode cX9_defect 31 = .ok (.ifCond .lt 8, 3) := by decide +kernel
theorem dX9_defect_34 : decode cX9_defect 34 = .ok (.iload 6, 2) := by decide +kernel
theorem dX9_defect_36 : decode cX9_defect 36 = .ok (.ifCond .ge 10, 3) := by decide +kernel
theorem dX9_defect_39 : decode cX9_defect 39 = .ok (.aload_n 0, 1) := by decide +kernel
theorem dX9_defect_40 : decode cX9_defect 40 = .ok (.bipush (-4), 2) := by decide +kernel
theorem dX9_defect_42 : decode cX9_defect 42 = .ok (.invokevirtual 116, 3) := by decide +kernel
theorem dX9_defect_45 : decode cX9_defect 45 = .ok (.ireturn, 1) := by decide +kernel
theorem dX9_defect_46 : decode cX9_defect 46 = .ok (.iload_n 2, 1) := by decide +kernel
theorem dX9_defect_47 : decode cX9_defect 47 = .ok (.sipush 1759, 3) := by decide +kernel
theorem dX9_defect_50 : decode cX9_defect 50 = .ok (.if_icmp .gt 23, 3) := by decide +kernel
theorem dX9_defect_53 : decode cX9_defect 53 = .ok (.iload_n 3, 1) := by decide +kernel
theorem dX9_defect_54 : decode cX9_defect 54 = .ok (.iconst 1, 1) := by decide +kernel
theorem dX9_defect_55 : decode cX9_defect 55 = .ok (.if_icmp .gt 18, 3) := by decide +kernel
theorem dX9_defect_58 : decode cX9_defect 58 = .ok (.iload 5, 2) := by decide +kernel
theorem dX9_defect_60 : decode cX9_defect 60 = .ok (.sipush 999, 3) := by decide +kernel
theorem dX9_defect_63 : decode cX9_defect 63 = .ok (.if_icmp .gt 10, 3) := by decide +kernel
theorem dX9_defect_66 : decode cX9_defect 66 = .ok (.iload 6, 2) := by decide +kernel
theorem dX9_defect_68 : decode cX9_defect 68 = .ok (.bipush 50, 2) := by decide +kernel
theorem dX9_defect_70 : decode cX9_defect 70 = .ok (.if_icmp .le 10, 3) := by decide +kernel
theorem dX9_defect_73 : decode cX9_defect 73 = .ok (.aload_n 0, 1) := by decide +kernel
theorem dX9_defect_74 : decode cX9_defect 74 = .ok (.bipush (-6), 2) := by decide +kernel
theorem dX9_defect_76 : decode cX9_defect 76 = .ok (.invokevirtual 116, 3) := by decide +kernel
theorem dX9_defect_79 : decode cX9_defect 79 = .ok (.ireturn, 1) := by decide +kernel
theorem dX9_defect_80 : decode cX9_defect 80 = .ok (.aload_n 0, 1) := by decide +kernel
theorem dX9_defect_81 : decode cX9_defect 81 = .ok (.getfield 38, 3) := by decide +kernel
theorem dX9_defect_84 : decode cX9_defect 84 = .ok (.getfield 128, 3) := by decide +kernel
theorem dX9_defect_87 : decode cX9_defect 87 = .ok (.bipush 40, 2) := by decide +kernel
theorem dX9_defect_89 : decode cX9_defect 89 = .ok (.if_icmp .ge 15, 3) := by decide +kernel
theorem dX9_defect_92 : decode cX9_defect 92 = .ok (.aload_n 0, 1) := by decide +kernel
theorem dX9_defect_93 : decode cX9_defect 93 = .ok (.getfield 38, 3) := by decide +kernel
theorem dX9_defect_96 : decode cX9_defect 96 = .ok (.getfield 131, 3) := by decide +kernel
theorem dX9_defect_99 : decode cX9_defect 99 = .ok (.bipush 120, 2) := by decide +kernel
theorem dX9_defect_101 : decode cX9_defect 101 = .ok (.if_icmp .lt 10, 3) := by decide +kernel
theorem dX9_defect_104 : decode cX9_defect 104 = .ok (.aload_n 0, 1) := by decide +kernel
theorem dX9_defect_105 : decode cX9_defect 105 = .ok (.bipush (-6), 2) := by decide +kernel
theorem dX9_defect_107 : decode cX9_defect 107 = .ok (.invokevirtual 116, 3) := by decide +kernel
theorem dX9_defect_110 : decode cX9_defect 110 = .ok (.ireturn, 1) := by decide +kernel
theorem dX9_defect_111 : decode cX9_defect 111 = .ok (.aload_n 0, 1) := by decide +kernel
theorem dX9_defect_112 : decode cX9_defect 112 = .ok (.getfield 38, 3) := by decide +kernel
theorem dX9_defect_115 : decode cX9_defect 115 = .ok (.iload_n 1, 1) := by decide +kernel
theorem dX9_defect_116 : decode cX9_defect 116 = .ok (.iload_n 2, 1) := by decide +kernel
theorem dX9_defect_117 : decode cX9_defect 117 = .ok (.iload_n 3, 1) := by decide +kernel
theorem dX9_defect_118 : decode cX9_defect 118 = .ok (.iload 4, 2) := by decide +kernel
theorem dX9_defect_120 : decode cX9_defect 120 = .ok (.invokevirtual 134, 3) := by decide +kernel
theorem dX9_defect_123 : decode cX9_defect 123 = .ok (.istore 7, 2) := by decide +kernel
theorem dX9_defect_125 : decode cX9_defect 125 = .ok (.aload_n 0, 1) := by decide +kernel
theorem dX9_defect_126 : decode cX9_defect 126 = .ok (.getfield 38, 3) := by decide +kernel
theorem dX9_defect_129 : decode cX9_defect 129 = .ok (.iload 7, 2) := by decide +kernel
theorem dX9_defect_131 : decode cX9_defect 131 = .ok (.iload 5, 2) := by decide +kernel
theorem dX9_defect_133 : decode cX9_defect 133 = .ok (.iload 6, 2) := by decide +kernel
theorem dX9_defect_135 : decode cX9_defect 135 = .ok (.invokevirtual 138, 3) := by decide +kernel
theorem dX9_defect_138 : decode cX9_defect 138 = .ok (.pop, 1) := by decide +kernel
theorem dX9_defect_139 : decode cX9_defect 139 = .ok (.aload_n 0, 1) := by decide +kernel
theorem dX9_defect_140 : decode cX9_defect 140 = .ok (.getfield 38, 3) := by decide +kernel
theorem dX9_defect_143 : decode cX9_defect 143 = .ok (.iload 7, 2) := by decide +kernel
theorem dX9_defect_145 : decode cX9_defect 145 = .ok (.aload_n 0, 1) := by decide +kernel
theorem dX9_defect_146 : decode cX9_defect 146 = .ok (.iload 7, 2) := by decide +kernel
theorem dX9_defect_148 : decode cX9_defect 148 = .ok (.invokevirtual 142, 3) := by decide +kernel
theorem dX9_defect_151 : decode cX9_defect 151 = .ok (.aload_n 0, 1) := by decide +kernel
theorem dX9_defect_152 : decode cX9_defect 152 = .ok (.getfield 7, 3) := by decide +kernel
theorem dX9_defect_155 : decode cX9_defect 155 = .ok (.invokevirtual 145, 3) := by decide +kernel
theorem dX9_defect_158 : decode cX9_defect 158 = .ok (.iload 4, 2) := by decide +kernel
theorem dX9_defect_160 : decode cX9_defect 160 = .ok (.iconst 3, 1) := by decide +kernel
theorem dX9_defect_161 : decode cX9_defect 161 = .ok (.if_icmp .ne 11, 3) := by decide +kernel
theorem dX9_defect_164 : decode cX9_defect 164 = .ok (.aload_n 0, 1) := by decide +kernel
theorem dX9_defect_165 : decode cX9_defect 165 = .ok (.getfield 93, 3) := by decide +kernel
theorem dX9_defect_168 : decode cX9_defect 168 = .ok (.iload_n 1, 1) := by decide +kernel
theorem dX9_defect_169 : decode cX9_defect 169 = .ok (.invokevirtual 149, 3) := by decide +kernel
theorem dX9_defect_172 : decode cX9_defect 172 = .ok (.iload 7, 2) := by decide +kernel
theorem dX9_defect_174 : decode cX9_defect 174 = .ok (.ireturn, 1) := by decide +kernel
theorem dX9_look_0 : decode cX9_look 0 = .ok (.aload_n 0, 1) := by decide +kernel
theorem dX9_look_1 : decode cX9_look 1 = .ok (.iload_n 1, 1) := by decide +kernel
theorem dX9_look_2 : decode cX9_look 2 = .ok (.invokevirtual 153, 3) := by decide +kernel
theorem dX9_look_5 : decode cX9_look 5 = .ok (.istore 4, 2) := by decide +kernel
theorem dX9_look_7 : decode cX9_look 7 = .ok (.iload 4, 2) := by decide +kernel
theorem dX9_look_9 : decode cX9_look 9 = .ok (.ifCond .eq 10, 3) := by decide +kernel
theorem dX9_look_12 : decode cX9_look 12 = .ok (.aload_n 0, 1) := by decide +kernel
theorem dX9_look_13 : decode cX9_look 13 = .ok (.iload 4, 2) := by decide +kernel
theorem dX9_look_15 : decode cX9_look 15 = .ok (.invokevirtual 116, 3) := by decide +kernel
theorem dX9_look_18 : decode cX9_look 18 = .ok (.ireturn, 1) := by decide +kernel
theorem dX9_look_19 : decode cX9_look 19 = .ok (.iload_n 2, 1) := by decide +kernel
theorem dX9_look_20 : decode cX9_look 20 = .ok (.ifCond .lt 7, 3) := by decide +kernel
theorem dX9_look_23 : decode cX9_look 23 = .ok (.iload_n 3, 1) := by decide +kernel
theorem dX9_look_24 : decode cX9_look 24 = .ok (.ifCond .ge 10, 3) := by decide +kernel
theorem dX9_look_27 : decode cX9_look 27 = .ok (.aload_n 0, 1) := by decide +kernel
theorem dX9_look_28 : decode cX9_look 28 = .ok (.bipush (-4), 2) := by decide +kernel
theorem dX9_look_30 : decode cX9_look 30 = .ok (.invokevirtual 116, 3) := by decide +kernel
theorem dX9_look_33 : decode cX9_look 33 = .ok (.ireturn, 1) := by decide +kernel
theorem dX9_look_34 : decode cX9_look 34 = .ok (.iload_n 2, 1) := by decide +kernel
theorem dX9_look_35 : decode cX9_look 35 = .ok (.sipush 999, 3) := by decide +kernel
theorem dX9_look_38 : decode cX9_look 38 = .ok (.if_icmp .gt 21, 3) := by decide +kernel
theorem dX9_look_41 : decode cX9_look 41 = .ok (.iload_n 3, 1) := by decide +kernel
theorem dX9_look_42 : decode cX9_look 42 = .ok (.bipush 50, 2) := by decide +kernel
theorem dX9_look_44 : decode cX9_look 44 = .ok (.if_icmp .gt 15, 3) := by decide +kernel
theorem dX9_look_47 : decode cX9_look 47 = .ok (.aload_n 0, 1) := by decide +kernel
theorem dX9_look_48 : decode cX9_look 48 = .ok (.getfield 38, 3) := by decide +kernel
theorem dX9_look_51 : decode cX9_look 51 = .ok (.getfield 131, 3) := by decide +kernel
theorem dX9_look_54 : decode cX9_look 54 = .ok (.bipush 120, 2) := by decide +kernel
theorem dX9_look_56 : decode cX9_look 56 = .ok (.if_icmp .lt 10, 3) := by decide +kernel
theorem dX9_look_59 : decode cX9_look 59 = .ok (.aload_n 0, 1) := by decide +kernel
theorem dX9_look_60 : decode cX9_look 60 = .ok (.bipush (-6), 2) := by decide +kernel
theorem dX9_look_62 : decode cX9_look 62 = .ok (.invokevirtual 116, 3) := by decide +kernel
theorem dX9_look_65 : decode cX9_look 65 = .ok (.ireturn, 1) := by decide +kernel
theorem dX9_look_66 : decode cX9_look 66 = .ok (.aload_n 0, 1) := by decide +kernel
theorem dX9_look_67 : decode cX9_look 67 = .ok (.getfield 38, 3) := by decide +kernel
theorem dX9_look_70 : decode cX9_look 70 = .ok (.iload_n 1, 1) := by decide +kernel
theorem dX9_look_71 : decode cX9_look 71 = .ok (.iload_n 2, 1) := by decide +kernel
theorem dX9_look_72 : decode cX9_look 72 = .ok (.iload_n 3, 1) := by decide +kernel
theorem dX9_look_73 : decode cX9_look 73 = .ok (.invokevirtual 138, 3) := by decide +kernel
theorem dX9_look_76 : decode cX9_look 76 = .ok (.istore 5, 2) := by decide +kernel
theorem dX9_look_78 : decode cX9_look 78 = .ok (.aload_n 0, 1) := by decide +kernel
theorem dX9_look_79 : decode cX9_look 79 = .ok (.getfield 38, 3) := by decide +kernel
theorem dX9_look_82 : decode cX9_look 82 = .ok (.iload_n 1, 1) := by decide +kernel
theorem dX9_look_83 : decode cX9_look 83 = .ok (.aload_n 0, 1) := by decide +kernel
theorem dX9_look_84 : decode cX9_look 84 = .ok (.iload_n 1, 1) := by decide +kernel
theorem dX9_look_85 : decode cX9_look 85 = .ok (.invokevirtual 142, 3) := by decide +kernel
theorem dX9_look_88 : decode cX9_look 88 = .ok (.aload_n 0, 1) := by decide +kernel
theorem dX9_look_89 : decode cX9_look 89 = .ok (.getfield 7, 3) := by decide +kernel
theorem dX9_look_92 : decode cX9_look 92 = .ok (.invokevirtual 145, 3) := by decide +kernel
theorem dX9_look_95 : decode cX9_look 95 = .ok (.iload 5, 2) := by decide +kernel
theorem dX9_look_97 : decode cX9_look 97 = .ok (.ifCond .eq 7, 3) := by decide +kernel
theorem dX9_look_100 : decode cX9_look 100 = .ok (.iconst 1, 1) := by decide +kernel
theorem dX9_look_101 : decode cX9_look 101 = .ok (.goto 4, 3) := by decide +kernel
theorem dX9_look_104 : decode cX9_look 104 = .ok (.iconst 0, 1) := by decide +kernel
theorem dX9_look_105 : decode cX9_look 105 = .ok (.ireturn, 1) := by decide +kernel
theorem dX9_span_0 : decode cX9_span 0 = .ok (.aload_n 0, 1) := by decide +kernel
theorem dX9_span_1 : decode cX9_span 1 = .ok (.iload_n 1, 1) := by decide +kernel
theorem dX9_span_2 : decode cX9_span 2 = .ok (.invokevirtual 156, 3) := by decide +kernel
theorem dX9_span_5 : decode cX9_span 5 = .ok (.ifCond .ne 9, 3) := by decide +kernel
theorem dX9_span_8 : decode cX9_span 8 = .ok (.aload_n 0, 1) := by decide +kernel
theorem dX9_span_9 : decode cX9_span 9 = .ok (.iconst (-1), 1) := by decide +kernel
theorem dX9_span_10 : decode cX9_span 10 = .ok (.invokevirtual 116, 3) := by decide +kernel
theorem dX9_span_13 : decode cX9_span 13 = .ok (.ireturn, 1) := by decide +kernel
theorem dX9_span_14 : decode cX9_span 14 = .ok (.iload_n 2, 1) := by decide +kernel
theorem dX9_span_15 : decode cX9_span 15 = .ok (.ifCond .lt 8, 3) := by decide +kernel
theorem dX9_span_18 : decode cX9_span 18 = .ok (.iload_n 2, 1) := by decide +kernel
theorem dX9_span_19 : decode cX9_span 19 = .ok (.iconst 1, 1) := by decide +kernel
theorem dX9_span_20 : decode cX9_span 20 = .ok (.if_icmp .le 10, 3) := by decide +kernel
theorem dX9_span_23 : decode cX9_span 23 = .ok (.aload_n 0, 1) := by decide +kernel
theorem dX9_span_24 : decode cX9_span 24 = .ok (.bipush (-2), 2) := by decide +kernel
theorem dX9_span_26 : decode cX9_span 26 = .ok (.invokevirtual 116, 3) := by decide +kernel
theorem dX9_span_29 : decode cX9_span 29 = .ok (.ireturn, 1) := by decide +kernel
theorem dX9_span_30 : decode cX9_span 30 = .ok (.aload_n 0, 1) := by decide +kernel
theorem dX9_span_31 : decode cX9_span 31 = .ok (.getfield 38, 3) := by decide +kernel
theorem dX9_span_34 : decode cX9_span 34 = .ok (.getfield 159, 3) := by decide +kernel
theorem dX9_span_37 : decode cX9_span 37 = .ok (.iload_n 1, 1) := by decide +kernel
theorem dX9_span_38 : decode cX9_span 38 = .ok (.baload, 1) := by decide +kernel
theorem dX9_span_39 : decode cX9_span 39 = .ok (.ifCond .ne 10, 3) := by decide +kernel
theorem dX9_span_42 : decode cX9_span 42 = .ok (.aload_n 0, 1) := by decide +kernel
theorem dX9_span_43 : decode cX9_span 43 = .ok (.bipush (-3), 2) := by decide +kernel
theorem dX9_span_45 : decode cX9_span 45 = .ok (.invokevirtual 116, 3) := by decide +kernel
theorem dX9_span_48 : decode cX9_span 48 = .ok (.ireturn, 1) := by decide +kernel
theorem dX9_span_49 : decode cX9_span 49 = .ok (.iload_n 2, 1) := by decide +kernel
theorem dX9_span_50 : decode cX9_span 50 = .ok (.ifCond .ne 15, 3) := by decide +kernel
theorem dX9_span_53 : decode cX9_span 53 = .ok (.aload_n 0, 1) := by decide +kernel
theorem dX9_span_54 : decode cX9_span 54 = .ok (.getfield 38, 3) := by decide +kernel
theorem dX9_span_57 : decode cX9_span 57 = .ok (.getfield 163, 3) := by decide +kernel
theorem dX9_span_60 : decode cX9_span 60 = .ok (.iload_n 1, 1) := by decide +kernel
theorem dX9_span_61 : decode cX9_span 61 = .ok (.iaload, 1) := by decide +kernel
theorem dX9_span_62 : decode cX9_span 62 = .ok (.goto 12, 3) := by decide +kernel
theorem dX9_span_65 : decode cX9_span 65 = .ok (.aload_n 0, 1) := by decide +kernel
theorem dX9_span_66 : decode cX9_span 66 = .ok (.getfield 38, 3) := by decide +kernel
theorem dX9_span_69 : decode cX9_span 69 = .ok (.getfield 166, 3) := by decide +kernel
theorem dX9_span_72 : decode cX9_span 72 = .ok (.iload_n 1, 1) := by decide +kernel
theorem dX9_span_73 : decode cX9_span 73 = .ok (.iaload, 1) := by decide +kernel
theorem dX9_span_74 : decode cX9_span 74 = .ok (.ireturn, 1) := by decide +kernel
theorem dX9_rule_0 : decode cX9_rule 0 = .ok (.iload_n 1, 1) := by decide +kernel
theorem dX9_rule_1 : decode cX9_rule 1 = .ok (.invokestatic 122, 3) := by decide +kernel
theorem dX9_rule_4 : decode cX9_rule 4 = .ok (.ifCond .ne 9, 3) := by decide +kernel
theorem dX9_rule_7 : decode cX9_rule 7 = .ok (.aload_n 0, 1) := by decide +kernel
theorem dX9_rule_8 : decode cX9_rule 8 = .ok (.iconst (-1), 1) := by decide +kernel
theorem dX9_rule_9 : decode cX9_rule 9 = .ok (.invokevirtual 116, 3) := by decide +kernel
theorem dX9_rule_12 : decode cX9_rule 12 = .ok (.ireturn, 1) := by decide +kernel
theorem dX9_rule_13 : decode cX9_rule 13 = .ok (.iload 4, 2) := by decide +kernel
theorem dX9_rule_15 : decode cX9_rule 15 = .ok (.ifCond .lt 9, 3) := by decide +kernel
theorem dX9_rule_18 : decode cX9_rule 18 = .ok (.iload 4, 2) := by decide +kernel
theorem dX9_rule_20 : decode cX9_rule 20 = .ok (.iconst 3, 1) := by decide +kernel
theorem dX9_rule_21 : decode cX9_rule 21 = .ok (.if_icmp .le 10, 3) := by decide +kernel
theorem dX9_rule_24 : decode cX9_rule 24 = .ok (.aload_n 0, 1) := by decide +kernel
theorem dX9_rule_25 : decode cX9_rule 25 = .ok (.bipush (-2), 2) := by decide +kernel
theorem dX9_rule_27 : decode cX9_rule 27 = .ok (.invokevirtual 116, 3) := by decide +kernel
theorem dX9_rule_30 : decode cX9_rule 30 = .ok (.ireturn, 1) := by decide +kernel
theorem dX9_rule_31 : decode cX9_rule 31 = .ok (.iload_n 2, 1) := by decide +kernel
theorem dX9_rule_32 : decode cX9_rule 32 = .ok (.ifCond .lt 16, 3) := by decide +kernel
theorem dX9_rule_35 : decode cX9_rule 35 = .ok (.iload_n 3, 1) := by decide +kernel
theorem dX9_rule_36 : decode cX9_rule 36 = .ok (.aload_n 0, 1) := by decide +kernel
theorem dX9_rule_37 : decode cX9_rule 37 = .ok (.getfield 7, 3) := by decide +kernel
theorem dX9_rule_40 : decode cX9_rule 40 = .ok (.if_icmp .lt 8, 3) := by decide +kernel
theorem dX9_rule_43 : decode cX9_rule 43 = .ok (.iload 5, 2) := by decide +kernel
theorem dX9_rule_45 : decode cX9_rule 45 = .ok (.ifCond .ge 10, 3) := by decide +kernel
theorem dX9_rule_48 : decode cX9_rule 48 = .ok (.aload_n 0, 1) := by decide +kernel
theorem dX9_rule_49 : decode cX9_rule 49 = .ok (.bipush (-4), 2) := by decide +kernel
theorem dX9_rule_51 : decode cX9_rule 51 = .ok (.invokevirtual 116, 3) := by decide +kernel
theorem dX9_rule_54 : decode cX9_rule 54 = .ok (.ireturn, 1) := by decide +kernel
theorem dX9_rule_55 : decode cX9_rule 55 = .ok (.iload_n 2, 1) := by decide +kernel
theorem dX9_rule_56 : decode cX9_rule 56 = .ok (.sipush 999, 3) := by decide +kernel
theorem dX9_rule_59 : decode cX9_rule 59 = .ok (.if_icmp .gt 29, 3) := by decide +kernel
theorem dX9_rule_62 : decode cX9_rule 62 = .ok (.iload_n 3, 1) := by decide +kernel
theorem dX9_rule_63 : decode cX9_rule 63 = .ok (.sipush 1000, 3) := by decide +kernel
theorem dX9_rule_66 : decode cX9_rule 66 = .ok (.if_icmp .gt 22, 3) := by decide +kernel
theorem dX9_rule_69 : decode cX9_rule 69 = .ok (.iload 5, 2) := by decide +kernel
theorem dX9_rule_71 : decode cX9_rule 71 = .ok (.bipush 60, 2) := by decide +kernel
theorem dX9_rule_73 : decode cX9_rule 73 = .ok (.if_icmp .gt 15, 3) := by decide +kernel
theorem dX9_rule_76 : decode cX9_rule 76 = .ok (.aload_n 0, 1) := by decide +kernel
theorem dX9_rule_77 : decode cX9_rule 77 = .ok (.getfield 45, 3) := by decide +kernel
theorem dX9_rule_80 : decode cX9_rule 80 = .ok (.getfield 169, 3) := by decide +kernel
theorem dX9_rule_83 : decode cX9_rule 83 = .ok (.bipush 30, 2) := by decide +kernel
theorem dX9_rule_85 : decode cX9_rule 85 = .ok (.if_icmp .lt 10, 3) := by decide +kernel
theorem dX9_rule_88 : decode cX9_rule 88 = .ok (.aload_n 0, 1) := by decide +kernel
theorem dX9_rule_89 : decode cX9_rule 89 = .ok (.bipush (-6), 2) := by decide +kernel
theorem dX9_rule_91 : decode cX9_rule 91 = .ok (.invokevirtual 116, 3) := by decide +kernel
theorem dX9_rule_94 : decode cX9_rule 94 = .ok (.ireturn, 1) := by decide +kernel
theorem dX9_rule_95 : decode cX9_rule 95 = .ok (.aload_n 0, 1) := by decide +kernel
theorem dX9_rule_96 : decode cX9_rule 96 = .ok (.getfield 45, 3) := by decide +kernel
theorem dX9_rule_99 : decode cX9_rule 99 = .ok (.iload_n 1, 1) := by decide +kernel
theorem dX9_rule_100 : decode cX9_rule 100 = .ok (.iload_n 2, 1) := by decide +kernel
theorem dX9_rule_101 : decode cX9_rule 101 = .ok (.iload_n 3, 1) := by decide +kernel
theorem dX9_rule_102 : decode cX9_rule 102 = .ok (.iload 4, 2) := by decide +kernel
theorem dX9_rule_104 : decode cX9_rule 104 = .ok (.iload 5, 2) := by decide +kernel
theorem dX9_rule_106 : decode cX9_rule 106 = .ok (.invokevirtual 170, 3) := by decide +kernel
theorem dX9_rule_109 : decode cX9_rule 109 = .ok (.ireturn, 1) := by decide +kernel
theorem dX9_force_0 : decode cX9_force 0 = .ok (.aload_n 0, 1) := by decide +kernel
theorem dX9_force_1 : decode cX9_force 1 = .ok (.iload_n 1, 1) := by decide +kernel
theorem dX9_force_2 : decode cX9_force 2 = .ok (.invokevirtual 153, 3) := by decide +kernel
theorem dX9_force_5 : decode cX9_force 5 = .ok (.istore_n 2, 1) := by decide +kernel
theorem dX9_force_6 : decode cX9_force 6 = .ok (.iload_n 2, 1) := by decide +kernel
theorem dX9_force_7 : decode cX9_force 7 = .ok (.ifCond .eq 9, 3) := by decide +kernel
theorem dX9_force_10 : decode cX9_force 10 = .ok (.aload_n 0, 1) := by decide +kernel
theorem dX9_force_11 : decode cX9_force 11 = .ok (.iload_n 2, 1) := by decide +kernel
theorem dX9_force_12 : decode cX9_force 12 = .ok (.invokevirtual 116, 3) := by decide +kernel
theorem dX9_force_15 : decode cX9_force 15 = .ok (.ireturn, 1) := by decide +kernel
theorem dX9_force_16 : decode cX9_force 16 = .ok (.aload_n 0, 1) := by decide +kernel
theorem dX9_force_17 : decode cX9_force 17 = .ok (.iload_n 1, 1) := by decide +kernel
theorem dX9_force_18 : decode cX9_force 18 = .ok (.invokevirtual 142, 3) := by decide +kernel
theorem dX9_force_21 : decode cX9_force 21 = .ok (.ireturn, 1) := by decide +kernel
theorem dX9_due_0 : decode cX9_due 0 = .ok (.aload_n 0, 1) := by decide +kernel
theorem dX9_due_1 : decode cX9_due 1 = .ok (.iload_n 1, 1) := by decide +kernel
theorem dX9_due_2 : decode cX9_due 2 = .ok (.invokevirtual 153, 3) := by decide +kernel
theorem dX9_due_5 : decode cX9_due 5 = .ok (.istore_n 2, 1) := by decide +kernel
theorem dX9_due_6 : decode cX9_due 6 = .ok (.iload_n 2, 1) := by decide +kernel
theorem dX9_due_7 : decode cX9_due 7 = .ok (.ifCond .eq 9, 3) := by decide +kernel
theorem dX9_due_10 : decode cX9_due 10 = .ok (.aload_n 0, 1) := by decide +kernel
theorem dX9_due_11 : decode cX9_due 11 = .ok (.iload_n 2, 1) := by decide +kernel
theorem dX9_due_12 : decode cX9_due 12 = .ok (.invokevirtual 116, 3) := by decide +kernel
theorem dX9_due_15 : decode cX9_due 15 = .ok (.ireturn, 1) := by decide +kernel
theorem dX9_due_16 : decode cX9_due 16 = .ok (.aload_n 0, 1) := by decide +kernel
theorem dX9_due_17 : decode cX9_due 17 = .ok (.iload_n 1, 1) := by decide +kernel
theorem dX9_due_18 : decode cX9_due 18 = .ok (.invokevirtual 173, 3) := by decide +kernel
theorem dX9_due_21 : decode cX9_due 21 = .ok (.ireturn, 1) := by decide +kernel
theorem dX9_overdue_0 : decode cX9_overdue 0 = .ok (.iconst 0, 1) := by decide +kernel
theorem dX9_overdue_1 : decode cX9_overdue 1 = .ok (.istore_n 1, 1) := by decide +kernel
theorem dX9_overdue_2 : decode cX9_overdue 2 = .ok (.iconst 0, 1) := by decide +kernel
theorem dX9_overdue_3 : decode cX9_overdue 3 = .ok (.istore_n 2, 1) := by decide +kernel
theorem dX9_overdue_4 : decode cX9_overdue 4 = .ok (.iload_n 2, 1) := by decide +kernel
theorem dX9_overdue_5 : decode cX9_overdue 5 = .ok (.aload_n 0, 1) := by decide +kernel
theorem dX9_overdue_6 : decode cX9_overdue 6 = .ok (.getfield 38, 3) := by decide +kernel
theorem dX9_overdue_9 : decode cX9_overdue 9 = .ok (.getfield 128, 3) := by decide +kernel
theorem dX9_overdue_12 : decode cX9_overdue 12 = .ok (.if_icmp .ge 32, 3) := by decide +kernel
theorem dX9_overdue_15 : decode cX9_overdue 15 = .ok (.aload_n 0, 1) := by decide +kernel
theorem dX9_overdue_16 : decode cX9_overdue 16 = .ok (.getfield 38, 3) := by decide +kernel
theorem dX9_overdue_19 : decode cX9_overdue 19 = .ok (.getfield 159, 3) := by decide +kernel
theorem dX9_overdue_22 : decode cX9_overdue 22 = .ok (.iload_n 2, 1) := by decide +kernel
theorem dX9_overdue_23 : decode cX9_overdue 23 = .ok (.baload, 1) := by decide +kernel
theorem dX9_overdue_24 : decode cX9_overdue 24 = .ok (.ifCond .eq 14, 3) := by decide +kernel
theorem dX9_overdue_27 : decode cX9_overdue 27 = .ok (.aload_n 0, 1) := by decide +kernel
theorem dX9_overdue_28 : decode cX9_overdue 28 = .ok (.iload_n 2, 1) := by decide +kernel
theorem dX9_overdue_29 : decode cX9_overdue 29 = .ok (.invokevirtual 176, 3) := by decide +kernel
theorem dX9_overdue_32 : decode cX9_overdue 32 = .ok (.ifCond .eq 6, 3) := by decide +kernel
theorem dX9_overdue_35 : decode cX9_overdue 35 = .ok (.iinc 1 1, 3) := by decide +kernel
theorem dX9_overdue_38 : decode cX9_overdue 38 = .ok (.iinc 2 1, 3) := by decide +kernel
theorem dX9_overdue_41 : decode cX9_overdue 41 = .ok (.goto (-37), 3) := by decide +kernel
theorem dX9_overdue_44 : decode cX9_overdue 44 = .ok (.iload_n 1, 1) := by decide +kernel
theorem dX9_overdue_45 : decode cX9_overdue 45 = .ok (.ireturn, 1) := by decide +kernel
theorem dX9_close_0 : decode cX9_close 0 = .ok (.aload_n 0, 1) := by decide +kernel
theorem dX9_close_1 : decode cX9_close 1 = .ok (.iload_n 1, 1) := by decide +kernel
theorem dX9_close_2 : decode cX9_close 2 = .ok (.invokevirtual 156, 3) := by decide +kernel
theorem dX9_close_5 : decode cX9_close 5 = .ok (.ifCond .ne 9, 3) := by decide +kernel
theorem dX9_close_8 : decode cX9_close 8 = .ok (.aload_n 0, 1) := by decide +kernel
theorem dX9_close_9 : decode cX9_close 9 = .ok (.iconst (-1), 1) := by decide +kernel
theorem dX9_close_10 : decode cX9_close 10 = .ok (.invokevirtual 116, 3) := by decide +kernel
theorem dX9_close_13 : decode cX9_close 13 = .ok (.ireturn, 1) := by decide +kernel
theorem dX9_close_14 : decode cX9_close 14 = .ok (.iload_n 2, 1) := by decide +kernel
theorem dX9_close_15 : decode cX9_close 15 = .ok (.iconst 2, 1) := by decide +kernel
theorem dX9_close_16 : decode cX9_close 16 = .ok (.if_icmp .eq 15, 3) := by decide +kernel
theorem dX9_close_19 : decode cX9_close 19 = .ok (.iload_n 2, 1) := by decide +kernel
theorem dX9_close_20 : decode cX9_close 20 = .ok (.iconst 3, 1) := by decide +kernel
theorem dX9_close_21 : decode cX9_close 21 = .ok (.if_icmp .eq 10, 3) := by decide +kernel
theorem dX9_close_24 : decode cX9_close 24 = .ok (.aload_n 0, 1) := by decide +kernel
theorem dX9_close_25 : decode cX9_close 25 = .ok (.bipush (-2), 2) := by decide +kernel
theorem dX9_close_27 : decode cX9_close 27 = .ok (.invokevirtual 116, 3) := by decide +kernel
theorem dX9_close_30 : decode cX9_close 30 = .ok (.ireturn, 1) := by decide +kernel
theorem dX9_close_31 : decode cX9_close 31 = .ok (.aload_n 0, 1) := by decide +kernel
theorem dX9_close_32 : decode cX9_close 32 = .ok (.getfield 38, 3) := by decide +kernel
theorem dX9_close_35 : decode cX9_close 35 = .ok (.getfield 159, 3) := by decide +kernel
theorem dX9_close_38 : decode cX9_close 38 = .ok (.iload_n 1, 1) := by decide +kernel
theorem dX9_close_39 : decode cX9_close 39 = .ok (.baload, 1) := by decide +kernel
theorem dX9_close_40 : decode cX9_close 40 = .ok (.ifCond .ne 10, 3) := by decide +kernel
theorem dX9_close_43 : decode cX9_close 43 = .ok (.aload_n 0, 1) := by decide +kernel
theorem dX9_close_44 : decode cX9_close 44 = .ok (.bipush (-3), 2) := by decide +kernel
theorem dX9_close_46 : decode cX9_close 46 = .ok (.invokevirtual 116, 3) := by decide +kernel
theorem dX9_close_49 : decode cX9_close 49 = .ok (.ireturn, 1) := by decide +kernel
theorem dX9_close_50 : decode cX9_close 50 = .ok (.aload_n 0, 1) := by decide +kernel
theorem dX9_close_51 : decode cX9_close 51 = .ok (.getfield 38, 3) := by decide +kernel
theorem dX9_close_54 : decode cX9_close 54 = .ok (.getfield 159, 3) := by decide +kernel
theorem dX9_close_57 : decode cX9_close 57 = .ok (.iload_n 1, 1) := by decide +kernel
theorem dX9_close_58 : decode cX9_close 58 = .ok (.iconst 0, 1) := by decide +kernel
theorem dX9_close_59 : decode cX9_close 59 = .ok (.bastore, 1) := by decide +kernel
theorem dX9_close_60 : decode cX9_close 60 = .ok (.iload_n 2, 1) := by decide +kernel
theorem dX9_close_61 : decode cX9_close 61 = .ok (.iconst 3, 1) := by decide +kernel
theorem dX9_close_62 : decode cX9_close 62 = .ok (.if_icmp .ne 26, 3) := by decide +kernel
theorem dX9_close_65 : decode cX9_close 65 = .ok (.aload_n 0, 1) := by decide +kernel
theorem dX9_close_66 : decode cX9_close 66 = .ok (.getfield 93, 3) := by decide +kernel
theorem dX9_close_69 : decode cX9_close 69 = .ok (.aload_n 0, 1) := by decide +kernel
theorem dX9_close_70 : decode cX9_close 70 = .ok (.getfield 38, 3) := by decide +kernel
theorem dX9_close_73 : decode cX9_close 73 = .ok (.getfield 179, 3) := by decide +kernel
theorem dX9_close_76 : decode cX9_close 76 = .ok (.iload_n 1, 1) := by decide +kernel
theorem dX9_close_77 : decode cX9_close 77 = .ok (.iaload, 1) := by decide +kernel
theorem dX9_close_78 : decode cX9_close 78 = .ok (.aload_n 0, 1) := by decide +kernel
theorem dX9_close_79 : decode cX9_close 79 = .ok (.getfield 17, 3) := by decide +kernel
theorem dX9_close_82 : decode cX9_close 82 = .ok (.iconst 3, 1) := by decide +kernel
theorem dX9_close_83 : decode cX9_close 83 = .ok (.iaload, 1) := by decide +kernel
theorem dX9_close_84 : decode cX9_close 84 = .ok (.invokevirtual 182, 3) := by decide +kernel
theorem dX9_close_87 : decode cX9_close 87 = .ok (.pop, 1) := by decide +kernel
theorem dX9_close_88 : decode cX9_close 88 = .ok (.iconst 1, 1) := by decide +kernel
theorem dX9_close_89 : decode cX9_close 89 = .ok (.ireturn, 1) := by decide +kernel
theorem dX9_slow_0 : decode cX9_slow 0 = .ok (.iload_n 1, 1) := by decide +kernel
theorem dX9_slow_1 : decode cX9_slow 1 = .ok (.invokestatic 125, 3) := by decide +kernel
theorem dX9_slow_4 : decode cX9_slow 4 = .ok (.ifCond .ne 9, 3) := by decide +kernel
theorem dX9_slow_7 : decode cX9_slow 7 = .ok (.aload_n 0, 1) := by decide +kernel
theorem dX9_slow_8 : decode cX9_slow 8 = .ok (.iconst (-1), 1) := by decide +kernel
theorem dX9_slow_9 : decode cX9_slow 9 = .ok (.invokevirtual 116, 3) := by decide +kernel
theorem dX9_slow_12 : decode cX9_slow 12 = .ok (.ireturn, 1) := by decide +kernel
theorem dX9_slow_13 : decode cX9_slow 13 = .ok (.aload_n 0, 1) := by decide +kernel
theorem dX9_slow_14 : decode cX9_slow 14 = .ok (.getfield 52, 3) := by decide +kernel
theorem dX9_slow_17 : decode cX9_slow 17 = .ok (.iload_n 1, 1) := by decide +kernel
theorem dX9_slow_18 : decode cX9_slow 18 = .ok (.invokevirtual 185, 3) := by decide +kernel
theorem dX9_slow_21 : decode cX9_slow 21 = .ok (.ifCond .eq 10, 3) := by decide +kernel
theorem dX9_slow_24 : decode cX9_slow 24 = .ok (.aload_n 0, 1) := by decide +kernel
theorem dX9_slow_25 : decode cX9_slow 25 = .ok (.bipush (-3), 2) := by decide +kernel
theorem dX9_slow_27 : decode cX9_slow 27 = .ok (.invokevirtual 116, 3) := by decide +kernel
theorem dX9_slow_30 : decode cX9_slow 30 = .ok (.ireturn, 1) := by decide +kernel
theorem dX9_slow_31 : decode cX9_slow 31 = .ok (.iload_n 2, 1) := by decide +kernel
theorem dX9_slow_32 : decode cX9_slow 32 = .ok (.iconst 1, 1) := by decide +kernel
theorem dX9_slow_33 : decode cX9_slow 33 = .ok (.if_icmp .ge 10, 3) := by decide +kernel
theorem dX9_slow_36 : decode cX9_slow 36 = .ok (.aload_n 0, 1) := by decide +kernel
theorem dX9_slow_37 : decode cX9_slow 37 = .ok (.bipush (-4), 2) := by decide +kernel
theorem dX9_slow_39 : decode cX9_slow 39 = .ok (.invokevirtual 116, 3) := by decide +kernel
theorem dX9_slow_42 : decode cX9_slow 42 = .ok (.ireturn, 1) := by decide +kernel
theorem dX9_slow_43 : decode cX9_slow 43 = .ok (.iload_n 2, 1) := by decide +kernel
theorem dX9_slow_44 : decode cX9_slow 44 = .ok (.bipush 30, 2) := by decide +kernel
theorem dX9_slow_46 : decode cX9_slow 46 = .ok (.if_icmp .le 10, 3) := by decide +kernel
theorem dX9_slow_49 : decode cX9_slow 49 = .ok (.aload_n 0, 1) := by decide +kernel
theorem dX9_slow_50 : decode cX9_slow 50 = .ok (.bipush (-6), 2) := by decide +kernel
theorem dX9_slow_52 : decode cX9_slow 52 = .ok (.invokevirtual 116, 3) := by decide +kernel
theorem dX9_slow_55 : decode cX9_slow 55 = .ok (.ireturn, 1) := by decide +kernel
theorem dX9_slow_56 : decode cX9_slow 56 = .ok (.aload_n 0, 1) := by decide +kernel
theorem dX9_slow_57 : decode cX9_slow 57 = .ok (.getfield 52, 3) := by decide +kernel
theorem dX9_slow_60 : decode cX9_slow 60 = .ok (.getfield 188, 3) := by decide +kernel
theorem dX9_slow_63 : decode cX9_slow 63 = .ok (.iload_n 1, 1) := by decide +kernel
theorem dX9_slow_64 : decode cX9_slow 64 = .ok (.iload_n 2, 1) := by decide +kernel
theorem dX9_slow_65 : decode cX9_slow 65 = .ok (.iastore, 1) := by decide +kernel
theorem dX9_slow_66 : decode cX9_slow 66 = .ok (.iconst 1, 1) := by decide +kernel
theorem dX9_slow_67 : decode cX9_slow 67 = .ok (.ireturn, 1) := by decide +kernel
theorem dX9_lift_0 : decode cX9_lift 0 = .ok (.iload_n 1, 1) := by decide +kernel
theorem dX9_lift_1 : decode cX9_lift 1 = .ok (.invokestatic 125, 3) := by decide +kernel
theorem dX9_lift_4 : decode cX9_lift 4 = .ok (.ifCond .ne 9, 3) := by decide +kernel
theorem dX9_lift_7 : decode cX9_lift 7 = .ok (.aload_n 0, 1) := by decide +kernel
theorem dX9_lift_8 : decode cX9_lift 8 = .ok (.iconst (-1), 1) := by decide +kernel
theorem dX9_lift_9 : decode cX9_lift 9 = .ok (.invokevirtual 116, 3) := by decide +kernel
theorem dX9_lift_12 : decode cX9_lift 12 = .ok (.ireturn, 1) := by decide +kernel
theorem dX9_lift_13 : decode cX9_lift 13 = .ok (.aload_n 0, 1) := by decide +kernel
theorem dX9_lift_14 : decode cX9_lift 14 = .ok (.getfield 52, 3) := by decide +kernel
theorem dX9_lift_17 : decode cX9_lift 17 = .ok (.iload_n 1, 1) := by decide +kernel
theorem dX9_lift_18 : decode cX9_lift 18 = .ok (.invokevirtual 185, 3) := by decide +kernel
theorem dX9_lift_21 : decode cX9_lift 21 = .ok (.ifCond .ne 10, 3) := by decide +kernel
theorem dX9_lift_24 : decode cX9_lift 24 = .ok (.aload_n 0, 1) := by decide +kernel
theorem dX9_lift_25 : decode cX9_lift 25 = .ok (.bipush (-3), 2) := by decide +kernel
theorem dX9_lift_27 : decode cX9_lift 27 = .ok (.invokevirtual 116, 3) := by decide +kernel
theorem dX9_lift_30 : decode cX9_lift 30 = .ok (.ireturn, 1) := by decide +kernel
theorem dX9_lift_31 : decode cX9_lift 31 = .ok (.aload_n 0, 1) := by decide +kernel
theorem dX9_lift_32 : decode cX9_lift 32 = .ok (.iload_n 1, 1) := by decide +kernel
theorem dX9_lift_33 : decode cX9_lift 33 = .ok (.invokevirtual 191, 3) := by decide +kernel
theorem dX9_lift_36 : decode cX9_lift 36 = .ok (.ifCond .ne 13, 3) := by decide +kernel
theorem dX9_lift_39 : decode cX9_lift 39 = .ok (.aload_n 0, 1) := by decide +kernel
theorem dX9_lift_40 : decode cX9_lift 40 = .ok (.iload_n 1, 1) := by decide +kernel
theorem dX9_lift_41 : decode cX9_lift 41 = .ok (.invokevirtual 194, 3) := by decide +kernel
theorem dX9_lift_44 : decode cX9_lift 44 = .ok (.bipush 20, 2) := by decide +kernel
theorem dX9_lift_46 : decode cX9_lift 46 = .ok (.if_icmp .le 5, 3) := by decide +kernel
theorem dX9_lift_49 : decode cX9_lift 49 = .ok (.iconst 0, 1) := by decide +kernel
theorem dX9_lift_50 : decode cX9_lift 50 = .ok (.ireturn, 1) := by decide +kernel
theorem dX9_lift_51 : decode cX9_lift 51 = .ok (.aload_n 0, 1) := by decide +kernel
theorem dX9_lift_52 : decode cX9_lift 52 = .ok (.getfield 52, 3) := by decide +kernel
theorem dX9_lift_55 : decode cX9_lift 55 = .ok (.getfield 188, 3) := by decide +kernel
theorem dX9_lift_58 : decode cX9_lift 58 = .ok (.iload_n 1, 1) := by decide +kernel
theorem dX9_lift_59 : decode cX9_lift 59 = .ok (.iconst 0, 1) := by decide +kernel
theorem dX9_lift_60 : decode cX9_lift 60 = .ok (.iastore, 1) := by decide +kernel
theorem dX9_lift_61 : decode cX9_lift 61 = .ok (.iconst 1, 1) := by decide +kernel
theorem dX9_lift_62 : decode cX9_lift 62 = .ok (.ireturn, 1) := by decide +kernel
theorem dX9_lost_0 : decode cX9_lost 0 = .ok (.aload_n 0, 1) := by decide +kernel
theorem dX9_lost_1 : decode cX9_lost 1 = .ok (.getfield 52, 3) := by decide +kernel
theorem dX9_lost_4 : decode cX9_lost 4 = .ok (.getfield 197, 3) := by decide +kernel
theorem dX9_lost_7 : decode cX9_lost 7 = .ok (.ireturn, 1) := by decide +kernel
theorem dX9_set_0 : decode cX9_set 0 = .ok (.iload_n 1, 1) := by decide +kernel
theorem dX9_set_1 : decode cX9_set 1 = .ok (.ifCond .lt 8, 3) := by decide +kernel
theorem dX9_set_4 : decode cX9_set 4 = .ok (.iload_n 1, 1) := by decide +kernel
theorem dX9_set_5 : decode cX9_set 5 = .ok (.iconst 3, 1) := by decide +kernel
theorem dX9_set_6 : decode cX9_set 6 = .ok (.if_icmp .le 10, 3) := by decide +kernel
theorem dX9_set_9 : decode cX9_set 9 = .ok (.aload_n 0, 1) := by decide +kernel
theorem dX9_set_10 : decode cX9_set 10 = .ok (.bipush (-2), 2) := by decide +kernel
theorem dX9_set_12 : decode cX9_set 12 = .ok (.invokevirtual 101, 3) := by decide +kernel
theorem dX9_set_15 : decode cX9_set 15 = .ok (.ireturn, 1) := by decide +kernel
theorem dX9_set_16 : decode cX9_set 16 = .ok (.iload_n 2, 1) := by decide +kernel
theorem dX9_set_17 : decode cX9_set 17 = .ok (.getstatic 200, 3) := by decide +kernel
theorem dX9_set_20 : decode cX9_set 20 = .ok (.iload_n 1, 1) := by decide +kernel
theorem dX9_set_21 : decode cX9_set 21 = .ok (.iaload, 1) := by decide +kernel
theorem dX9_set_22 : decode cX9_set 22 = .ok (.if_icmp .ge 10, 3) := by decide +kernel
theorem dX9_set_25 : decode cX9_set 25 = .ok (.aload_n 0, 1) := by decide +kernel
theorem dX9_set_26 : decode cX9_set 26 = .ok (.bipush (-4), 2) := by decide +kernel
theorem dX9_set_28 : decode cX9_set 28 = .ok (.invokevirtual 101, 3) := by decide +kernel
theorem dX9_set_31 : decode cX9_set 31 = .ok (.ireturn, 1) := by decide +kernel
theorem dX9_set_32 : decode cX9_set 32 = .ok (.iload_n 2, 1) := by decide +kernel
theorem dX9_set_33 : decode cX9_set 33 = .ok (.getstatic 203, 3) := by decide +kernel
theorem dX9_set_36 : decode cX9_set 36 = .ok (.iload_n 1, 1) := by decide +kernel
theorem dX9_set_37 : decode cX9_set 37 = .ok (.iaload, 1) := by decide +kernel
theorem dX9_set_38 : decode cX9_set 38 = .ok (.if_icmp .le 10, 3) := by decide +kernel
theorem dX9_set_41 : decode cX9_set 41 = .ok (.aload_n 0, 1) := by decide +kernel
theorem dX9_set_42 : decode cX9_set 42 = .ok (.bipush (-6), 2) := by decide +kernel
theorem dX9_set_44 : decode cX9_set 44 = .ok (.invokevirtual 101, 3) := by decide +kernel
theorem dX9_set_47 : decode cX9_set 47 = .ok (.ireturn, 1) := by decide +kernel
theorem dX9_set_48 : decode cX9_set 48 = .ok (.aload_n 0, 1) := by decide +kernel
theorem dX9_set_49 : decode cX9_set 49 = .ok (.getfield 17, 3) := by decide +kernel
theorem dX9_set_52 : decode cX9_set 52 = .ok (.iload_n 1, 1) := by decide +kernel
theorem dX9_set_53 : decode cX9_set 53 = .ok (.iaload, 1) := by decide +kernel
theorem dX9_set_54 : decode cX9_set 54 = .ok (.istore_n 3, 1) := by decide +kernel
theorem dX9_set_55 : decode cX9_set 55 = .ok (.aload_n 0, 1) := by decide +kernel
theorem dX9_set_56 : decode cX9_set 56 = .ok (.getfield 17, 3) := by decide +kernel
theorem dX9_set_59 : decode cX9_set 59 = .ok (.iload_n 1, 1) := by decide +kernel
theorem dX9_set_60 : decode cX9_set 60 = .ok (.iload_n 2, 1) := by decide +kernel
theorem dX9_set_61 : decode cX9_set 61 = .ok (.iastore, 1) := by decide +kernel
theorem dX9_set_62 : decode cX9_set 62 = .ok (.iload_n 3, 1) := by decide +kernel
theorem dX9_set_63 : decode cX9_set 63 = .ok (.ireturn, 1) := by decide +kernel
theorem dX9_days_0 : decode cX9_days 0 = .ok (.iload_n 1, 1) := by decide +kernel
theorem dX9_days_1 : decode cX9_days 1 = .ok (.iconst 1, 1) := by decide +kernel
theorem dX9_days_2 : decode cX9_days 2 = .ok (.if_icmp .ge 10, 3) := by decide +kernel
theorem dX9_days_5 : decode cX9_days 5 = .ok (.aload_n 0, 1) := by decide +kernel
theorem dX9_days_6 : decode cX9_days 6 = .ok (.bipush (-4), 2) := by decide +kernel
theorem dX9_days_8 : decode cX9_days 8 = .ok (.invokevirtual 116, 3) := by decide +kernel
theorem dX9_days_11 : decode cX9_days 11 = .ok (.ireturn, 1) := by decide +kernel
theorem dX9_days_12 : decode cX9_days 12 = .ok (.iload_n 1, 1) := by decide +kernel
theorem dX9_days_13 : decode cX9_days 13 = .ok (.sipush 1000, 3) := by decide +kernel
theorem dX9_days_16 : decode cX9_days 16 = .ok (.aload_n 0, 1) := by decide +kernel
theorem dX9_days_17 : decode cX9_days 17 = .ok (.getfield 7, 3) := by decide +kernel
theorem dX9_days_20 : decode cX9_days 20 = .ok (.isub, 1) := by decide +kernel
theorem dX9_days_21 : decode cX9_days 21 = .ok (.if_icmp .le 10, 3) := by decide +kernel
theorem dX9_days_24 : decode cX9_days 24 = .ok (.aload_n 0, 1) := by decide +kernel
theorem dX9_days_25 : decode cX9_days 25 = .ok (.bipush (-6), 2) := by decide +kernel
theorem dX9_days_27 : decode cX9_days 27 = .ok (.invokevirtual 116, 3) := by decide +kernel
theorem dX9_days_30 : decode cX9_days 30 = .ok (.ireturn, 1) := by decide +kernel
theorem dX9_days_31 : decode cX9_days 31 = .ok (.iconst 0, 1) := by decide +kernel
theorem dX9_days_32 : decode cX9_days 32 = .ok (.istore_n 2, 1) := by decide +kernel
theorem dX9_days_33 : decode cX9_days 33 = .ok (.iload_n 2, 1) := by decide +kernel
theorem dX9_days_34 : decode cX9_days 34 = .ok (.iload_n 1, 1) := by decide +kernel
theorem dX9_days_35 : decode cX9_days 35 = .ok (.if_icmp .ge 13, 3) := by decide +kernel
theorem dX9_days_38 : decode cX9_days 38 = .ok (.aload_n 0, 1) := by decide +kernel
theorem dX9_days_39 : decode cX9_days 39 = .ok (.invokevirtual 206, 3) := by decide +kernel
theorem dX9_days_42 : decode cX9_days 42 = .ok (.iinc 2 1, 3) := by decide +kernel
theorem dX9_days_45 : decode cX9_days 45 = .ok (.goto (-12), 3) := by decide +kernel
theorem dX9_days_48 : decode cX9_days 48 = .ok (.aload_n 0, 1) := by decide +kernel
theorem dX9_days_49 : decode cX9_days 49 = .ok (.getfield 7, 3) := by decide +kernel
theorem dX9_days_52 : decode cX9_days 52 = .ok (.ireturn, 1) := by decide +kernel
theorem dX9_train_0 : decode cX9_train 0 = .ok (.iload_n 1, 1) := by decide +kernel
theorem dX9_train_1 : decode cX9_train 1 = .ok (.ifCond .lt 8, 3) := by decide +kernel
theorem dX9_train_4 : decode cX9_train 4 = .ok (.iload_n 2, 1) := by decide +kernel
theorem dX9_train_5 : decode cX9_train 5 = .ok (.iconst 1, 1) := by decide +kernel
theorem dX9_train_6 : decode cX9_train 6 = .ok (.if_icmp .ge 10, 3) := by decide +kernel
theorem dX9_train_9 : decode cX9_train 9 = .ok (.aload_n 0, 1) := by decide +kernel
theorem dX9_train_10 : decode cX9_train 10 = .ok (.bipush (-4), 2) := by decide +kernel
theorem dX9_train_12 : decode cX9_train 12 = .ok (.invokevirtual 116, 3) := by decide +kernel
theorem dX9_train_15 : decode cX9_train 15 = .ok (.ireturn, 1) := by decide +kernel
theorem dX9_train_16 : decode cX9_train 16 = .ok (.iload_n 1, 1) := by decide +kernel
theorem dX9_train_17 : decode cX9_train 17 = .ok (.sipush 1439, 3) := by decide +kernel
theorem dX9_train_20 : decode cX9_train 20 = .ok (.if_icmp .gt 21, 3) := by decide +kernel
theorem dX9_train_23 : decode cX9_train 23 = .ok (.iload_n 2, 1) := by decide +kernel
theorem dX9_train_24 : decode cX9_train 24 = .ok (.bipush 9, 2) := by decide +kernel
theorem dX9_train_26 : decode cX9_train 26 = .ok (.if_icmp .gt 15, 3) := by decide +kernel
theorem dX9_train_29 : decode cX9_train 29 = .ok (.aload_n 0, 1) := by decide +kernel
theorem dX9_train_30 : decode cX9_train 30 = .ok (.getfield 59, 3) := by decide +kernel
theorem dX9_train_33 : decode cX9_train 33 = .ok (.getfield 209, 3) := by decide +kernel
theorem dX9_train_36 : decode cX9_train 36 = .ok (.bipush 24, 2) := by decide +kernel
theorem dX9_train_38 : decode cX9_train 38 = .ok (.if_icmp .lt 10, 3) := by decide +kernel
theorem dX9_train_41 : decode cX9_train 41 = .ok (.aload_n 0, 1) := by decide +kernel
theorem dX9_train_42 : decode cX9_train 42 = .ok (.bipush (-6), 2) := by decide +kernel
theorem dX9_train_44 : decode cX9_train 44 = .ok (.invokevirtual 116, 3) := by decide +kernel
theorem dX9_train_47 : decode cX9_train 47 = .ok (.ireturn, 1) := by decide +kernel
theorem dX9_train_48 : decode cX9_train 48 = .ok (.aload_n 0, 1) := by decide +kernel
theorem dX9_train_49 : decode cX9_train 49 = .ok (.getfield 59, 3) := by decide +kernel
theorem dX9_train_52 : decode cX9_train 52 = .ok (.iload_n 1, 1) := by decide +kernel
theorem dX9_train_53 : decode cX9_train 53 = .ok (.iload_n 2, 1) := by decide +kernel
theorem dX9_train_54 : decode cX9_train 54 = .ok (.invokevirtual 210, 3) := by decide +kernel
theorem dX9_train_57 : decode cX9_train 57 = .ok (.ireturn, 1) := by decide +kernel
theorem dX9_safe_0 : decode cX9_safe 0 = .ok (.iload_n 1, 1) := by decide +kernel
theorem dX9_safe_1 : decode cX9_safe 1 = .ok (.iload_n 2, 1) := by decide +kernel
theorem dX9_safe_2 : decode cX9_safe 2 = .ok (.iload_n 3, 1) := by decide +kernel
theorem dX9_safe_3 : decode cX9_safe 3 = .ok (.invokestatic 212, 3) := by decide +kernel
theorem dX9_safe_6 : decode cX9_safe 6 = .ok (.istore 4, 2) := by decide +kernel
theorem dX9_safe_8 : decode cX9_safe 8 = .ok (.iload 4, 2) := by decide +kernel
theorem dX9_safe_10 : decode cX9_safe 10 = .ok (.ifCond .eq 10, 3) := by decide +kernel
theorem dX9_safe_13 : decode cX9_safe 13 = .ok (.aload_n 0, 1) := by decide +kernel
theorem dX9_safe_14 : decode cX9_safe 14 = .ok (.iload 4, 2) := by decide +kernel
theorem dX9_safe_16 : decode cX9_safe 16 = .ok (.invokevirtual 116, 3) := by decide +kernel
theorem dX9_safe_19 : decode cX9_safe 19 = .ok (.ireturn, 1) := by decide +kernel
theorem dX9_safe_20 : decode cX9_safe 20 = .ok (.aload_n 0, 1) := by decide +kernel
theorem dX9_safe_21 : decode cX9_safe 21 = .ok (.getfield 59, 3) := by decide +kernel
theorem dX9_safe_24 : decode cX9_safe 24 = .ok (.iload_n 1, 1) := by decide +kernel
theorem dX9_safe_25 : decode cX9_safe 25 = .ok (.iload_n 2, 1) := by decide +kernel
theorem dX9_safe_26 : decode cX9_safe 26 = .ok (.iload_n 3, 1) := by decide +kernel
theorem dX9_safe_27 : decode cX9_safe 27 = .ok (.aload_n 0, 1) := by decide +kernel
theorem dX9_safe_28 : decode cX9_safe 28 = .ok (.getfield 17, 3) := by decide +kernel
theorem dX9_safe_31 : decode cX9_safe 31 = .ok (.iconst 1, 1) := by decide +kernel
theorem dX9_safe_32 : decode cX9_safe 32 = .ok (.iaload, 1) := by decide +kernel
theorem dX9_safe_33 : decode cX9_safe 33 = .ok (.invokevirtual 216, 3) := by decide +kernel
theorem dX9_safe_36 : decode cX9_safe 36 = .ok (.iload_n 3, 1) := by decide +kernel
theorem dX9_safe_37 : decode cX9_safe 37 = .ok (.if_icmp .ne 7, 3) := by decide +kernel
theorem dX9_safe_40 : decode cX9_safe 40 = .ok (.iconst 1, 1) := by decide +kernel
theorem dX9_safe_41 : decode cX9_safe 41 = .ok (.goto 4, 3) := by decide +kernel
theorem dX9_safe_44 : decode cX9_safe 44 = .ok (.iconst 0, 1) := by decide +kernel
theorem dX9_safe_45 : decode cX9_safe 45 = .ok (.ireturn, 1) := by decide +kernel
theorem dX9_first_0 : decode cX9_first 0 = .ok (.iload_n 1, 1) := by decide +kernel
theorem dX9_first_1 : decode cX9_first 1 = .ok (.iload_n 2, 1) := by decide +kernel
theorem dX9_first_2 : decode cX9_first 2 = .ok (.iload_n 3, 1) := by decide +kernel
theorem dX9_first_3 : decode cX9_first 3 = .ok (.invokestatic 212, 3) := by decide +kernel
theorem dX9_first_6 : decode cX9_first 6 = .ok (.istore 4, 2) := by decide +kernel
theorem dX9_first_8 : decode cX9_first 8 = .ok (.iload 4, 2) := by decide +kernel
theorem dX9_first_10 : decode cX9_first 10 = .ok (.ifCond .eq 10, 3) := by decide +kernel
theorem dX9_first_13 : decode cX9_first 13 = .ok (.aload_n 0, 1) := by decide +kernel
theorem dX9_first_14 : decode cX9_first 14 = .ok (.iload 4, 2) := by decide +kernel
theorem dX9_first_16 : decode cX9_first 16 = .ok (.invokevirtual 116, 3) := by decide +kernel
theorem dX9_first_19 : decode cX9_first 19 = .ok (.ireturn, 1) := by decide +kernel
theorem dX9_first_20 : decode cX9_first 20 = .ok (.aload_n 0, 1) := by decide +kernel
theorem dX9_first_21 : decode cX9_first 21 = .ok (.getfield 59, 3) := by decide +kernel
theorem dX9_first_24 : decode cX9_first 24 = .ok (.iload_n 1, 1) := by decide +kernel
theorem dX9_first_25 : decode cX9_first 25 = .ok (.iload_n 2, 1) := by decide +kernel
theorem dX9_first_26 : decode cX9_first 26 = .ok (.iload_n 3, 1) := by decide +kernel
theorem dX9_first_27 : decode cX9_first 27 = .ok (.aload_n 0, 1) := by decide +kernel
theorem dX9_first_28 : decode cX9_first 28 = .ok (.getfield 17, 3) := by decide +kernel
theorem dX9_first_31 : decode cX9_first 31 = .ok (.iconst 1, 1) := by decide +kernel
theorem dX9_first_32 : decode cX9_first 32 = .ok (.iaload, 1) := by decide +kernel
theorem dX9_first_33 : decode cX9_first 33 = .ok (.invokevirtual 219, 3) := by decide +kernel
theorem dX9_first_36 : decode cX9_first 36 = .ok (.ireturn, 1) := by decide +kernel
theorem dX9_walked_0 : decode cX9_walked 0 = .ok (.iload_n 1, 1) := by decide +kernel
theorem dX9_walked_1 : decode cX9_walked 1 = .ok (.iload_n 2, 1) := by decide +kernel
theorem dX9_walked_2 : decode cX9_walked 2 = .ok (.invokestatic 222, 3) := by decide +kernel
theorem dX9_walked_5 : decode cX9_walked 5 = .ok (.ifCond .ne 9, 3) := by decide +kernel
theorem dX9_walked_8 : decode cX9_walked 8 = .ok (.aload_n 0, 1) := by decide +kernel
theorem dX9_walked_9 : decode cX9_walked 9 = .ok (.iconst (-1), 1) := by decide +kernel
theorem dX9_walked_10 : decode cX9_walked 10 = .ok (.invokevirtual 116, 3) := by decide +kernel
theorem dX9_walked_13 : decode cX9_walked 13 = .ok (.ireturn, 1) := by decide +kernel
theorem dX9_walked_14 : decode cX9_walked 14 = .ok (.iload_n 1, 1) := by decide +kernel
theorem dX9_walked_15 : decode cX9_walked 15 = .ok (.istore_n 3, 1) := by decide +kernel
theorem dX9_walked_16 : decode cX9_walked 16 = .ok (.iload_n 3, 1) := by decide +kernel
theorem dX9_walked_17 : decode cX9_walked 17 = .ok (.iload_n 2, 1) := by decide +kernel
theorem dX9_walked_18 : decode cX9_walked 18 = .ok (.if_icmp .gt 19, 3) := by decide +kernel
theorem dX9_walked_21 : decode cX9_walked 21 = .ok (.aload_n 0, 1) := by decide +kernel
theorem dX9_walked_22 : decode cX9_walked 22 = .ok (.getfield 63, 3) := by decide +kernel
theorem dX9_walked_25 : decode cX9_walked 25 = .ok (.iload_n 3, 1) := by decide +kernel
theorem dX9_walked_26 : decode cX9_walked 26 = .ok (.aload_n 0, 1) := by decide +kernel
theorem dX9_walked_27 : decode cX9_walked 27 = .ok (.getfield 7, 3) := by decide +kernel
theorem dX9_walked_30 : decode cX9_walked 30 = .ok (.iastore, 1) := by decide +kernel
theorem dX9_walked_31 : decode cX9_walked 31 = .ok (.iinc 3 1, 3) := by decide +kernel
theorem dX9_walked_34 : decode cX9_walked 34 = .ok (.goto (-18), 3) := by decide +kernel
theorem dX9_walked_37 : decode cX9_walked 37 = .ok (.iload_n 2, 1) := by decide +kernel
theorem dX9_walked_38 : decode cX9_walked 38 = .ok (.iload_n 1, 1) := by decide +kernel
theorem dX9_walked_39 : decode cX9_walked 39 = .ok (.isub, 1) := by decide +kernel
theorem dX9_walked_40 : decode cX9_walked 40 = .ok (.iconst 1, 1) := by decide +kernel
theorem dX9_walked_41 : decode cX9_walked 41 = .ok (.iadd, 1) := by decide +kernel
theorem dX9_walked_42 : decode cX9_walked 42 = .ok (.ireturn, 1) := by decide +kernel
theorem dX9_risk_0 : decode cX9_risk 0 = .ok (.iload_n 1, 1) := by decide +kernel
theorem dX9_risk_1 : decode cX9_risk 1 = .ok (.invokestatic 125, 3) := by decide +kernel
theorem dX9_risk_4 : decode cX9_risk 4 = .ok (.ifCond .ne 9, 3) := by decide +kernel
theorem dX9_risk_7 : decode cX9_risk 7 = .ok (.aload_n 0, 1) := by decide +kernel
theorem dX9_risk_8 : decode cX9_risk 8 = .ok (.iconst (-1), 1) := by decide +kernel
theorem dX9_risk_9 : decode cX9_risk 9 = .ok (.invokevirtual 116, 3) := by decide +kernel
theorem dX9_risk_12 : decode cX9_risk 12 = .ok (.ireturn, 1) := by decide +kernel
theorem dX9_risk_13 : decode cX9_risk 13 = .ok (.aload_n 0, 1) := by decide +kernel
theorem dX9_risk_14 : decode cX9_risk 14 = .ok (.iload_n 1, 1) := by decide +kernel
theorem dX9_risk_15 : decode cX9_risk 15 = .ok (.invokevirtual 226, 3) := by decide +kernel
theorem dX9_risk_18 : decode cX9_risk 18 = .ok (.ireturn, 1) := by decide +kernel
theorem dX9_walks_0 : decode cX9_walks 0 = .ok (.iload_n 2, 1) := by decide +kernel
theorem dX9_walks_1 : decode cX9_walks 1 = .ok (.ifCond .lt 8, 3) := by decide +kernel
theorem dX9_walks_4 : decode cX9_walks 4 = .ok (.iload_n 2, 1) := by decide +kernel
theorem dX9_walks_5 : decode cX9_walks 5 = .ok (.iconst 2, 1) := by decide +kernel
theorem dX9_walks_6 : decode cX9_walks 6 = .ok (.if_icmp .le 10, 3) := by decide +kernel
theorem dX9_walks_9 : decode cX9_walks 9 = .ok (.aload_n 0, 1) := by decide +kernel
theorem dX9_walks_10 : decode cX9_walks 10 = .ok (.bipush (-2), 2) := by decide +kernel
theorem dX9_walks_12 : decode cX9_walks 12 = .ok (.invokevirtual 116, 3) := by decide +kernel
theorem dX9_walks_15 : decode cX9_walks 15 = .ok (.ireturn, 1) := by decide +kernel
theorem dX9_walks_16 : decode cX9_walks 16 = .ok (.iload_n 1, 1) := by decide +kernel
theorem dX9_walks_17 : decode cX9_walks 17 = .ok (.iconst 1, 1) := by decide +kernel
theorem dX9_walks_18 : decode cX9_walks 18 = .ok (.if_icmp .ge 10, 3) := by decide +kernel
theorem dX9_walks_21 : decode cX9_walks 21 = .ok (.aload_n 0, 1) := by decide +kernel
theorem dX9_walks_22 : decode cX9_walks 22 = .ok (.bipush (-4), 2) := by decide +kernel
theorem dX9_walks_24 : decode cX9_walks 24 = .ok (.invokevirtual 116, 3) := by decide +kernel
theorem dX9_walks_27 : decode cX9_walks 27 = .ok (.ireturn, 1) := by decide +kernel
theorem dX9_walks_28 : decode cX9_walks 28 = .ok (.iload_n 1, 1) := by decide +kernel
theorem dX9_walks_29 : decode cX9_walks 29 = .ok (.bipush 10, 2) := by decide +kernel
theorem dX9_walks_31 : decode cX9_walks 31 = .ok (.if_icmp .le 10, 3) := by decide +kernel
theorem dX9_walks_34 : decode cX9_walks 34 = .ok (.aload_n 0, 1) := by decide +kernel
theorem dX9_walks_35 : decode cX9_walks 35 = .ok (.bipush (-6), 2) := by decide +kernel
theorem dX9_walks_37 : decode cX9_walks 37 = .ok (.invokevirtual 116, 3) := by decide +kernel
theorem dX9_walks_40 : decode cX9_walks 40 = .ok (.ireturn, 1) := by decide +kernel
theorem dX9_walks_41 : decode cX9_walks 41 = .ok (.aload_n 0, 1) := by decide +kernel
theorem dX9_walks_42 : decode cX9_walks 42 = .ok (.invokevirtual 229, 3) := by decide +kernel
theorem dX9_walks_45 : decode cX9_walks 45 = .ok (.iconst (-1), 1) := by decide +kernel
theorem dX9_walks_46 : decode cX9_walks 46 = .ok (.istore_n 3, 1) := by decide +kernel
theorem dX9_walks_47 : decode cX9_walks 47 = .ok (.iconst 0, 1) := by decide +kernel
theorem dX9_walks_48 : decode cX9_walks 48 = .ok (.istore 4, 2) := by decide +kernel
theorem dX9_walks_50 : decode cX9_walks 50 = .ok (.iconst 0, 1) := by decide +kernel
theorem dX9_walks_51 : decode cX9_walks 51 = .ok (.istore 5, 2) := by decide +kernel
theorem dX9_walks_53 : decode cX9_walks 53 = .ok (.iconst 0, 1) := by decide +kernel
theorem dX9_walks_54 : decode cX9_walks 54 = .ok (.istore 6, 2) := by decide +kernel
theorem dX9_walks_56 : decode cX9_walks 56 = .ok (.iload 6, 2) := by decide +kernel
theorem dX9_walks_58 : decode cX9_walks 58 = .ok (.iconst 2, 1) := by decide +kernel
theorem dX9_walks_59 : decode cX9_walks 59 = .ok (.iload_n 1, 1) := by decide +kernel
theorem dX9_walks_60 : decode cX9_walks 60 = .ok (.imul, 1) := by decide +kernel
theorem dX9_walks_61 : decode cX9_walks 61 = .ok (.iadd, 1) := by decide +kernel
theorem dX9_walks_62 : decode cX9_walks 62 = .ok (.bipush 20, 2) := by decide +kernel
theorem dX9_walks_64 : decode cX9_walks 64 = .ok (.if_icmp .gt 64, 3) := by decide +kernel
theorem dX9_walks_67 : decode cX9_walks 67 = .ok (.iload 6, 2) := by decide +kernel
theorem dX9_walks_69 : decode cX9_walks 69 = .ok (.iload_n 1, 1) := by decide +kernel
theorem dX9_walks_70 : decode cX9_walks 70 = .ok (.iadd, 1) := by decide +kernel
theorem dX9_walks_71 : decode cX9_walks 71 = .ok (.istore 7, 2) := by decide +kernel
theorem dX9_walks_73 : decode cX9_walks 73 = .ok (.iload 7, 2) := by decide +kernel
theorem dX9_walks_75 : decode cX9_walks 75 = .ok (.iload_n 1, 1) := by decide +kernel
theorem dX9_walks_76 : decode cX9_walks 76 = .ok (.iadd, 1) := by decide +kernel
theorem dX9_walks_77 : decode cX9_walks 77 = .ok (.bipush 20, 2) := by decide +kernel
theorem dX9_walks_79 : decode cX9_walks 79 = .ok (.if_icmp .gt 43, 3) := by decide +kernel
theorem dX9_walks_82 : decode cX9_walks 82 = .ok (.aload_n 0, 1) := by decide +kernel
theorem dX9_walks_83 : decode cX9_walks 83 = .ok (.iload 6, 2) := by decide +kernel
theorem dX9_walks_85 : decode cX9_walks 85 = .ok (.iload_n 1, 1) := by decide +kernel
theorem dX9_walks_86 : decode cX9_walks 86 = .ok (.invokevirtual 232, 3) := by decide +kernel
theorem dX9_walks_89 : decode cX9_walks 89 = .ok (.aload_n 0, 1) := by decide +kernel
theorem dX9_walks_90 : decode cX9_walks 90 = .ok (.iload 7, 2) := by decide +kernel
theorem dX9_walks_92 : decode cX9_walks 92 = .ok (.iload_n 1, 1) := by decide +kernel
theorem dX9_walks_93 : decode cX9_walks 93 = .ok (.invokevirtual 232, 3) := by decide +kernel
theorem dX9_walks_96 : decode cX9_walks 96 = .ok (.iadd, 1) := by decide +kernel
theorem dX9_walks_97 : decode cX9_walks 97 = .ok (.istore 8, 2) := by decide +kernel
theorem dX9_walks_99 : decode cX9_walks 99 = .ok (.iload 8, 2) := by decide +kernel
theorem dX9_walks_101 : decode cX9_walks 101 = .ok (.iload_n 3, 1) := by decide +kernel
theorem dX9_walks_102 : decode cX9_walks 102 = .ok (.if_icmp .le 14, 3) := by decide +kernel
theorem dX9_walks_105 : decode cX9_walks 105 = .ok (.iload 8, 2) := by decide +kernel
theorem dX9_walks_107 : decode cX9_walks 107 = .ok (.istore_n 3, 1) := by decide +kernel
theorem dX9_walks_108 : decode cX9_walks 108 = .ok (.iload 6, 2) := by decide +kernel
theorem dX9_walks_110 : decode cX9_walks 110 = .ok (.istore 4, 2) := by decide +kernel
theorem dX9_walks_112 : decode cX9_walks 112 = .ok (.iload 7, 2) := by decide +kernel
theorem dX9_walks_114 : decode cX9_walks 114 = .ok (.istore 5, 2) := by decide +kernel
theorem dX9_walks_116 : decode cX9_walks 116 = .ok (.iinc 7 1, 3) := by decide +kernel
theorem dX9_walks_119 : decode cX9_walks 119 = .ok (.goto (-46), 3) := by decide +kernel
theorem dX9_walks_122 : decode cX9_walks 122 = .ok (.iinc 6 1, 3) := by decide +kernel
theorem dX9_walks_125 : decode cX9_walks 125 = .ok (.goto (-69), 3) := by decide +kernel
theorem dX9_walks_128 : decode cX9_walks 128 = .ok (.iload_n 2, 1) := by decide +kernel
theorem dX9_walks_129 : decode cX9_walks 129 = .ok (.ifCond .ne 7, 3) := by decide +kernel
theorem dX9_walks_132 : decode cX9_walks 132 = .ok (.iload_n 3, 1) := by decide +kernel
theorem dX9_walks_133 : decode cX9_walks 133 = .ok (.goto 15, 3) := by decide +kernel
theorem dX9_walks_136 : decode cX9_walks 136 = .ok (.iload_n 2, 1) := by decide +kernel
theorem dX9_walks_137 : decode cX9_walks 137 = .ok (.iconst 1, 1) := by decide +kernel
theorem dX9_walks_138 : decode cX9_walks 138 = .ok (.if_icmp .ne 8, 3) := by decide +kernel
theorem dX9_walks_141 : decode cX9_walks 141 = .ok (.iload 4, 2) := by decide +kernel
theorem dX9_walks_143 : decode cX9_walks 143 = .ok (.goto 5, 3) := by decide +kernel
theorem dX9_walks_146 : decode cX9_walks 146 = .ok (.iload 5, 2) := by decide +kernel
theorem dX9_walks_148 : decode cX9_walks 148 = .ok (.ireturn, 1) := by decide +kernel
theorem dX9_doubles_0 : decode cX9_doubles 0 = .ok (.iload_n 1, 1) := by decide +kernel
theorem dX9_doubles_1 : decode cX9_doubles 1 = .ok (.invokestatic 125, 3) := by decide +kernel
theorem dX9_doubles_4 : decode cX9_doubles 4 = .ok (.ifCond .ne 9, 3) := by decide +kernel
theorem dX9_doubles_7 : decode cX9_doubles 7 = .ok (.aload_n 0, 1) := by decide +kernel
theorem dX9_doubles_8 : decode cX9_doubles 8 = .ok (.iconst (-1), 1) := by decide +kernel
theorem dX9_doubles_9 : decode cX9_doubles 9 = .ok (.invokevirtual 116, 3) := by decide +kernel
theorem dX9_doubles_12 : decode cX9_doubles 12 = .ok (.ireturn, 1) := by decide +kernel
theorem dX9_doubles_13 : decode cX9_doubles 13 = .ok (.iload_n 2, 1) := by decide +kernel
theorem dX9_doubles_14 : decode cX9_doubles 14 = .ok (.ifCond .lt 12, 3) := by decide +kernel
theorem dX9_doubles_17 : decode cX9_doubles 17 = .ok (.iload_n 3, 1) := by decide +kernel
theorem dX9_doubles_18 : decode cX9_doubles 18 = .ok (.ifCond .lt 8, 3) := by decide +kernel
theorem dX9_doubles_21 : decode cX9_doubles 21 = .ok (.iload 4, 2) := by decide +kernel
theorem dX9_doubles_23 : decode cX9_doubles 23 = .ok (.ifCond .ge 10, 3) := by decide +kernel
theorem dX9_doubles_26 : decode cX9_doubles 26 = .ok (.aload_n 0, 1) := by decide +kernel
theorem dX9_doubles_27 : decode cX9_doubles 27 = .ok (.bipush (-4), 2) := by decide +kernel
theorem dX9_doubles_29 : decode cX9_doubles 29 = .ok (.invokevirtual 116, 3) := by decide +kernel
theorem dX9_doubles_32 : decode cX9_doubles 32 = .ok (.ireturn, 1) := by decide +kernel
theorem dX9_doubles_33 : decode cX9_doubles 33 = .ok (.iload_n 2, 1) := by decide +kernel
theorem dX9_doubles_34 : decode cX9_doubles 34 = .ok (.bipush 99, 2) := by decide +kernel
theorem dX9_doubles_36 : decode cX9_doubles 36 = .ok (.if_icmp .gt 31, 3) := by decide +kernel
theorem dX9_doubles_39 : decode cX9_doubles 39 = .ok (.iload_n 3, 1) := by decide +kernel
theorem dX9_doubles_40 : decode cX9_doubles 40 = .ok (.bipush 99, 2) := by decide +kernel
theorem dX9_doubles_42 : decode cX9_doubles 42 = .ok (.if_icmp .gt 25, 3) := by decide +kernel
theorem dX9_doubles_45 : decode cX9_doubles 45 = .ok (.iload 4, 2) := by decide +kernel
theorem dX9_doubles_47 : decode cX9_doubles 47 = .ok (.bipush 99, 2) := by decide +kernel
theorem dX9_doubles_49 : decode cX9_doubles 49 = .ok (.if_icmp .gt 18, 3) := by decide +kernel
theorem dX9_doubles_52 : decode cX9_doubles 52 = .ok (.aload_n 0, 1) := by decide +kernel
theorem dX9_doubles_53 : decode cX9_doubles 53 = .ok (.getfield 72, 3) := by decide +kernel
theorem dX9_doubles_56 : decode cX9_doubles 56 = .ok (.iload_n 1, 1) := by decide +kernel
theorem dX9_doubles_57 : decode cX9_doubles 57 = .ok (.iload_n 2, 1) := by decide +kernel
theorem dX9_doubles_58 : decode cX9_doubles 58 = .ok (.iload_n 3, 1) := by decide +kernel
theorem dX9_doubles_59 : decode cX9_doubles 59 = .ok (.iload 4, 2) := by decide +kernel
theorem dX9_doubles_61 : decode cX9_doubles 61 = .ok (.invokevirtual 235, 3) := by decide +kernel
theorem dX9_doubles_64 : decode cX9_doubles 64 = .ok (.ifCond .ne 10, 3) := by decide +kernel
theorem dX9_doubles_67 : decode cX9_doubles 67 = .ok (.aload_n 0, 1) := by decide +kernel
theorem dX9_doubles_68 : decode cX9_doubles 68 = .ok (.bipush (-6), 2) := by decide +kernel
theorem dX9_doubles_70 : decode cX9_doubles 70 = .ok (.invokevirtual 116, 3) := by decide +kernel
theorem dX9_doubles_73 : decode cX9_doubles 73 = .ok (.ireturn, 1) := by decide +kernel
theorem dX9_doubles_74 : decode cX9_doubles 74 = .ok (.aload_n 0, 1) := by decide +kernel
theorem dX9_doubles_75 : decode cX9_doubles 75 = .ok (.getfield 72, 3) := by decide +kernel
theorem dX9_doubles_78 : decode cX9_doubles 78 = .ok (.iload_n 1, 1) := by decide +kernel
theorem dX9_doubles_79 : decode cX9_doubles 79 = .ok (.iload_n 2, 1) := by decide +kernel
theorem dX9_doubles_80 : decode cX9_doubles 80 = .ok (.iload_n 3, 1) := by decide +kernel
theorem dX9_doubles_81 : decode cX9_doubles 81 = .ok (.iload 4, 2) := by decide +kernel
theorem dX9_doubles_83 : decode cX9_doubles 83 = .ok (.invokevirtual 239, 3) := by decide +kernel
theorem dX9_doubles_86 : decode cX9_doubles 86 = .ok (.iconst 1, 1) := by decide +kernel
theorem dX9_doubles_87 : decode cX9_doubles 87 = .ok (.ireturn, 1) := by decide +kernel
theorem dX9_eyes_0 : decode cX9_eyes 0 = .ok (.iload_n 1, 1) := by decide +kernel
theorem dX9_eyes_1 : decode cX9_eyes 1 = .ok (.invokestatic 125, 3) := by decide +kernel
theorem dX9_eyes_4 : decode cX9_eyes 4 = .ok (.ifCond .ne 9, 3) := by decide +kernel
theorem dX9_eyes_7 : decode cX9_eyes 7 = .ok (.aload_n 0, 1) := by decide +kernel
theorem dX9_eyes_8 : decode cX9_eyes 8 = .ok (.iconst (-1), 1) := by decide +kernel
theorem dX9_eyes_9 : decode cX9_eyes 9 = .ok (.invokevirtual 116, 3) := by decide +kernel
theorem dX9_eyes_12 : decode cX9_eyes 12 = .ok (.ireturn, 1) := by decide +kernel
theorem dX9_eyes_13 : decode cX9_eyes 13 = .ok (.iload_n 2, 1) := by decide +kernel
theorem dX9_eyes_14 : decode cX9_eyes 14 = .ok (.ifCond .lt 8, 3) := by decide +kernel
theorem dX9_eyes_17 : decode cX9_eyes 17 = .ok (.iload_n 2, 1) := by decide +kernel
theorem dX9_eyes_18 : decode cX9_eyes 18 = .ok (.iconst 1, 1) := by decide +kernel
theorem dX9_eyes_19 : decode cX9_eyes 19 = .ok (.if_icmp .le 10, 3) := by decide +kernel
theorem dX9_eyes_22 : decode cX9_eyes 22 = .ok (.aload_n 0, 1) := by decide +kernel
theorem dX9_eyes_23 : decode cX9_eyes 23 = .ok (.bipush (-2), 2) := by decide +kernel
theorem dX9_eyes_25 : decode cX9_eyes 25 = .ok (.invokevirtual 116, 3) := by decide +kernel
theorem dX9_eyes_28 : decode cX9_eyes 28 = .ok (.ireturn, 1) := by decide +kernel
theorem dX9_eyes_29 : decode cX9_eyes 29 = .ok (.iload_n 2, 1) := by decide +kernel
theorem dX9_eyes_30 : decode cX9_eyes 30 = .ok (.ifCond .ne 14, 3) := by decide +kernel
theorem dX9_eyes_33 : decode cX9_eyes 33 = .ok (.aload_n 0, 1) := by decide +kernel
theorem dX9_eyes_34 : decode cX9_eyes 34 = .ok (.getfield 72, 3) := by decide +kernel
theorem dX9_eyes_37 : decode cX9_eyes 37 = .ok (.iload_n 1, 1) := by decide +kernel
theorem dX9_eyes_38 : decode cX9_eyes 38 = .ok (.invokevirtual 242, 3) := by decide +kernel
theorem dX9_eyes_41 : decode cX9_eyes 41 = .ok (.goto 11, 3) := by decide +kernel
theorem dX9_eyes_44 : decode cX9_eyes 44 = .ok (.aload_n 0, 1) := by decide +kernel
theorem dX9_eyes_45 : decode cX9_eyes 45 = .ok (.getfield 72, 3) := by decide +kernel
theorem dX9_eyes_48 : decode cX9_eyes 48 = .ok (.iload_n 1, 1) := by decide +kernel
theorem dX9_eyes_49 : decode cX9_eyes 49 = .ok (.invokevirtual 245, 3) := by decide +kernel
theorem dX9_eyes_52 : decode cX9_eyes 52 = .ok (.ireturn, 1) := by decide +kernel
theorem dX9_line_0 : decode cX9_line 0 = .ok (.iload_n 1, 1) := by decide +kernel
theorem dX9_line_1 : decode cX9_line 1 = .ok (.invokestatic 125, 3) := by decide +kernel
theorem dX9_line_4 : decode cX9_line 4 = .ok (.ifCond .ne 9, 3) := by decide +kernel
theorem dX9_line_7 : decode cX9_line 7 = .ok (.aload_n 0, 1) := by decide +kernel
theorem dX9_line_8 : decode cX9_line 8 = .ok (.iconst (-1), 1) := by decide +kernel
theorem dX9_line_9 : decode cX9_line 9 = .ok (.invokevirtual 116, 3) := by decide +kernel
theorem dX9_line_12 : decode cX9_line 12 = .ok (.ireturn, 1) := by decide +kernel
theorem dX9_line_13 : decode cX9_line 13 = .ok (.iload_n 2, 1) := by decide +kernel
theorem dX9_line_14 : decode cX9_line 14 = .ok (.ifCond .lt 7, 3) := by decide +kernel
theorem dX9_line_17 : decode cX9_line 17 = .ok (.iload_n 3, 1) := by decide +kernel
theorem dX9_line_18 : decode cX9_line 18 = .ok (.ifCond .ge 10, 3) := by decide +kernel
theorem dX9_line_21 : decode cX9_line 21 = .ok (.aload_n 0, 1) := by decide +kernel
theorem dX9_line_22 : decode cX9_line 22 = .ok (.bipush (-4), 2) := by decide +kernel
theorem dX9_line_24 : decode cX9_line 24 = .ok (.invokevirtual 116, 3) := by decide +kernel
theorem dX9_line_27 : decode cX9_line 27 = .ok (.ireturn, 1) := by decide +kernel
theorem dX9_line_28 : decode cX9_line 28 = .ok (.iload_n 2, 1) := by decide +kernel
theorem dX9_line_29 : decode cX9_line 29 = .ok (.sipush 1759, 3) := by decide +kernel
theorem dX9_line_32 : decode cX9_line 32 = .ok (.if_icmp .gt 20, 3) := by decide +kernel
theorem dX9_line_35 : decode cX9_line 35 = .ok (.iload_n 3, 1) := by decide +kernel
theorem dX9_line_36 : decode cX9_line 36 = .ok (.iconst 1, 1) := by decide +kernel
theorem dX9_line_37 : decode cX9_line 37 = .ok (.if_icmp .gt 15, 3) := by decide +kernel
theorem dX9_line_40 : decode cX9_line 40 = .ok (.aload_n 0, 1) := by decide +kernel
theorem dX9_line_41 : decode cX9_line 41 = .ok (.getfield 79, 3) := by decide +kernel
theorem dX9_line_44 : decode cX9_line 44 = .ok (.getfield 248, 3) := by decide +kernel
theorem dX9_line_47 : decode cX9_line 47 = .ok (.bipush 8, 2) := by decide +kernel
theorem dX9_line_49 : decode cX9_line 49 = .ok (.if_icmp .lt 10, 3) := by decide +kernel
theorem dX9_line_52 : decode cX9_line 52 = .ok (.aload_n 0, 1) := by decide +kernel
theorem dX9_line_53 : decode cX9_line 53 = .ok (.bipush (-6), 2) := by decide +kernel
theorem dX9_line_55 : decode cX9_line 55 = .ok (.invokevirtual 116, 3) := by decide +kernel
theorem dX9_line_58 : decode cX9_line 58 = .ok (.ireturn, 1) := by decide +kernel
theorem dX9_line_59 : decode cX9_line 59 = .ok (.aload_n 0, 1) := by decide +kernel
theorem dX9_line_60 : decode cX9_line 60 = .ok (.getfield 79, 3) := by decide +kernel
theorem dX9_line_63 : decode cX9_line 63 = .ok (.iload_n 1, 1) := by decide +kernel
theorem dX9_line_64 : decode cX9_line 64 = .ok (.iload_n 2, 1) := by decide +kernel
theorem dX9_line_65 : decode cX9_line 65 = .ok (.iload_n 3, 1) := by decide +kernel
theorem dX9_line_66 : decode cX9_line 66 = .ok (.invokevirtual 249, 3) := by decide +kernel
theorem dX9_line_69 : decode cX9_line 69 = .ok (.ireturn, 1) := by decide +kernel
theorem dX9_join_0 : decode cX9_join 0 = .ok (.iload_n 1, 1) := by decide +kernel
theorem dX9_join_1 : decode cX9_join 1 = .ok (.ifCond .lt 8, 3) := by decide +kernel
theorem dX9_join_4 : decode cX9_join 4 = .ok (.iload_n 1, 1) := by decide +kernel
theorem dX9_join_5 : decode cX9_join 5 = .ok (.iconst 1, 1) := by decide +kernel
theorem dX9_join_6 : decode cX9_join 6 = .ok (.if_icmp .le 10, 3) := by decide +kernel
theorem dX9_join_9 : decode cX9_join 9 = .ok (.aload_n 0, 1) := by decide +kernel
theorem dX9_join_10 : decode cX9_join 10 = .ok (.bipush (-2), 2) := by decide +kernel
theorem dX9_join_12 : decode cX9_join 12 = .ok (.invokevirtual 116, 3) := by decide +kernel
theorem dX9_join_15 : decode cX9_join 15 = .ok (.ireturn, 1) := by decide +kernel
theorem dX9_join_16 : decode cX9_join 16 = .ok (.aload_n 0, 1) := by decide +kernel
theorem dX9_join_17 : decode cX9_join 17 = .ok (.getfield 79, 3) := by decide +kernel
