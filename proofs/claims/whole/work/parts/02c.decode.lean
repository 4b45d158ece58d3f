theorem dX9_join_20 : decode cX9_join 20 = .ok (.aload_n 0, 1) := by decide +kernel
theorem dX9_join_21 : decode cX9_join 21 = .ok (.getfield 38, 3) := by decide +kernel
theorem dX9_join_24 : decode cX9_join 24 = .ok (.aload_n 0, 1) := by decide +kernel
theorem dX9_join_25 : decode cX9_join 25 = .ok (.getfield 17, 3) := by decide +kernel
theorem dX9_join_28 : decode cX9_join 28 = .ok (.iconst 2, 1) := by decide +kernel
theorem dX9_join_29 : decode cX9_join 29 = .ok (.iaload, 1) := by decide +kernel
theorem dX9_join_30 : decode cX9_join 30 = .ok (.invokevirtual 251, 3) := by decide +kernel
theorem dX9_join_33 : decode cX9_join 33 = .ok (.lstore_n 2, 1) := by decide +kernel
theorem dX9_join_34 : decode cX9_join 34 = .ok (.iload_n 1, 1) := by decide +kernel
theorem dX9_join_35 : decode cX9_join 35 = .ok (.ifCond .ne 14, 3) := by decide +kernel
theorem dX9_join_38 : decode cX9_join 38 = .ok (.aload_n 0, 1) := by decide +kernel
theorem dX9_join_39 : decode cX9_join 39 = .ok (.getfield 79, 3) := by decide +kernel
theorem dX9_join_42 : decode cX9_join 42 = .ok (.lload_n 2, 1) := by decide +kernel
theorem dX9_join_43 : decode cX9_join 43 = .ok (.invokevirtual 255, 3) := by decide +kernel
theorem dX9_join_46 : decode cX9_join 46 = .ok (.goto 7, 3) := by decide +kernel
theorem dX9_join_49 : decode cX9_join 49 = .ok (.lload_n 2, 1) := by decide +kernel
theorem dX9_join_50 : decode cX9_join 50 = .ok (.invokestatic 259, 3) := by decide +kernel
theorem dX9_join_53 : decode cX9_join 53 = .ok (.ireturn, 1) := by decide +kernel
theorem dX9_joined_0 : decode cX9_joined 0 = .ok (.iload_n 1, 1) := by decide +kernel
theorem dX9_joined_1 : decode cX9_joined 1 = .ok (.ifCond .lt 14, 3) := by decide +kernel
theorem dX9_joined_4 : decode cX9_joined 4 = .ok (.iload_n 1, 1) := by decide +kernel
theorem dX9_joined_5 : decode cX9_joined 5 = .ok (.aload_n 0, 1) := by decide +kernel
theorem dX9_joined_6 : decode cX9_joined 6 = .ok (.getfield 79, 3) := by decide +kernel
theorem dX9_joined_9 : decode cX9_joined 9 = .ok (.getfield 248, 3) := by decide +kernel
theorem dX9_joined_12 : decode cX9_joined 12 = .ok (.if_icmp .lt 9, 3) := by decide +kernel
theorem dX9_joined_15 : decode cX9_joined 15 = .ok (.aload_n 0, 1) := by decide +kernel
theorem dX9_joined_16 : decode cX9_joined 16 = .ok (.iconst (-1), 1) := by decide +kernel
theorem dX9_joined_17 : decode cX9_joined 17 = .ok (.invokevirtual 116, 3) := by decide +kernel
theorem dX9_joined_20 : decode cX9_joined 20 = .ok (.ireturn, 1) := by decide +kernel
theorem dX9_joined_21 : decode cX9_joined 21 = .ok (.aload_n 0, 1) := by decide +kernel
theorem dX9_joined_22 : decode cX9_joined 22 = .ok (.getfield 79, 3) := by decide +kernel
theorem dX9_joined_25 : decode cX9_joined 25 = .ok (.aload_n 0, 1) := by decide +kernel
theorem dX9_joined_26 : decode cX9_joined 26 = .ok (.getfield 38, 3) := by decide +kernel
theorem dX9_joined_29 : decode cX9_joined 29 = .ok (.aload_n 0, 1) := by decide +kernel
theorem dX9_joined_30 : decode cX9_joined 30 = .ok (.getfield 17, 3) := by decide +kernel
theorem dX9_joined_33 : decode cX9_joined 33 = .ok (.iconst 2, 1) := by decide +kernel
theorem dX9_joined_34 : decode cX9_joined 34 = .ok (.iaload, 1) := by decide +kernel
theorem dX9_joined_35 : decode cX9_joined 35 = .ok (.invokevirtual 251, 3) := by decide +kernel
theorem dX9_joined_38 : decode cX9_joined 38 = .ok (.lstore_n 2, 1) := by decide +kernel
theorem dX9_joined_39 : decode cX9_joined 39 = .ok (.aload_n 0, 1) := by decide +kernel
theorem dX9_joined_40 : decode cX9_joined 40 = .ok (.getfield 38, 3) := by decide +kernel
theorem dX9_joined_43 : decode cX9_joined 43 = .ok (.lload_n 2, 1) := by decide +kernel
theorem dX9_joined_44 : decode cX9_joined 44 = .ok (.iload_n 1, 1) := by decide +kernel
theorem dX9_joined_45 : decode cX9_joined 45 = .ok (.invokestatic 262, 3) := by decide +kernel
theorem dX9_joined_48 : decode cX9_joined 48 = .ok (.invokevirtual 266, 3) := by decide +kernel
theorem dX9_joined_51 : decode cX9_joined 51 = .ok (.ireturn, 1) := by decide +kernel
theorem dX9_job_0 : decode cX9_job 0 = .ok (.iload_n 1, 1) := by decide +kernel
theorem dX9_job_1 : decode cX9_job 1 = .ok (.iconst 1, 1) := by decide +kernel
theorem dX9_job_2 : decode cX9_job 2 = .ok (.if_icmp .lt 11, 3) := by decide +kernel
theorem dX9_job_5 : decode cX9_job 5 = .ok (.iload_n 2, 1) := by decide +kernel
theorem dX9_job_6 : decode cX9_job 6 = .ok (.ifCond .lt 7, 3) := by decide +kernel
theorem dX9_job_9 : decode cX9_job 9 = .ok (.iload_n 3, 1) := by decide +kernel
theorem dX9_job_10 : decode cX9_job 10 = .ok (.ifCond .ge 10, 3) := by decide +kernel
theorem dX9_job_13 : decode cX9_job 13 = .ok (.aload_n 0, 1) := by decide +kernel
theorem dX9_job_14 : decode cX9_job 14 = .ok (.bipush (-4), 2) := by decide +kernel
theorem dX9_job_16 : decode cX9_job 16 = .ok (.invokevirtual 116, 3) := by decide +kernel
theorem dX9_job_19 : decode cX9_job 19 = .ok (.ireturn, 1) := by decide +kernel
theorem dX9_job_20 : decode cX9_job 20 = .ok (.iload_n 1, 1) := by decide +kernel
theorem dX9_job_21 : decode cX9_job 21 = .ok (.bipush 40, 2) := by decide +kernel
theorem dX9_job_23 : decode cX9_job 23 = .ok (.if_icmp .gt 28, 3) := by decide +kernel
theorem dX9_job_26 : decode cX9_job 26 = .ok (.iload_n 2, 1) := by decide +kernel
theorem dX9_job_27 : decode cX9_job 27 = .ok (.sipush 400, 3) := by decide +kernel
theorem dX9_job_30 : decode cX9_job 30 = .ok (.if_icmp .gt 21, 3) := by decide +kernel
theorem dX9_job_33 : decode cX9_job 33 = .ok (.iload_n 3, 1) := by decide +kernel
theorem dX9_job_34 : decode cX9_job 34 = .ok (.bipush 15, 2) := by decide +kernel
theorem dX9_job_36 : decode cX9_job 36 = .ok (.if_icmp .gt 15, 3) := by decide +kernel
theorem dX9_job_39 : decode cX9_job 39 = .ok (.aload_n 0, 1) := by decide +kernel
theorem dX9_job_40 : decode cX9_job 40 = .ok (.getfield 86, 3) := by decide +kernel
theorem dX9_job_43 : decode cX9_job 43 = .ok (.getfield 269, 3) := by decide +kernel
theorem dX9_job_46 : decode cX9_job 46 = .ok (.bipush 8, 2) := by decide +kernel
theorem dX9_job_48 : decode cX9_job 48 = .ok (.if_icmp .lt 10, 3) := by decide +kernel
theorem dX9_job_51 : decode cX9_job 51 = .ok (.aload_n 0, 1) := by decide +kernel
theorem dX9_job_52 : decode cX9_job 52 = .ok (.bipush (-6), 2) := by decide +kernel
theorem dX9_job_54 : decode cX9_job 54 = .ok (.invokevirtual 116, 3) := by decide +kernel
theorem dX9_job_57 : decode cX9_job 57 = .ok (.ireturn, 1) := by decide +kernel
theorem dX9_job_58 : decode cX9_job 58 = .ok (.aload_n 0, 1) := by decide +kernel
theorem dX9_job_59 : decode cX9_job 59 = .ok (.getfield 86, 3) := by decide +kernel
theorem dX9_job_62 : decode cX9_job 62 = .ok (.iload_n 1, 1) := by decide +kernel
theorem dX9_job_63 : decode cX9_job 63 = .ok (.iload_n 2, 1) := by decide +kernel
theorem dX9_job_64 : decode cX9_job 64 = .ok (.iload_n 3, 1) := by decide +kernel
theorem dX9_job_65 : decode cX9_job 65 = .ok (.invokevirtual 272, 3) := by decide +kernel
theorem dX9_job_68 : decode cX9_job 68 = .ok (.ireturn, 1) := by decide +kernel
theorem dX9_gang_0 : decode cX9_gang 0 = .ok (.iload_n 1, 1) := by decide +kernel
theorem dX9_gang_1 : decode cX9_gang 1 = .ok (.ifCond .lt 8, 3) := by decide +kernel
theorem dX9_gang_4 : decode cX9_gang 4 = .ok (.iload_n 1, 1) := by decide +kernel
theorem dX9_gang_5 : decode cX9_gang 5 = .ok (.iconst 1, 1) := by decide +kernel
theorem dX9_gang_6 : decode cX9_gang 6 = .ok (.if_icmp .le 9, 3) := by decide +kernel
theorem dX9_gang_9 : decode cX9_gang 9 = .ok (.aload_n 0, 1) := by decide +kernel
theorem dX9_gang_10 : decode cX9_gang 10 = .ok (.iconst (-1), 1) := by decide +kernel
theorem dX9_gang_11 : decode cX9_gang 11 = .ok (.invokevirtual 116, 3) := by decide +kernel
theorem dX9_gang_14 : decode cX9_gang 14 = .ok (.ireturn, 1) := by decide +kernel
theorem dX9_gang_15 : decode cX9_gang 15 = .ok (.iload_n 2, 1) := by decide +kernel
theorem dX9_gang_16 : decode cX9_gang 16 = .ok (.ifCond .ge 10, 3) := by decide +kernel
theorem dX9_gang_19 : decode cX9_gang 19 = .ok (.aload_n 0, 1) := by decide +kernel
theorem dX9_gang_20 : decode cX9_gang 20 = .ok (.bipush (-4), 2) := by decide +kernel
theorem dX9_gang_22 : decode cX9_gang 22 = .ok (.invokevirtual 116, 3) := by decide +kernel
theorem dX9_gang_25 : decode cX9_gang 25 = .ok (.ireturn, 1) := by decide +kernel
theorem dX9_gang_26 : decode cX9_gang 26 = .ok (.iload_n 2, 1) := by decide +kernel
theorem dX9_gang_27 : decode cX9_gang 27 = .ok (.bipush 15, 2) := by decide +kernel
theorem dX9_gang_29 : decode cX9_gang 29 = .ok (.if_icmp .le 10, 3) := by decide +kernel
theorem dX9_gang_32 : decode cX9_gang 32 = .ok (.aload_n 0, 1) := by decide +kernel
theorem dX9_gang_33 : decode cX9_gang 33 = .ok (.bipush (-6), 2) := by decide +kernel
theorem dX9_gang_35 : decode cX9_gang 35 = .ok (.invokevirtual 116, 3) := by decide +kernel
theorem dX9_gang_38 : decode cX9_gang 38 = .ok (.ireturn, 1) := by decide +kernel
theorem dX9_gang_39 : decode cX9_gang 39 = .ok (.aload_n 0, 1) := by decide +kernel
theorem dX9_gang_40 : decode cX9_gang 40 = .ok (.getfield 86, 3) := by decide +kernel
theorem dX9_gang_43 : decode cX9_gang 43 = .ok (.getfield 273, 3) := by decide +kernel
theorem dX9_gang_46 : decode cX9_gang 46 = .ok (.iload_n 1, 1) := by decide +kernel
theorem dX9_gang_47 : decode cX9_gang 47 = .ok (.iaload, 1) := by decide +kernel
theorem dX9_gang_48 : decode cX9_gang 48 = .ok (.istore_n 3, 1) := by decide +kernel
theorem dX9_gang_49 : decode cX9_gang 49 = .ok (.aload_n 0, 1) := by decide +kernel
theorem dX9_gang_50 : decode cX9_gang 50 = .ok (.getfield 86, 3) := by decide +kernel
theorem dX9_gang_53 : decode cX9_gang 53 = .ok (.getfield 273, 3) := by decide +kernel
theorem dX9_gang_56 : decode cX9_gang 56 = .ok (.iload_n 1, 1) := by decide +kernel
theorem dX9_gang_57 : decode cX9_gang 57 = .ok (.iload_n 2, 1) := by decide +kernel
theorem dX9_gang_58 : decode cX9_gang 58 = .ok (.iastore, 1) := by decide +kernel
theorem dX9_gang_59 : decode cX9_gang 59 = .ok (.iload_n 3, 1) := by decide +kernel
theorem dX9_gang_60 : decode cX9_gang 60 = .ok (.ireturn, 1) := by decide +kernel
theorem dX9_plan_0 : decode cX9_plan 0 = .ok (.iload_n 1, 1) := by decide +kernel
theorem dX9_plan_1 : decode cX9_plan 1 = .ok (.ifCond .lt 8, 3) := by decide +kernel
theorem dX9_plan_4 : decode cX9_plan 4 = .ok (.iload_n 1, 1) := by decide +kernel
theorem dX9_plan_5 : decode cX9_plan 5 = .ok (.iconst 1, 1) := by decide +kernel
theorem dX9_plan_6 : decode cX9_plan 6 = .ok (.if_icmp .le 10, 3) := by decide +kernel
theorem dX9_plan_9 : decode cX9_plan 9 = .ok (.aload_n 0, 1) := by decide +kernel
theorem dX9_plan_10 : decode cX9_plan 10 = .ok (.bipush (-2), 2) := by decide +kernel
theorem dX9_plan_12 : decode cX9_plan 12 = .ok (.invokevirtual 116, 3) := by decide +kernel
theorem dX9_plan_15 : decode cX9_plan 15 = .ok (.ireturn, 1) := by decide +kernel
theorem dX9_plan_16 : decode cX9_plan 16 = .ok (.aload_n 0, 1) := by decide +kernel
theorem dX9_plan_17 : decode cX9_plan 17 = .ok (.getfield 86, 3) := by decide +kernel
theorem dX9_plan_20 : decode cX9_plan 20 = .ok (.invokevirtual 276, 3) := by decide +kernel
theorem dX9_plan_23 : decode cX9_plan 23 = .ok (.istore_n 2, 1) := by decide +kernel
theorem dX9_plan_24 : decode cX9_plan 24 = .ok (.iload_n 2, 1) := by decide +kernel
theorem dX9_plan_25 : decode cX9_plan 25 = .ok (.bipush (-9), 2) := by decide +kernel
theorem dX9_plan_27 : decode cX9_plan 27 = .ok (.if_icmp .ne 6, 3) := by decide +kernel
theorem dX9_plan_30 : decode cX9_plan 30 = .ok (.bipush (-9), 2) := by decide +kernel
theorem dX9_plan_32 : decode cX9_plan 32 = .ok (.ireturn, 1) := by decide +kernel
theorem dX9_plan_33 : decode cX9_plan 33 = .ok (.iload_n 1, 1) := by decide +kernel
theorem dX9_plan_34 : decode cX9_plan 34 = .ok (.ifCond .ne 10, 3) := by decide +kernel
theorem dX9_plan_37 : decode cX9_plan 37 = .ok (.iload_n 2, 1) := by decide +kernel
theorem dX9_plan_38 : decode cX9_plan 38 = .ok (.invokestatic 280, 3) := by decide +kernel
theorem dX9_plan_41 : decode cX9_plan 41 = .ok (.goto 7, 3) := by decide +kernel
theorem dX9_plan_44 : decode cX9_plan 44 = .ok (.iload_n 2, 1) := by decide +kernel
theorem dX9_plan_45 : decode cX9_plan 45 = .ok (.invokestatic 283, 3) := by decide +kernel
theorem dX9_plan_48 : decode cX9_plan 48 = .ok (.ireturn, 1) := by decide +kernel
theorem dX9_gangOf_0 : decode cX9_gangOf 0 = .ok (.iload_n 1, 1) := by decide +kernel
theorem dX9_gangOf_1 : decode cX9_gangOf 1 = .ok (.ifCond .lt 14, 3) := by decide +kernel
theorem dX9_gangOf_4 : decode cX9_gangOf 4 = .ok (.iload_n 1, 1) := by decide +kernel
theorem dX9_gangOf_5 : decode cX9_gangOf 5 = .ok (.aload_n 0, 1) := by decide +kernel
theorem dX9_gangOf_6 : decode cX9_gangOf 6 = .ok (.getfield 86, 3) := by decide +kernel
theorem dX9_gangOf_9 : decode cX9_gangOf 9 = .ok (.getfield 269, 3) := by decide +kernel
theorem dX9_gangOf_12 : decode cX9_gangOf 12 = .ok (.if_icmp .lt 9, 3) := by decide +kernel
theorem dX9_gangOf_15 : decode cX9_gangOf 15 = .ok (.aload_n 0, 1) := by decide +kernel
theorem dX9_gangOf_16 : decode cX9_gangOf 16 = .ok (.iconst (-1), 1) := by decide +kernel
theorem dX9_gangOf_17 : decode cX9_gangOf 17 = .ok (.invokevirtual 116, 3) := by decide +kernel
theorem dX9_gangOf_20 : decode cX9_gangOf 20 = .ok (.ireturn, 1) := by decide +kernel
theorem dX9_gangOf_21 : decode cX9_gangOf 21 = .ok (.aload_n 0, 1) := by decide +kernel
theorem dX9_gangOf_22 : decode cX9_gangOf 22 = .ok (.getfield 86, 3) := by decide +kernel
theorem dX9_gangOf_25 : decode cX9_gangOf 25 = .ok (.invokevirtual 276, 3) := by decide +kernel
theorem dX9_gangOf_28 : decode cX9_gangOf 28 = .ok (.istore_n 2, 1) := by decide +kernel
theorem dX9_gangOf_29 : decode cX9_gangOf 29 = .ok (.iload_n 2, 1) := by decide +kernel
theorem dX9_gangOf_30 : decode cX9_gangOf 30 = .ok (.bipush (-9), 2) := by decide +kernel
theorem dX9_gangOf_32 : decode cX9_gangOf 32 = .ok (.if_icmp .ne 8, 3) := by decide +kernel
theorem dX9_gangOf_35 : decode cX9_gangOf 35 = .ok (.bipush (-9), 2) := by decide +kernel
theorem dX9_gangOf_37 : decode cX9_gangOf 37 = .ok (.goto 15, 3) := by decide +kernel
theorem dX9_gangOf_40 : decode cX9_gangOf 40 = .ok (.aload_n 0, 1) := by decide +kernel
theorem dX9_gangOf_41 : decode cX9_gangOf 41 = .ok (.getfield 86, 3) := by decide +kernel
theorem dX9_gangOf_44 : decode cX9_gangOf 44 = .ok (.iload_n 2, 1) := by decide +kernel
theorem dX9_gangOf_45 : decode cX9_gangOf 45 = .ok (.invokestatic 286, 3) := by decide +kernel
theorem dX9_gangOf_48 : decode cX9_gangOf 48 = .ok (.iload_n 1, 1) := by decide +kernel
theorem dX9_gangOf_49 : decode cX9_gangOf 49 = .ok (.invokevirtual 289, 3) := by decide +kernel
theorem dX9_gangOf_52 : decode cX9_gangOf 52 = .ok (.ireturn, 1) := by decide +kernel
theorem dX9_rail_0 : decode cX9_rail 0 = .ok (.iload_n 1, 1) := by decide +kernel
theorem dX9_rail_1 : decode cX9_rail 1 = .ok (.invokestatic 125, 3) := by decide +kernel
theorem dX9_rail_4 : decode cX9_rail 4 = .ok (.ifCond .ne 9, 3) := by decide +kernel
theorem dX9_rail_7 : decode cX9_rail 7 = .ok (.aload_n 0, 1) := by decide +kernel
theorem dX9_rail_8 : decode cX9_rail 8 = .ok (.iconst (-1), 1) := by decide +kernel
theorem dX9_rail_9 : decode cX9_rail 9 = .ok (.invokevirtual 101, 3) := by decide +kernel
theorem dX9_rail_12 : decode cX9_rail 12 = .ok (.ireturn, 1) := by decide +kernel
theorem dX9_rail_13 : decode cX9_rail 13 = .ok (.iload_n 2, 1) := by decide +kernel
theorem dX9_rail_14 : decode cX9_rail 14 = .ok (.ifCond .lt 8, 3) := by decide +kernel
theorem dX9_rail_17 : decode cX9_rail 17 = .ok (.iload_n 2, 1) := by decide +kernel
theorem dX9_rail_18 : decode cX9_rail 18 = .ok (.iconst 1, 1) := by decide +kernel
theorem dX9_rail_19 : decode cX9_rail 19 = .ok (.if_icmp .le 10, 3) := by decide +kernel
theorem dX9_rail_22 : decode cX9_rail 22 = .ok (.aload_n 0, 1) := by decide +kernel
theorem dX9_rail_23 : decode cX9_rail 23 = .ok (.bipush (-2), 2) := by decide +kernel
theorem dX9_rail_25 : decode cX9_rail 25 = .ok (.invokevirtual 101, 3) := by decide +kernel
theorem dX9_rail_28 : decode cX9_rail 28 = .ok (.ireturn, 1) := by decide +kernel
theorem dX9_rail_29 : decode cX9_rail 29 = .ok (.iload_n 3, 1) := by decide +kernel
theorem dX9_rail_30 : decode cX9_rail 30 = .ok (.iload_n 2, 1) := by decide +kernel
theorem dX9_rail_31 : decode cX9_rail 31 = .ok (.ifCond .ne 8, 3) := by decide +kernel
theorem dX9_rail_34 : decode cX9_rail 34 = .ok (.bipush (-30), 2) := by decide +kernel
theorem dX9_rail_36 : decode cX9_rail 36 = .ok (.goto 4, 3) := by decide +kernel
theorem dX9_rail_39 : decode cX9_rail 39 = .ok (.iconst 0, 1) := by decide +kernel
theorem dX9_rail_40 : decode cX9_rail 40 = .ok (.if_icmp .ge 10, 3) := by decide +kernel
theorem dX9_rail_43 : decode cX9_rail 43 = .ok (.aload_n 0, 1) := by decide +kernel
theorem dX9_rail_44 : decode cX9_rail 44 = .ok (.bipush (-4), 2) := by decide +kernel
theorem dX9_rail_46 : decode cX9_rail 46 = .ok (.invokevirtual 101, 3) := by decide +kernel
theorem dX9_rail_49 : decode cX9_rail 49 = .ok (.ireturn, 1) := by decide +kernel
theorem dX9_rail_50 : decode cX9_rail 50 = .ok (.iload_n 3, 1) := by decide +kernel
theorem dX9_rail_51 : decode cX9_rail 51 = .ok (.iload_n 2, 1) := by decide +kernel
theorem dX9_rail_52 : decode cX9_rail 52 = .ok (.ifCond .ne 8, 3) := by decide +kernel
theorem dX9_rail_55 : decode cX9_rail 55 = .ok (.bipush 50, 2) := by decide +kernel
theorem dX9_rail_57 : decode cX9_rail 57 = .ok (.goto 4, 3) := by decide +kernel
theorem dX9_rail_60 : decode cX9_rail 60 = .ok (.iconst 5, 1) := by decide +kernel
theorem dX9_rail_61 : decode cX9_rail 61 = .ok (.if_icmp .le 10, 3) := by decide +kernel
theorem dX9_rail_64 : decode cX9_rail 64 = .ok (.aload_n 0, 1) := by decide +kernel
theorem dX9_rail_65 : decode cX9_rail 65 = .ok (.bipush (-6), 2) := by decide +kernel
theorem dX9_rail_67 : decode cX9_rail 67 = .ok (.invokevirtual 101, 3) := by decide +kernel
theorem dX9_rail_70 : decode cX9_rail 70 = .ok (.ireturn, 1) := by decide +kernel
theorem dX9_rail_71 : decode cX9_rail 71 = .ok (.iload_n 2, 1) := by decide +kernel
theorem dX9_rail_72 : decode cX9_rail 72 = .ok (.ifCond .ne 15, 3) := by decide +kernel
theorem dX9_rail_75 : decode cX9_rail 75 = .ok (.aload_n 0, 1) := by decide +kernel
theorem dX9_rail_76 : decode cX9_rail 76 = .ok (.getfield 93, 3) := by decide +kernel
theorem dX9_rail_79 : decode cX9_rail 79 = .ok (.iload_n 1, 1) := by decide +kernel
theorem dX9_rail_80 : decode cX9_rail 80 = .ok (.iload_n 3, 1) := by decide +kernel
theorem dX9_rail_81 : decode cX9_rail 81 = .ok (.invokevirtual 182, 3) := by decide +kernel
theorem dX9_rail_84 : decode cX9_rail 84 = .ok (.goto 12, 3) := by decide +kernel
theorem dX9_rail_87 : decode cX9_rail 87 = .ok (.aload_n 0, 1) := by decide +kernel
theorem dX9_rail_88 : decode cX9_rail 88 = .ok (.getfield 93, 3) := by decide +kernel
theorem dX9_rail_91 : decode cX9_rail 91 = .ok (.iload_n 1, 1) := by decide +kernel
theorem dX9_rail_92 : decode cX9_rail 92 = .ok (.iload_n 3, 1) := by decide +kernel
theorem dX9_rail_93 : decode cX9_rail 93 = .ok (.invokevirtual 292, 3) := by decide +kernel
theorem dX9_rail_96 : decode cX9_rail 96 = .ok (.ireturn, 1) := by decide +kernel
theorem dX9_heat_0 : decode cX9_heat 0 = .ok (.iload_n 1, 1) := by decide +kernel
theorem dX9_heat_1 : decode cX9_heat 1 = .ok (.invokestatic 125, 3) := by decide +kernel
theorem dX9_heat_4 : decode cX9_heat 4 = .ok (.ifCond .ne 9, 3) := by decide +kernel
theorem dX9_heat_7 : decode cX9_heat 7 = .ok (.aload_n 0, 1) := by decide +kernel
theorem dX9_heat_8 : decode cX9_heat 8 = .ok (.iconst (-1), 1) := by decide +kernel
theorem dX9_heat_9 : decode cX9_heat 9 = .ok (.invokevirtual 116, 3) := by decide +kernel
theorem dX9_heat_12 : decode cX9_heat 12 = .ok (.ireturn, 1) := by decide +kernel
theorem dX9_heat_13 : decode cX9_heat 13 = .ok (.aload_n 0, 1) := by decide +kernel
theorem dX9_heat_14 : decode cX9_heat 14 = .ok (.iload_n 1, 1) := by decide +kernel
theorem dX9_heat_15 : decode cX9_heat 15 = .ok (.invokevirtual 194, 3) := by decide +kernel
theorem dX9_heat_18 : decode cX9_heat 18 = .ok (.ireturn, 1) := by decide +kernel
theorem dX9_lot_0 : decode cX9_lot 0 = .ok (.iload_n 1, 1) := by decide +kernel
theorem dX9_lot_1 : decode cX9_lot 1 = .ok (.ifCond .lt 8, 3) := by decide +kernel
theorem dX9_lot_4 : decode cX9_lot 4 = .ok (.iload_n 1, 1) := by decide +kernel
theorem dX9_lot_5 : decode cX9_lot 5 = .ok (.iconst 5, 1) := by decide +kernel
theorem dX9_lot_6 : decode cX9_lot 6 = .ok (.if_icmp .le 9, 3) := by decide +kernel
theorem dX9_lot_9 : decode cX9_lot 9 = .ok (.aload_n 0, 1) := by decide +kernel
theorem dX9_lot_10 : decode cX9_lot 10 = .ok (.iconst (-1), 1) := by decide +kernel
theorem dX9_lot_11 : decode cX9_lot 11 = .ok (.invokevirtual 116, 3) := by decide +kernel
theorem dX9_lot_14 : decode cX9_lot 14 = .ok (.ireturn, 1) := by decide +kernel
theorem dX9_lot_15 : decode cX9_lot 15 = .ok (.iload_n 2, 1) := by decide +kernel
theorem dX9_lot_16 : decode cX9_lot 16 = .ok (.ifCond .lt 8, 3) := by decide +kernel
theorem dX9_lot_19 : decode cX9_lot 19 = .ok (.iload_n 2, 1) := by decide +kernel
theorem dX9_lot_20 : decode cX9_lot 20 = .ok (.iconst 1, 1) := by decide +kernel
theorem dX9_lot_21 : decode cX9_lot 21 = .ok (.if_icmp .le 10, 3) := by decide +kernel
theorem dX9_lot_24 : decode cX9_lot 24 = .ok (.aload_n 0, 1) := by decide +kernel
theorem dX9_lot_25 : decode cX9_lot 25 = .ok (.bipush (-2), 2) := by decide +kernel
theorem dX9_lot_27 : decode cX9_lot 27 = .ok (.invokevirtual 116, 3) := by decide +kernel
theorem dX9_lot_30 : decode cX9_lot 30 = .ok (.ireturn, 1) := by decide +kernel
theorem dX9_lot_31 : decode cX9_lot 31 = .ok (.iload_n 2, 1) := by decide +kernel
theorem dX9_lot_32 : decode cX9_lot 32 = .ok (.ifCond .ne 15, 3) := by decide +kernel
theorem dX9_lot_35 : decode cX9_lot 35 = .ok (.aload_n 0, 1) := by decide +kernel
theorem dX9_lot_36 : decode cX9_lot 36 = .ok (.getfield 93, 3) := by decide +kernel
theorem dX9_lot_39 : decode cX9_lot 39 = .ok (.getfield 295, 3) := by decide +kernel
theorem dX9_lot_42 : decode cX9_lot 42 = .ok (.iload_n 1, 1) := by decide +kernel
theorem dX9_lot_43 : decode cX9_lot 43 = .ok (.iaload, 1) := by decide +kernel
theorem dX9_lot_44 : decode cX9_lot 44 = .ok (.goto 11, 3) := by decide +kernel
theorem dX9_lot_47 : decode cX9_lot 47 = .ok (.aload_n 0, 1) := by decide +kernel
theorem dX9_lot_48 : decode cX9_lot 48 = .ok (.getfield 93, 3) := by decide +kernel
theorem dX9_lot_51 : decode cX9_lot 51 = .ok (.iload_n 1, 1) := by decide +kernel
theorem dX9_lot_52 : decode cX9_lot 52 = .ok (.invokevirtual 298, 3) := by decide +kernel
theorem dX9_lot_55 : decode cX9_lot 55 = .ok (.ireturn, 1) := by decide +kernel
theorem dX9_worst_0 : decode cX9_worst 0 = .ok (.aload_n 0, 1) := by decide +kernel
theorem dX9_worst_1 : decode cX9_worst 1 = .ok (.getfield 93, 3) := by decide +kernel
theorem dX9_worst_4 : decode cX9_worst 4 = .ok (.invokevirtual 301, 3) := by decide +kernel
theorem dX9_worst_7 : decode cX9_worst 7 = .ok (.ireturn, 1) := by decide +kernel
theorem dX9_sure_0 : decode cX9_sure 0 = .ok (.aload_n 0, 1) := by decide +kernel
theorem dX9_sure_1 : decode cX9_sure 1 = .ok (.getfield 93, 3) := by decide +kernel
theorem dX9_sure_4 : decode cX9_sure 4 = .ok (.invokevirtual 304, 3) := by decide +kernel
theorem dX9_sure_7 : decode cX9_sure 7 = .ok (.ifCond .eq 7, 3) := by decide +kernel
theorem dX9_sure_10 : decode cX9_sure 10 = .ok (.iconst 1, 1) := by decide +kernel
theorem dX9_sure_11 : decode cX9_sure 11 = .ok (.goto 4, 3) := by decide +kernel
theorem dX9_sure_14 : decode cX9_sure 14 = .ok (.iconst 0, 1) := by decide +kernel
theorem dX9_sure_15 : decode cX9_sure 15 = .ok (.ireturn, 1) := by decide +kernel
theorem dX9_count_0 : decode cX9_count 0 = .ok (.iload_n 1, 1) := by decide +kernel
theorem dX9_count_1 : decode cX9_count 1 = .ok (.bipush 11, 2) := by decide +kernel
theorem dX9_count_3 : decode cX9_count 3 = .ok (.if_icmp .lt 19, 3) := by decide +kernel
theorem dX9_count_6 : decode cX9_count 6 = .ok (.iload_n 1, 1) := by decide +kernel
theorem dX9_count_7 : decode cX9_count 7 = .ok (.bipush 16, 2) := by decide +kernel
theorem dX9_count_9 : decode cX9_count 9 = .ok (.if_icmp .gt 13, 3) := by decide +kernel
theorem dX9_count_12 : decode cX9_count 12 = .ok (.aload_n 0, 1) := by decide +kernel
theorem dX9_count_13 : decode cX9_count 13 = .ok (.getfield 13, 3) := by decide +kernel
theorem dX9_count_16 : decode cX9_count 16 = .ok (.iload_n 1, 1) := by decide +kernel
theorem dX9_count_17 : decode cX9_count 17 = .ok (.bipush 10, 2) := by decide +kernel
theorem dX9_count_19 : decode cX9_count 19 = .ok (.isub, 1) := by decide +kernel
theorem dX9_count_20 : decode cX9_count 20 = .ok (.iaload, 1) := by decide +kernel
theorem dX9_count_21 : decode cX9_count 21 = .ok (.ireturn, 1) := by decide +kernel
theorem dX9_count_22 : decode cX9_count 22 = .ok (.iload_n 1, 1) := by decide +kernel
theorem dX9_count_23 : decode cX9_count 23 = .ok (.tableswitch 130 0 9 #[53, 58, 66, 74, 82, 90, 98, 106, 114, 122], 53) := by decide +kernel
theorem dX9_count_76 : decode cX9_count 76 = .ok (.aload_n 0, 1) := by decide +kernel
theorem dX9_count_77 : decode cX9_count 77 = .ok (.getfield 7, 3) := by decide +kernel
theorem dX9_count_80 : decode cX9_count 80 = .ok (.ireturn, 1) := by decide +kernel
theorem dX9_count_81 : decode cX9_count 81 = .ok (.aload_n 0, 1) := by decide +kernel
theorem dX9_count_82 : decode cX9_count 82 = .ok (.getfield 38, 3) := by decide +kernel
theorem dX9_count_85 : decode cX9_count 85 = .ok (.getfield 128, 3) := by decide +kernel
theorem dX9_count_88 : decode cX9_count 88 = .ok (.ireturn, 1) := by decide +kernel
theorem dX9_count_89 : decode cX9_count 89 = .ok (.aload_n 0, 1) := by decide +kernel
theorem dX9_count_90 : decode cX9_count 90 = .ok (.getfield 38, 3) := by decide +kernel
theorem dX9_count_93 : decode cX9_count 93 = .ok (.invokevirtual 308, 3) := by decide +kernel
theorem dX9_count_96 : decode cX9_count 96 = .ok (.ireturn, 1) := by decide +kernel
theorem dX9_count_97 : decode cX9_count 97 = .ok (.aload_n 0, 1) := by decide +kernel
theorem dX9_count_98 : decode cX9_count 98 = .ok (.getfield 38, 3) := by decide +kernel
theorem dX9_count_101 : decode cX9_count 101 = .ok (.getfield 131, 3) := by decide +kernel
theorem dX9_count_104 : decode cX9_count 104 = .ok (.ireturn, 1) := by decide +kernel
theorem dX9_count_105 : decode cX9_count 105 = .ok (.aload_n 0, 1) := by decide +kernel
theorem dX9_count_106 : decode cX9_count 106 = .ok (.getfield 38, 3) := by decide +kernel
theorem dX9_count_109 : decode cX9_count 109 = .ok (.getfield 311, 3) := by decide +kernel
theorem dX9_count_112 : decode cX9_count 112 = .ok (.ireturn, 1) := by decide +kernel
theorem dX9_count_113 : decode cX9_count 113 = .ok (.aload_n 0, 1) := by decide +kernel
theorem dX9_count_114 : decode cX9_count 114 = .ok (.getfield 45, 3) := by decide +kernel
theorem dX9_count_117 : decode cX9_count 117 = .ok (.getfield 169, 3) := by decide +kernel
theorem dX9_count_120 : decode cX9_count 120 = .ok (.ireturn, 1) := by decide +kernel
theorem dX9_count_121 : decode cX9_count 121 = .ok (.aload_n 0, 1) := by decide +kernel
theorem dX9_count_122 : decode cX9_count 122 = .ok (.getfield 52, 3) := by decide +kernel
theorem dX9_count_125 : decode cX9_count 125 = .ok (.invokevirtual 314, 3) := by decide +kernel
theorem dX9_count_128 : decode cX9_count 128 = .ok (.ireturn, 1) := by decide +kernel
theorem dX9_count_129 : decode cX9_count 129 = .ok (.aload_n 0, 1) := by decide +kernel
theorem dX9_count_130 : decode cX9_count 130 = .ok (.getfield 59, 3) := by decide +kernel
theorem dX9_count_133 : decode cX9_count 133 = .ok (.getfield 209, 3) := by decide +kernel
theorem dX9_count_136 : decode cX9_count 136 = .ok (.ireturn, 1) := by decide +kernel
theorem dX9_count_137 : decode cX9_count 137 = .ok (.aload_n 0, 1) := by decide +kernel
theorem dX9_count_138 : decode cX9_count 138 = .ok (.getfield 79, 3) := by decide +kernel
theorem dX9_count_141 : decode cX9_count 141 = .ok (.getfield 248, 3) := by decide +kernel
theorem dX9_count_144 : decode cX9_count 144 = .ok (.ireturn, 1) := by decide +kernel
theorem dX9_count_145 : decode cX9_count 145 = .ok (.aload_n 0, 1) := by decide +kernel
theorem dX9_count_146 : decode cX9_count 146 = .ok (.getfield 86, 3) := by decide +kernel
theorem dX9_count_149 : decode cX9_count 149 = .ok (.getfield 269, 3) := by decide +kernel
theorem dX9_count_152 : decode cX9_count 152 = .ok (.ireturn, 1) := by decide +kernel
theorem dX9_count_153 : decode cX9_count 153 = .ok (.bipush (-9), 2) := by decide +kernel
theorem dX9_count_155 : decode cX9_count 155 = .ok (.ireturn, 1) := by decide +kernel
theorem dX9_refuse_0 : decode cX9_refuse 0 = .ok (.aload_n 0, 1) := by decide +kernel
theorem dX9_refuse_1 : decode cX9_refuse 1 = .ok (.getfield 13, 3) := by decide +kernel
theorem dX9_refuse_4 : decode cX9_refuse 4 = .ok (.iload_n 1, 1) := by decide +kernel
theorem dX9_refuse_5 : decode cX9_refuse 5 = .ok (.ineg, 1) := by decide +kernel
theorem dX9_refuse_6 : decode cX9_refuse 6 = .ok (.dup2, 1) := by decide +kernel
theorem dX9_refuse_7 : decode cX9_refuse 7 = .ok (.iaload, 1) := by decide +kernel
theorem dX9_refuse_8 : decode cX9_refuse 8 = .ok (.iconst 1, 1) := by decide +kernel
theorem dX9_refuse_9 : decode cX9_refuse 9 = .ok (.iadd, 1) := by decide +kernel
theorem dX9_refuse_10 : decode cX9_refuse 10 = .ok (.iastore, 1) := by decide +kernel
theorem dX9_refuse_11 : decode cX9_refuse 11 = .ok (.iload_n 1, 1) := by decide +kernel
theorem dX9_refuse_12 : decode cX9_refuse 12 = .ok (.ireturn, 1) := by decide +kernel
theorem dX9_refuseAsTold_0 : decode cX9_refuseAsTold 0 = .ok (.ldc_w 317, 3) := by decide +kernel
theorem dX9_refuseAsTold_3 : decode cX9_refuseAsTold 3 = .ok (.aload_n 0, 1) := by decide +kernel
theorem dX9_refuseAsTold_4 : decode cX9_refuseAsTold 4 = .ok (.iload_n 1, 1) := by decide +kernel
theorem dX9_refuseAsTold_5 : decode cX9_refuseAsTold 5 = .ok (.invokevirtual 116, 3) := by decide +kernel
theorem dX9_refuseAsTold_8 : decode cX9_refuseAsTold 8 = .ok (.isub, 1) := by decide +kernel
theorem dX9_refuseAsTold_9 : decode cX9_refuseAsTold 9 = .ok (.ireturn, 1) := by decide +kernel
theorem dX9_isDay_0 : decode cX9_isDay 0 = .ok (.iload_n 0, 1) := by decide +kernel
theorem dX9_isDay_1 : decode cX9_isDay 1 = .ok (.ifCond .lt 14, 3) := by decide +kernel
theorem dX9_isDay_4 : decode cX9_isDay 4 = .ok (.iload_n 0, 1) := by decide +kernel
theorem dX9_isDay_5 : decode cX9_isDay 5 = .ok (.sipush 1000, 3) := by decide +kernel
theorem dX9_isDay_8 : decode cX9_isDay 8 = .ok (.if_icmp .gt 7, 3) := by decide +kernel
theorem dX9_isDay_11 : decode cX9_isDay 11 = .ok (.iconst 1, 1) := by decide +kernel
theorem dX9_isDay_12 : decode cX9_isDay 12 = .ok (.goto 4, 3) := by decide +kernel
theorem dX9_isDay_15 : decode cX9_isDay 15 = .ok (.iconst 0, 1) := by decide +kernel
theorem dX9_isDay_16 : decode cX9_isDay 16 = .ok (.ireturn, 1) := by decide +kernel
theorem dX9_isMile_0 : decode cX9_isMile 0 = .ok (.iload_n 0, 1) := by decide +kernel
theorem dX9_isMile_1 : decode cX9_isMile 1 = .ok (.ifCond .lt 13, 3) := by decide +kernel
theorem dX9_isMile_4 : decode cX9_isMile 4 = .ok (.iload_n 0, 1) := by decide +kernel
theorem dX9_isMile_5 : decode cX9_isMile 5 = .ok (.bipush 20, 2) := by decide +kernel
theorem dX9_isMile_7 : decode cX9_isMile 7 = .ok (.if_icmp .ge 7, 3) := by decide +kernel
theorem dX9_isMile_10 : decode cX9_isMile 10 = .ok (.iconst 1, 1) := by decide +kernel
theorem dX9_isMile_11 : decode cX9_isMile 11 = .ok (.goto 4, 3) := by decide +kernel
theorem dX9_isMile_14 : decode cX9_isMile 14 = .ok (.iconst 0, 1) := by decide +kernel
theorem dX9_isMile_15 : decode cX9_isMile 15 = .ok (.ireturn, 1) := by decide +kernel
theorem dX9_isRange_0 : decode cX9_isRange 0 = .ok (.iload_n 0, 1) := by decide +kernel
theorem dX9_isRange_1 : decode cX9_isRange 1 = .ok (.invokestatic 125, 3) := by decide +kernel
theorem dX9_isRange_4 : decode cX9_isRange 4 = .ok (.ifCond .eq 19, 3) := by decide +kernel
theorem dX9_isRange_7 : decode cX9_isRange 7 = .ok (.iload_n 1, 1) := by decide +kernel
theorem dX9_isRange_8 : decode cX9_isRange 8 = .ok (.invokestatic 125, 3) := by decide +kernel
theorem dX9_isRange_11 : decode cX9_isRange 11 = .ok (.ifCond .eq 12, 3) := by decide +kernel
theorem dX9_isRange_14 : decode cX9_isRange 14 = .ok (.iload_n 0, 1) := by decide +kernel
theorem dX9_isRange_15 : decode cX9_isRange 15 = .ok (.iload_n 1, 1) := by decide +kernel
theorem dX9_isRange_16 : decode cX9_isRange 16 = .ok (.if_icmp .gt 7, 3) := by decide +kernel
theorem dX9_isRange_19 : decode cX9_isRange 19 = .ok (.iconst 1, 1) := by decide +kernel
theorem dX9_isRange_20 : decode cX9_isRange 20 = .ok (.goto 4, 3) := by decide +kernel
theorem dX9_isRange_23 : decode cX9_isRange 23 = .ok (.iconst 0, 1) := by decide +kernel
theorem dX9_isRange_24 : decode cX9_isRange 24 = .ok (.ireturn, 1) := by decide +kernel
theorem dX9_isKind_0 : decode cX9_isKind 0 = .ok (.iload_n 0, 1) := by decide +kernel
theorem dX9_isKind_1 : decode cX9_isKind 1 = .ok (.ifCond .lt 12, 3) := by decide +kernel
theorem dX9_isKind_4 : decode cX9_isKind 4 = .ok (.iload_n 0, 1) := by decide +kernel
theorem dX9_isKind_5 : decode cX9_isKind 5 = .ok (.iconst 4, 1) := by decide +kernel
theorem dX9_isKind_6 : decode cX9_isKind 6 = .ok (.if_icmp .ge 7, 3) := by decide +kernel
theorem dX9_isKind_9 : decode cX9_isKind 9 = .ok (.iconst 1, 1) := by decide +kernel
theorem dX9_isKind_10 : decode cX9_isKind 10 = .ok (.goto 4, 3) := by decide +kernel
theorem dX9_isKind_13 : decode cX9_isKind 13 = .ok (.iconst 0, 1) := by decide +kernel
theorem dX9_isKind_14 : decode cX9_isKind 14 = .ok (.ireturn, 1) := by decide +kernel
theorem dX9_isDefect_0 : decode cX9_isDefect 0 = .ok (.iload_n 1, 1) := by decide +kernel
theorem dX9_isDefect_1 : decode cX9_isDefect 1 = .ok (.ifCond .lt 18, 3) := by decide +kernel
theorem dX9_isDefect_4 : decode cX9_isDefect 4 = .ok (.iload_n 1, 1) := by decide +kernel
theorem dX9_isDefect_5 : decode cX9_isDefect 5 = .ok (.aload_n 0, 1) := by decide +kernel
theorem dX9_isDefect_6 : decode cX9_isDefect 6 = .ok (.getfield 38, 3) := by decide +kernel
theorem dX9_isDefect_9 : decode cX9_isDefect 9 = .ok (.getfield 128, 3) := by decide +kernel
theorem dX9_isDefect_12 : decode cX9_isDefect 12 = .ok (.if_icmp .ge 7, 3) := by decide +kernel
theorem dX9_isDefect_15 : decode cX9_isDefect 15 = .ok (.iconst 1, 1) := by decide +kernel
theorem dX9_isDefect_16 : decode cX9_isDefect 16 = .ok (.goto 4, 3) := by decide +kernel
theorem dX9_isDefect_19 : decode cX9_isDefect 19 = .ok (.iconst 0, 1) := by decide +kernel
theorem dX9_isDefect_20 : decode cX9_isDefect 20 = .ok (.ireturn, 1) := by decide +kernel
theorem dX9_refusalOfOpenDefect_0 : decode cX9_refusalOfOpenDefect 0 = .ok (.aload_n 0, 1) := by decide +kernel
theorem dX9_refusalOfOpenDefect_1 : decode cX9_refusalOfOpenDefect 1 = .ok (.iload_n 1, 1) := by decide +kernel
theorem dX9_refusalOfOpenDefect_2 : decode cX9_refusalOfOpenDefect 2 = .ok (.invokevirtual 156, 3) := by decide +kernel
theorem dX9_refusalOfOpenDefect_5 : decode cX9_refusalOfOpenDefect 5 = .ok (.ifCond .ne 5, 3) := by decide +kernel
theorem dX9_refusalOfOpenDefect_8 : decode cX9_refusalOfOpenDefect 8 = .ok (.iconst (-1), 1) := by decide +kernel
theorem dX9_refusalOfOpenDefect_9 : decode cX9_refusalOfOpenDefect 9 = .ok (.ireturn, 1) := by decide +kernel
theorem dX9_refusalOfOpenDefect_10 : decode cX9_refusalOfOpenDefect 10 = .ok (.aload_n 0, 1) := by decide +kernel
theorem dX9_refusalOfOpenDefect_11 : decode cX9_refusalOfOpenDefect 11 = .ok (.getfield 38, 3) := by decide +kernel
theorem dX9_refusalOfOpenDefect_14 : decode cX9_refusalOfOpenDefect 14 = .ok (.getfield 159, 3) := by decide +kernel
theorem dX9_refusalOfOpenDefect_17 : decode cX9_refusalOfOpenDefect 17 = .ok (.iload_n 1, 1) := by decide +kernel
theorem dX9_refusalOfOpenDefect_18 : decode cX9_refusalOfOpenDefect 18 = .ok (.baload, 1) := by decide +kernel
theorem dX9_refusalOfOpenDefect_19 : decode cX9_refusalOfOpenDefect 19 = .ok (.ifCond .eq 7, 3) := by decide +kernel
theorem dX9_refusalOfOpenDefect_22 : decode cX9_refusalOfOpenDefect 22 = .ok (.iconst 0, 1) := by decide +kernel
theorem dX9_refusalOfOpenDefect_23 : decode cX9_refusalOfOpenDefect 23 = .ok (.goto 5, 3) := by decide +kernel
theorem dX9_refusalOfOpenDefect_26 : decode cX9_refusalOfOpenDefect 26 = .ok (.bipush (-3), 2) := by decide +kernel
theorem dX9_refusalOfOpenDefect_28 : decode cX9_refusalOfOpenDefect 28 = .ok (.ireturn, 1) := by decide +kernel
theorem dX9_refusalOfWalk_0 : decode cX9_refusalOfWalk 0 = .ok (.iload_n 0, 1) := by decide +kernel
theorem dX9_refusalOfWalk_1 : decode cX9_refusalOfWalk 1 = .ok (.iload_n 1, 1) := by decide +kernel
theorem dX9_refusalOfWalk_2 : decode cX9_refusalOfWalk 2 = .ok (.invokestatic 222, 3) := by decide +kernel
theorem dX9_refusalOfWalk_5 : decode cX9_refusalOfWalk 5 = .ok (.ifCond .ne 5, 3) := by decide +kernel
theorem dX9_refusalOfWalk_8 : decode cX9_refusalOfWalk 8 = .ok (.iconst (-1), 1) := by decide +kernel
theorem dX9_refusalOfWalk_9 : decode cX9_refusalOfWalk 9 = .ok (.ireturn, 1) := by decide +kernel
theorem dX9_refusalOfWalk_10 : decode cX9_refusalOfWalk 10 = .ok (.iload_n 2, 1) := by decide +kernel
theorem dX9_refusalOfWalk_11 : decode cX9_refusalOfWalk 11 = .ok (.ifCond .ge 6, 3) := by decide +kernel
theorem dX9_refusalOfWalk_14 : decode cX9_refusalOfWalk 14 = .ok (.bipush (-4), 2) := by decide +kernel
theorem dX9_refusalOfWalk_16 : decode cX9_refusalOfWalk 16 = .ok (.ireturn, 1) := by decide +kernel
theorem dX9_refusalOfWalk_17 : decode cX9_refusalOfWalk 17 = .ok (.iload_n 2, 1) := by decide +kernel
theorem dX9_refusalOfWalk_18 : decode cX9_refusalOfWalk 18 = .ok (.sipush 1440, 3) := by decide +kernel
theorem dX9_refusalOfWalk_21 : decode cX9_refusalOfWalk 21 = .ok (.if_icmp .ge 7, 3) := by decide +kernel
theorem dX9_refusalOfWalk_24 : decode cX9_refusalOfWalk 24 = .ok (.iconst 0, 1) := by decide +kernel
theorem dX9_refusalOfWalk_25 : decode cX9_refusalOfWalk 25 = .ok (.goto 5, 3) := by decide +kernel
theorem dX9_refusalOfWalk_28 : decode cX9_refusalOfWalk 28 = .ok (.bipush (-6), 2) := by decide +kernel
theorem dX9_refusalOfWalk_30 : decode cX9_refusalOfWalk 30 = .ok (.ireturn, 1) := by decide +kernel
theorem dX9_readingsOf_0 : decode cX9_readingsOf 0 = .ok (.iload_n 1, 1) := by decide +kernel
theorem dX9_readingsOf_1 : decode cX9_readingsOf 1 = .ok (.ifCond .ne 10, 3) := by decide +kernel
theorem dX9_readingsOf_4 : decode cX9_readingsOf 4 = .ok (.aload_n 0, 1) := by decide +kernel
theorem dX9_readingsOf_5 : decode cX9_readingsOf 5 = .ok (.getfield 28, 3) := by decide +kernel
theorem dX9_readingsOf_8 : decode cX9_readingsOf 8 = .ok (.goto 7, 3) := by decide +kernel
theorem dX9_readingsOf_11 : decode cX9_readingsOf 11 = .ok (.aload_n 0, 1) := by decide +kernel
theorem dX9_readingsOf_12 : decode cX9_readingsOf 12 = .ok (.getfield 32, 3) := by decide +kernel
theorem dX9_readingsOf_15 : decode cX9_readingsOf 15 = .ok (.areturn, 1) := by decide +kernel
theorem dX9_ruleFor_0 : decode cX9_ruleFor 0 = .ok (.aload_n 0, 1) := by decide +kernel
theorem dX9_ruleFor_1 : decode cX9_ruleFor 1 = .ok (.getfield 45, 3) := by decide +kernel
theorem dX9_ruleFor_4 : decode cX9_ruleFor 4 = .ok (.aload_n 0, 1) := by decide +kernel
theorem dX9_ruleFor_5 : decode cX9_ruleFor 5 = .ok (.getfield 38, 3) := by decide +kernel
theorem dX9_ruleFor_8 : decode cX9_ruleFor 8 = .ok (.getfield 318, 3) := by decide +kernel
theorem dX9_ruleFor_11 : decode cX9_ruleFor 11 = .ok (.iload_n 1, 1) := by decide +kernel
theorem dX9_ruleFor_12 : decode cX9_ruleFor 12 = .ok (.iaload, 1) := by decide +kernel
theorem dX9_ruleFor_13 : decode cX9_ruleFor 13 = .ok (.aload_n 0, 1) := by decide +kernel
theorem dX9_ruleFor_14 : decode cX9_ruleFor 14 = .ok (.getfield 38, 3) := by decide +kernel
theorem dX9_ruleFor_17 : decode cX9_ruleFor 17 = .ok (.getfield 166, 3) := by decide +kernel
theorem dX9_ruleFor_20 : decode cX9_ruleFor 20 = .ok (.iload_n 1, 1) := by decide +kernel
theorem dX9_ruleFor_21 : decode cX9_ruleFor 21 = .ok (.iaload, 1) := by decide +kernel
theorem dX9_ruleFor_22 : decode cX9_ruleFor 22 = .ok (.aload_n 0, 1) := by decide +kernel
theorem dX9_ruleFor_23 : decode cX9_ruleFor 23 = .ok (.getfield 7, 3) := by decide +kernel
theorem dX9_ruleFor_26 : decode cX9_ruleFor 26 = .ok (.invokevirtual 321, 3) := by decide +kernel
theorem dX9_ruleFor_29 : decode cX9_ruleFor 29 = .ok (.ireturn, 1) := by decide +kernel
theorem dX9_dueDay_0 : decode cX9_dueDay 0 = .ok (.aload_n 0, 1) := by decide +kernel
theorem dX9_dueDay_1 : decode cX9_dueDay 1 = .ok (.iload_n 1, 1) := by decide +kernel
theorem dX9_dueDay_2 : decode cX9_dueDay 2 = .ok (.invokevirtual 142, 3) := by decide +kernel
theorem dX9_dueDay_5 : decode cX9_dueDay 5 = .ok (.istore_n 2, 1) := by decide +kernel
theorem dX9_dueDay_6 : decode cX9_dueDay 6 = .ok (.iload_n 2, 1) := by decide +kernel
theorem dX9_dueDay_7 : decode cX9_dueDay 7 = .ok (.bipush (-9), 2) := by decide +kernel
theorem dX9_dueDay_9 : decode cX9_dueDay 9 = .ok (.if_icmp .ne 6, 3) := by decide +kernel
theorem dX9_dueDay_12 : decode cX9_dueDay 12 = .ok (.bipush (-9), 2) := by decide +kernel
theorem dX9_dueDay_14 : decode cX9_dueDay 14 = .ok (.ireturn, 1) := by decide +kernel
theorem dX9_dueDay_15 : decode cX9_dueDay 15 = .ok (.aload_n 0, 1) := by decide +kernel
theorem dX9_dueDay_16 : decode cX9_dueDay 16 = .ok (.getfield 38, 3) := by decide +kernel
theorem dX9_dueDay_19 : decode cX9_dueDay 19 = .ok (.getfield 324, 3) := by decide +kernel
theorem dX9_dueDay_22 : decode cX9_dueDay 22 = .ok (.iload_n 1, 1) := by decide +kernel
theorem dX9_dueDay_23 : decode cX9_dueDay 23 = .ok (.iaload, 1) := by decide +kernel
theorem dX9_dueDay_24 : decode cX9_dueDay 24 = .ok (.iload_n 2, 1) := by decide +kernel
theorem dX9_dueDay_25 : decode cX9_dueDay 25 = .ok (.if_icmp .ne 15, 3) := by decide +kernel
theorem dX9_dueDay_28 : decode cX9_dueDay 28 = .ok (.aload_n 0, 1) := by decide +kernel
theorem dX9_dueDay_29 : decode cX9_dueDay 29 = .ok (.getfield 38, 3) := by decide +kernel
theorem dX9_dueDay_32 : decode cX9_dueDay 32 = .ok (.getfield 327, 3) := by decide +kernel
theorem dX9_dueDay_35 : decode cX9_dueDay 35 = .ok (.iload_n 1, 1) := by decide +kernel
theorem dX9_dueDay_36 : decode cX9_dueDay 36 = .ok (.iaload, 1) := by decide +kernel
theorem dX9_dueDay_37 : decode cX9_dueDay 37 = .ok (.goto 7, 3) := by decide +kernel
theorem dX9_dueDay_40 : decode cX9_dueDay 40 = .ok (.aload_n 0, 1) := by decide +kernel
theorem dX9_dueDay_41 : decode cX9_dueDay 41 = .ok (.getfield 7, 3) := by decide +kernel
theorem dX9_dueDay_44 : decode cX9_dueDay 44 = .ok (.istore_n 3, 1) := by decide +kernel
theorem dX9_dueDay_45 : decode cX9_dueDay 45 = .ok (.iload_n 3, 1) := by decide +kernel
theorem dX9_dueDay_46 : decode cX9_dueDay 46 = .ok (.aload_n 0, 1) := by decide +kernel
theorem dX9_dueDay_47 : decode cX9_dueDay 47 = .ok (.getfield 45, 3) := by decide +kernel
theorem dX9_dueDay_50 : decode cX9_dueDay 50 = .ok (.getfield 330, 3) := by decide +kernel
theorem dX9_dueDay_53 : decode cX9_dueDay 53 = .ok (.iload_n 2, 1) := by decide +kernel
theorem dX9_dueDay_54 : decode cX9_dueDay 54 = .ok (.iaload, 1) := by decide +kernel
theorem dX9_dueDay_55 : decode cX9_dueDay 55 = .ok (.iadd, 1) := by decide +kernel
theorem dX9_dueDay_56 : decode cX9_dueDay 56 = .ok (.ireturn, 1) := by decide +kernel
theorem dX9_isOverdue_0 : decode cX9_isOverdue 0 = .ok (.aload_n 0, 1) := by decide +kernel
theorem dX9_isOverdue_1 : decode cX9_isOverdue 1 = .ok (.iload_n 1, 1) := by decide +kernel
theorem dX9_isOverdue_2 : decode cX9_isOverdue 2 = .ok (.invokevirtual 173, 3) := by decide +kernel
theorem dX9_isOverdue_5 : decode cX9_isOverdue 5 = .ok (.istore_n 2, 1) := by decide +kernel
theorem dX9_isOverdue_6 : decode cX9_isOverdue 6 = .ok (.iload_n 2, 1) := by decide +kernel
theorem dX9_isOverdue_7 : decode cX9_isOverdue 7 = .ok (.bipush (-9), 2) := by decide +kernel
theorem dX9_isOverdue_9 : decode cX9_isOverdue 9 = .ok (.if_icmp .eq 15, 3) := by decide +kernel
theorem dX9_isOverdue_12 : decode cX9_isOverdue 12 = .ok (.iload_n 2, 1) := by decide +kernel
theorem dX9_isOverdue_13 : decode cX9_isOverdue 13 = .ok (.aload_n 0, 1) := by decide +kernel
theorem dX9_isOverdue_14 : decode cX9_isOverdue 14 = .ok (.getfield 7, 3) := by decide +kernel
theorem dX9_isOverdue_17 : decode cX9_isOverdue 17 = .ok (.if_icmp .ge 7, 3) := by decide +kernel
theorem dX9_isOverdue_20 : decode cX9_isOverdue 20 = .ok (.iconst 1, 1) := by decide +kernel
theorem dX9_isOverdue_21 : decode cX9_isOverdue 21 = .ok (.goto 4, 3) := by decide +kernel
theorem dX9_isOverdue_24 : decode cX9_isOverdue 24 = .ok (.iconst 0, 1) := by decide +kernel
theorem dX9_isOverdue_25 : decode cX9_isOverdue 25 = .ok (.ireturn, 1) := by decide +kernel
theorem dX9_needsAct_0 : decode cX9_needsAct 0 = .ok (.iconst 0, 1) := by decide +kernel
theorem dX9_needsAct_1 : decode cX9_needsAct 1 = .ok (.istore_n 2, 1) := by decide +kernel
theorem dX9_needsAct_2 : decode cX9_needsAct 2 = .ok (.iload_n 2, 1) := by decide +kernel
theorem dX9_needsAct_3 : decode cX9_needsAct 3 = .ok (.aload_n 0, 1) := by decide +kernel
theorem dX9_needsAct_4 : decode cX9_needsAct 4 = .ok (.getfield 38, 3) := by decide +kernel
theorem dX9_needsAct_7 : decode cX9_needsAct 7 = .ok (.getfield 128, 3) := by decide +kernel
theorem dX9_needsAct_10 : decode cX9_needsAct 10 = .ok (.if_icmp .ge 60, 3) := by decide +kernel
theorem dX9_needsAct_13 : decode cX9_needsAct 13 = .ok (.aload_n 0, 1) := by decide +kernel
theorem dX9_needsAct_14 : decode cX9_needsAct 14 = .ok (.getfield 38, 3) := by decide +kernel
theorem dX9_needsAct_17 : decode cX9_needsAct 17 = .ok (.getfield 159, 3) := by decide +kernel
theorem dX9_needsAct_20 : decode cX9_needsAct 20 = .ok (.iload_n 2, 1) := by decide +kernel
theorem dX9_needsAct_21 : decode cX9_needsAct 21 = .ok (.baload, 1) := by decide +kernel
theorem dX9_needsAct_22 : decode cX9_needsAct 22 = .ok (.ifCond .eq 42, 3) := by decide +kernel
theorem dX9_needsAct_25 : decode cX9_needsAct 25 = .ok (.aload_n 0, 1) := by decide +kernel
theorem dX9_needsAct_26 : decode cX9_needsAct 26 = .ok (.getfield 38, 3) := by decide +kernel
theorem dX9_needsAct_29 : decode cX9_needsAct 29 = .ok (.getfield 179, 3) := by decide +kernel
theorem dX9_needsAct_32 : decode cX9_needsAct 32 = .ok (.iload_n 2, 1) := by decide +kernel
theorem dX9_needsAct_33 : decode cX9_needsAct 33 = .ok (.iaload, 1) := by decide +kernel
theorem dX9_needsAct_34 : decode cX9_needsAct 34 = .ok (.iload_n 1, 1) := by decide +kernel
theorem dX9_needsAct_35 : decode cX9_needsAct 35 = .ok (.if_icmp .ne 29, 3) := by decide +kernel
theorem dX9_needsAct_38 : decode cX9_needsAct 38 = .ok (.aload_n 0, 1) := by decide +kernel
theorem dX9_needsAct_39 : decode cX9_needsAct 39 = .ok (.iload_n 2, 1) := by decide +kernel
theorem dX9_needsAct_40 : decode cX9_needsAct 40 = .ok (.invokevirtual 142, 3) := by decide +kernel
theorem dX9_needsAct_43 : decode cX9_needsAct 43 = .ok (.istore_n 3, 1) := by decide +kernel
theorem dX9_needsAct_44 : decode cX9_needsAct 44 = .ok (.iload_n 3, 1) := by decide +kernel
theorem dX9_needsAct_45 : decode cX9_needsAct 45 = .ok (.bipush (-9), 2) := by decide +kernel
theorem dX9_needsAct_47 : decode cX9_needsAct 47 = .ok (.if_icmp .eq 17, 3) := by decide +kernel
theorem dX9_needsAct_50 : decode cX9_needsAct 50 = .ok (.aload_n 0, 1) := by decide +kernel
theorem dX9_needsAct_51 : decode cX9_needsAct 51 = .ok (.getfield 45, 3) := by decide +kernel
theorem dX9_needsAct_54 : decode cX9_needsAct 54 = .ok (.getfield 333, 3) := by decide +kernel
theorem dX9_needsAct_57 : decode cX9_needsAct 57 = .ok (.iload_n 3, 1) := by decide +kernel
theorem dX9_needsAct_58 : decode cX9_needsAct 58 = .ok (.iaload, 1) := by decide +kernel
theorem dX9_needsAct_59 : decode cX9_needsAct 59 = .ok (.ifCond .le 5, 3) := by decide +kernel
theorem dX9_needsAct_62 : decode cX9_needsAct 62 = .ok (.iconst 1, 1) := by decide +kernel
theorem dX9_needsAct_63 : decode cX9_needsAct 63 = .ok (.ireturn, 1) := by decide +kernel
theorem dX9_needsAct_64 : decode cX9_needsAct 64 = .ok (.iinc 2 1, 3) := by decide +kernel
theorem dX9_needsAct_67 : decode cX9_needsAct 67 = .ok (.goto (-65), 3) := by decide +kernel
theorem dX9_needsAct_70 : decode cX9_needsAct 70 = .ok (.iconst 0, 1) := by decide +kernel
theorem dX9_needsAct_71 : decode cX9_needsAct 71 = .ok (.ireturn, 1) := by decide +kernel
theorem dX9_heatOf_0 : decode cX9_heatOf 0 = .ok (.aload_n 0, 1) := by decide +kernel
theorem dX9_heatOf_1 : decode cX9_heatOf 1 = .ok (.getfield 17, 3) := by decide +kernel
theorem dX9_heatOf_4 : decode cX9_heatOf 4 = .ok (.iconst 3, 1) := by decide +kernel
theorem dX9_heatOf_5 : decode cX9_heatOf 5 = .ok (.iaload, 1) := by decide +kernel
theorem dX9_heatOf_6 : decode cX9_heatOf 6 = .ok (.aload_n 0, 1) := by decide +kernel
theorem dX9_heatOf_7 : decode cX9_heatOf 7 = .ok (.getfield 93, 3) := by decide +kernel
theorem dX9_heatOf_10 : decode cX9_heatOf 10 = .ok (.getfield 336, 3) := by decide +kernel
theorem dX9_heatOf_13 : decode cX9_heatOf 13 = .ok (.iload_n 1, 1) := by decide +kernel
theorem dX9_heatOf_14 : decode cX9_heatOf 14 = .ok (.iaload, 1) := by decide +kernel
theorem dX9_heatOf_15 : decode cX9_heatOf 15 = .ok (.isub, 1) := by decide +kernel
theorem dX9_heatOf_16 : decode cX9_heatOf 16 = .ok (.invokestatic 339, 3) := by decide +kernel
theorem dX9_heatOf_19 : decode cX9_heatOf 19 = .ok (.ireturn, 1) := by decide +kernel
theorem dX9_passDay_0 : decode cX9_passDay 0 = .ok (.aload_n 0, 1) := by decide +kernel
theorem dX9_passDay_1 : decode cX9_passDay 1 = .ok (.getfield 38, 3) := by decide +kernel
theorem dX9_passDay_4 : decode cX9_passDay 4 = .ok (.aload_n 0, 1) := by decide +kernel
theorem dX9_passDay_5 : decode cX9_passDay 5 = .ok (.getfield 28, 3) := by decide +kernel
theorem dX9_passDay_8 : decode cX9_passDay 8 = .ok (.aload_n 0, 1) := by decide +kernel
theorem dX9_passDay_9 : decode cX9_passDay 9 = .ok (.getfield 7, 3) := by decide +kernel
theorem dX9_passDay_12 : decode cX9_passDay 12 = .ok (.invokevirtual 119, 3) := by decide +kernel
theorem dX9_passDay_15 : decode cX9_passDay 15 = .ok (.aload_n 0, 1) := by decide +kernel
theorem dX9_passDay_16 : decode cX9_passDay 16 = .ok (.getfield 32, 3) := by decide +kernel
theorem dX9_passDay_19 : decode cX9_passDay 19 = .ok (.aload_n 0, 1) := by decide +kernel
theorem dX9_passDay_20 : decode cX9_passDay 20 = .ok (.getfield 7, 3) := by decide +kernel
theorem dX9_passDay_23 : decode cX9_passDay 23 = .ok (.invokevirtual 119, 3) := by decide +kernel
theorem dX9_passDay_26 : decode cX9_passDay 26 = .ok (.aload_n 0, 1) := by decide +kernel
theorem dX9_passDay_27 : decode cX9_passDay 27 = .ok (.getfield 20, 3) := by decide +kernel
theorem dX9_passDay_30 : decode cX9_passDay 30 = .ok (.invokevirtual 344, 3) := by decide +kernel
theorem dX9_passDay_33 : decode cX9_passDay 33 = .ok (.aload_n 0, 1) := by decide +kernel
theorem dX9_passDay_34 : decode cX9_passDay 34 = .ok (.getfield 52, 3) := by decide +kernel
theorem dX9_passDay_37 : decode cX9_passDay 37 = .ok (.aload_n 0, 1) := by decide +kernel
theorem dX9_passDay_38 : decode cX9_passDay 38 = .ok (.getfield 17, 3) := by decide +kernel
theorem dX9_passDay_41 : decode cX9_passDay 41 = .ok (.iconst 0, 1) := by decide +kernel
theorem dX9_passDay_42 : decode cX9_passDay 42 = .ok (.iaload, 1) := by decide +kernel
theorem dX9_passDay_43 : decode cX9_passDay 43 = .ok (.invokevirtual 348, 3) := by decide +kernel
theorem dX9_passDay_46 : decode cX9_passDay 46 = .ok (.aload_n 0, 1) := by decide +kernel
theorem dX9_passDay_47 : decode cX9_passDay 47 = .ok (.dup, 1) := by decide +kernel
theorem dX9_passDay_48 : decode cX9_passDay 48 = .ok (.getfield 7, 3) := by decide +kernel
theorem dX9_passDay_51 : decode cX9_passDay 51 = .ok (.iconst 1, 1) := by decide +kernel
theorem dX9_passDay_52 : decode cX9_passDay 52 = .ok (.iadd, 1) := by decide +kernel
theorem dX9_passDay_53 : decode cX9_passDay 53 = .ok (.putfield 7, 3) := by decide +kernel
theorem dX9_passDay_56 : decode cX9_passDay 56 = .ok (.return_, 1) := by decide +kernel
theorem dX9_riskOf_0 : decode cX9_riskOf 0 = .ok (.aload_n 0, 1) := by decide +kernel
theorem dX9_riskOf_1 : decode cX9_riskOf 1 = .ok (.getfield 7, 3) := by decide +kernel
theorem dX9_riskOf_4 : decode cX9_riskOf 4 = .ok (.aload_n 0, 1) := by decide +kernel
theorem dX9_riskOf_5 : decode cX9_riskOf 5 = .ok (.getfield 63, 3) := by decide +kernel
theorem dX9_riskOf_8 : decode cX9_riskOf 8 = .ok (.iload_n 1, 1) := by decide +kernel
theorem dX9_riskOf_9 : decode cX9_riskOf 9 = .ok (.iaload, 1) := by decide +kernel
theorem dX9_riskOf_10 : decode cX9_riskOf 10 = .ok (.isub, 1) := by decide +kernel
theorem dX9_riskOf_11 : decode cX9_riskOf 11 = .ok (.iconst 1, 1) := by decide +kernel
theorem dX9_riskOf_12 : decode cX9_riskOf 12 = .ok (.aload_n 0, 1) := by decide +kernel
theorem dX9_riskOf_13 : decode cX9_riskOf 13 = .ok (.getfield 38, 3) := by decide +kernel
theorem dX9_riskOf_16 : decode cX9_riskOf 16 = .ok (.iload_n 1, 1) := by decide +kernel
theorem dX9_riskOf_17 : decode cX9_riskOf 17 = .ok (.invokevirtual 350, 3) := by decide +kernel
theorem dX9_riskOf_20 : decode cX9_riskOf 20 = .ok (.iadd, 1) := by decide +kernel
theorem dX9_riskOf_21 : decode cX9_riskOf 21 = .ok (.imul, 1) := by decide +kernel
theorem dX9_riskOf_22 : decode cX9_riskOf 22 = .ok (.ireturn, 1) := by decide +kernel
theorem dX9_addUpRisks_0 : decode cX9_addUpRisks 0 = .ok (.iconst 0, 1) := by decide +kernel
theorem dX9_addUpRisks_1 : decode cX9_addUpRisks 1 = .ok (.istore_n 1, 1) := by decide +kernel
theorem dX9_addUpRisks_2 : decode cX9_addUpRisks 2 = .ok (.iload_n 1, 1) := by decide +kernel
theorem dX9_addUpRisks_3 : decode cX9_addUpRisks 3 = .ok (.bipush 20, 2) := by decide +kernel
theorem dX9_addUpRisks_5 : decode cX9_addUpRisks 5 = .ok (.if_icmp .ge 29, 3) := by decide +kernel
theorem dX9_addUpRisks_8 : decode cX9_addUpRisks 8 = .ok (.aload_n 0, 1) := by decide +kernel
theorem dX9_addUpRisks_9 : decode cX9_addUpRisks 9 = .ok (.getfield 66, 3) := by decide +kernel
theorem dX9_addUpRisks_12 : decode cX9_addUpRisks 12 = .ok (.iload_n 1, 1) := by decide +kernel
theorem dX9_addUpRisks_13 : decode cX9_addUpRisks 13 = .ok (.iconst 1, 1) := by decide +kernel
theorem dX9_addUpRisks_14 : decode cX9_addUpRisks 14 = .ok (.iadd, 1) := by decide +kernel
theorem dX9_addUpRisks_15 : decode cX9_addUpRisks 15 = .ok (.aload_n 0, 1) := by decide +kernel
theorem dX9_addUpRisks_16 : decode cX9_addUpRisks 16 = .ok (.getfield 66, 3) := by decide +kernel
theorem dX9_addUpRisks_19 : decode cX9_addUpRisks 19 = .ok (.iload_n 1, 1) := by decide +kernel
theorem dX9_addUpRisks_20 : decode cX9_addUpRisks 20 = .ok (.iaload, 1) := by decide +kernel
theorem dX9_addUpRisks_21 : decode cX9_addUpRisks 21 = .ok (.aload_n 0, 1) := by decide +kernel
theorem dX9_addUpRisks_22 : decode cX9_addUpRisks 22 = .ok (.iload_n 1, 1) := by decide +kernel
theorem dX9_addUpRisks_23 : decode cX9_addUpRisks 23 = .ok (.invokevirtual 226, 3) := by decide +kernel
theorem dX9_addUpRisks_26 : decode cX9_addUpRisks 26 = .ok (.iadd, 1) := by decide +kernel
theorem dX9_addUpRisks_27 : decode cX9_addUpRisks 27 = .ok (.iastore, 1) := by decide +kernel
theorem dX9_addUpRisks_28 : decode cX9_addUpRisks 28 = .ok (.iinc 1 1, 3) := by decide +kernel
theorem dX9_addUpRisks_31 : decode cX9_addUpRisks 31 = .ok (.goto (-29), 3) := by decide +kernel
theorem dX9_addUpRisks_34 : decode cX9_addUpRisks 34 = .ok (.return_, 1) := by decide +kernel
theorem dX9_riskOfRange_0 : decode cX9_riskOfRange 0 = .ok (.aload_n 0, 1) := by decide +kernel
theorem dX9_riskOfRange_1 : decode cX9_riskOfRange 1 = .ok (.getfield 66, 3) := by decide +kernel
theorem dX9_riskOfRange_4 : decode cX9_riskOfRange 4 = .ok (.iload_n 1, 1) := by decide +kernel
theorem dX9_riskOfRange_5 : decode cX9_riskOfRange 5 = .ok (.iload_n 2, 1) := by decide +kernel
theorem dX9_riskOfRange_6 : decode cX9_riskOfRange 6 = .ok (.iadd, 1) := by decide +kernel
theorem dX9_riskOfRange_7 : decode cX9_riskOfRange 7 = .ok (.iaload, 1) := by decide +kernel
theorem dX9_riskOfRange_8 : decode cX9_riskOfRange 8 = .ok (.aload_n 0, 1) := by decide +kernel
theorem dX9_riskOfRange_9 : decode cX9_riskOfRange 9 = .ok (.getfield 66, 3) := by decide +kernel
theorem dX9_riskOfRange_12 : decode cX9_riskOfRange 12 = .ok (.iload_n 1, 1) := by decide +kernel
theorem dX9_riskOfRange_13 : decode cX9_riskOfRange 13 = .ok (.iaload, 1) := by decide +kernel
theorem dX9_riskOfRange_14 : decode cX9_riskOfRange 14 = .ok (.isub, 1) := by decide +kernel
theorem dX9_riskOfRange_15 : decode cX9_riskOfRange 15 = .ok (.ireturn, 1) := by decide +kernel
theorem dX10_init_0 : decode cX10_init 0 = .ok (.aload_n 0, 1) := by decide +kernel
theorem dX10_init_1 : decode cX10_init 1 = .ok (.invokespecial 1, 3) := by decide +kernel
theorem dX10_init_4 : decode cX10_init 4 = .ok (.aload_n 0, 1) := by decide +kernel
theorem dX10_init_5 : decode cX10_init 5 = .ok (.bipush 7, 2) := by decide +kernel
theorem dX10_init_7 : decode cX10_init 7 = .ok (.newarray .int, 2) := by decide +kernel
theorem dX10_init_9 : decode cX10_init 9 = .ok (.putfield 7, 3) := by decide +kernel
theorem dX10_init_12 : decode cX10_init 12 = .ok (.aload_n 0, 1) := by decide +kernel
theorem dX10_init_13 : decode cX10_init 13 = .ok (.sipush 1001, 3) := by decide +kernel
theorem dX10_init_16 : decode cX10_init 16 = .ok (.newarray .int, 2) := by decide +kernel
theorem dX10_init_18 : decode cX10_init 18 = .ok (.putfield 13, 3) := by decide +kernel
theorem dX10_init_21 : decode cX10_init 21 = .ok (.aload_n 0, 1) := by decide +kernel
theorem dX10_init_22 : decode cX10_init 22 = .ok (.sipush 1001, 3) := by decide +kernel
theorem dX10_init_25 : decode cX10_init 25 = .ok (.newarray .int, 2) := by decide +kernel
theorem dX10_init_27 : decode cX10_init 27 = .ok (.putfield 16, 3) := by decide +kernel
theorem dX10_init_30 : decode cX10_init 30 = .ok (.aload_n 0, 1) := by decide +kernel
theorem dX10_init_31 : decode cX10_init 31 = .ok (.iconst 4, 1) := by decide +kernel
theorem dX10_init_32 : decode cX10_init 32 = .ok (.newarray .int, 2) := by decide +kernel
theorem dX10_init_34 : decode cX10_init 34 = .ok (.putfield 19, 3) := by decide +kernel
theorem dX10_init_37 : decode cX10_init 37 = .ok (.aload_n 0, 1) := by decide +kernel
theorem dX10_init_38 : decode cX10_init 38 = .ok (.bipush 10, 2) := by decide +kernel
theorem dX10_init_40 : decode cX10_init 40 = .ok (.putfield 22, 3) := by decide +kernel
theorem dX10_init_43 : decode cX10_init 43 = .ok (.aload_n 0, 1) := by decide +kernel
theorem dX10_init_44 : decode cX10_init 44 = .ok (.bipush 30, 2) := by decide +kernel
theorem dX10_init_46 : decode cX10_init 46 = .ok (.putfield 26, 3) := by decide +kernel
theorem dX10_init_49 : decode cX10_init 49 = .ok (.aload_n 0, 1) := by decide +kernel
theorem dX10_init_50 : decode cX10_init 50 = .ok (.bipush 40, 2) := by decide +kernel
theorem dX10_init_52 : decode cX10_init 52 = .ok (.putfield 29, 3) := by decide +kernel
theorem dX10_init_55 : decode cX10_init 55 = .ok (.aload_n 0, 1) := by decide +kernel
theorem dX10_init_56 : decode cX10_init 56 = .ok (.bipush 10, 2) := by decide +kernel
theorem dX10_init_58 : decode cX10_init 58 = .ok (.putfield 32, 3) := by decide +kernel
theorem dX10_init_61 : decode cX10_init 61 = .ok (.aload_n 0, 1) := by decide +kernel
theorem dX10_init_62 : decode cX10_init 62 = .ok (.bipush 40, 2) := by decide +kernel
theorem dX10_init_64 : decode cX10_init 64 = .ok (.newarray .int, 2) := by decide +kernel
theorem dX10_init_66 : decode cX10_init 66 = .ok (.putfield 35, 3) := by decide +kernel
theorem dX10_init_69 : decode cX10_init 69 = .ok (.aload_n 0, 1) := by decide +kernel
theorem dX10_init_70 : decode cX10_init 70 = .ok (.bipush 40, 2) := by decide +kernel
theorem dX10_init_72 : decode cX10_init 72 = .ok (.newarray .int, 2) := by decide +kernel
theorem dX10_init_74 : decode cX10_init 74 = .ok (.putfield 38, 3) := by decide +kernel
theorem dX10_init_77 : decode cX10_init 77 = .ok (.aload_n 0, 1) := by decide +kernel
theorem dX10_init_78 : decode cX10_init 78 = .ok (.bipush 40, 2) := by decide +kernel
theorem dX10_init_80 : decode cX10_init 80 = .ok (.newarray .int, 2) := by decide +kernel
theorem dX10_init_82 : decode cX10_init 82 = .ok (.putfield 41, 3) := by decide +kernel
theorem dX10_init_85 : decode cX10_init 85 = .ok (.aload_n 0, 1) := by decide +kernel
theorem dX10_init_86 : decode cX10_init 86 = .ok (.bipush 40, 2) := by decide +kernel
theorem dX10_init_88 : decode cX10_init 88 = .ok (.newarray .int, 2) := by decide +kernel
theorem dX10_init_90 : decode cX10_init 90 = .ok (.putfield 44, 3) := by decide +kernel
theorem dX10_init_93 : decode cX10_init 93 = .ok (.aload_n 0, 1) := by decide +kernel
theorem dX10_init_94 : decode cX10_init 94 = .ok (.bipush 40, 2) := by decide +kernel
theorem dX10_init_96 : decode cX10_init 96 = .ok (.newarray .int, 2) := by decide +kernel
theorem dX10_init_98 : decode cX10_init 98 = .ok (.putfield 47, 3) := by decide +kernel
theorem dX10_init_101 : decode cX10_init 101 = .ok (.aload_n 0, 1) := by decide +kernel
theorem dX10_init_102 : decode cX10_init 102 = .ok (.bipush 40, 2) := by decide +kernel
theorem dX10_init_104 : decode cX10_init 104 = .ok (.newarray .int, 2) := by decide +kernel
theorem dX10_init_106 : decode cX10_init 106 = .ok (.putfield 50, 3) := by decide +kernel
theorem dX10_init_109 : decode cX10_init 109 = .ok (.aload_n 0, 1) := by decide +kernel
theorem dX10_init_110 : decode cX10_init 110 = .ok (.bipush 40, 2) := by decide +kernel
theorem dX10_init_112 : decode cX10_init 112 = .ok (.newarray .int, 2) := by decide +kernel
theorem dX10_init_114 : decode cX10_init 114 = .ok (.putfield 53, 3) := by decide +kernel
theorem dX10_init_117 : decode cX10_init 117 = .ok (.aload_n 0, 1) := by decide +kernel
theorem dX10_init_118 : decode cX10_init 118 = .ok (.bipush 40, 2) := by decide +kernel
theorem dX10_init_120 : decode cX10_init 120 = .ok (.newarray .boolean, 2) := by decide +kernel
theorem dX10_init_122 : decode cX10_init 122 = .ok (.putfield 56, 3) := by decide +kernel
theorem dX10_init_125 : decode cX10_init 125 = .ok (.aload_n 0, 1) := by decide +kernel
theorem dX10_init_126 : decode cX10_init 126 = .ok (.bipush 120, 2) := by decide +kernel
theorem dX10_init_128 : decode cX10_init 128 = .ok (.newarray .int, 2) := by decide +kernel
theorem dX10_init_130 : decode cX10_init 130 = .ok (.putfield 60, 3) := by decide +kernel
theorem dX10_init_133 : decode cX10_init 133 = .ok (.aload_n 0, 1) := by decide +kernel
theorem dX10_init_134 : decode cX10_init 134 = .ok (.bipush 120, 2) := by decide +kernel
theorem dX10_init_136 : decode cX10_init 136 = .ok (.newarray .int, 2) := by decide +kernel
theorem dX10_init_138 : decode cX10_init 138 = .ok (.putfield 63, 3) := by decide +kernel
theorem dX10_init_141 : decode cX10_init 141 = .ok (.aload_n 0, 1) := by decide +kernel
theorem dX10_init_142 : decode cX10_init 142 = .ok (.bipush 120, 2) := by decide +kernel
theorem dX10_init_144 : decode cX10_init 144 = .ok (.newarray .int, 2) := by decide +kernel
theorem dX10_init_146 : decode cX10_init 146 = .ok (.putfield 66, 3) := by decide +kernel
theorem dX10_init_149 : decode cX10_init 149 = .ok (.aload_n 0, 1) := by decide +kernel
theorem dX10_init_150 : decode cX10_init 150 = .ok (.bipush 30, 2) := by decide +kernel
theorem dX10_init_152 : decode cX10_init 152 = .ok (.newarray .int, 2) := by decide +kernel
theorem dX10_init_154 : decode cX10_init 154 = .ok (.putfield 69, 3) := by decide +kernel
theorem dX10_init_157 : decode cX10_init 157 = .ok (.aload_n 0, 1) := by decide +kernel
theorem dX10_init_158 : decode cX10_init 158 = .ok (.bipush 30, 2) := by decide +kernel
theorem dX10_init_160 : decode cX10_init 160 = .ok (.newarray .int, 2) := by decide +kernel
theorem dX10_init_162 : decode cX10_init 162 = .ok (.putfield 72, 3) := by decide +kernel
theorem dX10_init_165 : decode cX10_init 165 = .ok (.aload_n 0, 1) := by decide +kernel
theorem dX10_init_166 : decode cX10_init 166 = .ok (.bipush 30, 2) := by decide +kernel
theorem dX10_init_168 : decode cX10_init 168 = .ok (.newarray .int, 2) := by decide +kernel
theorem dX10_init_170 : decode cX10_init 170 = .ok (.putfield 75, 3) := by decide +kernel
theorem dX10_init_173 : decode cX10_init 173 = .ok (.aload_n 0, 1) := by decide +kernel
theorem dX10_init_174 : decode cX10_init 174 = .ok (.bipush 30, 2) := by decide +kernel
theorem dX10_init_176 : decode cX10_init 176 = .ok (.newarray .int, 2) := by decide +kernel
theorem dX10_init_178 : decode cX10_init 178 = .ok (.putfield 78, 3) := by decide +kernel
theorem dX10_init_181 : decode cX10_init 181 = .ok (.aload_n 0, 1) := by decide +kernel
theorem dX10_init_182 : decode cX10_init 182 = .ok (.bipush 30, 2) := by decide +kernel
theorem dX10_init_184 : decode cX10_init 184 = .ok (.newarray .int, 2) := by decide +kernel
theorem dX10_init_186 : decode cX10_init 186 = .ok (.putfield 81, 3) := by decide +kernel
theorem dX10_init_189 : decode cX10_init 189 = .ok (.aload_n 0, 1) := by decide +kernel
theorem dX10_init_190 : decode cX10_init 190 = .ok (.bipush 20, 2) := by decide +kernel
theorem dX10_init_192 : decode cX10_init 192 = .ok (.newarray .int, 2) := by decide +kernel
theorem dX10_init_194 : decode cX10_init 194 = .ok (.putfield 84, 3) := by decide +kernel
theorem dX10_init_197 : decode cX10_init 197 = .ok (.aload_n 0, 1) := by decide +kernel
theorem dX10_init_198 : decode cX10_init 198 = .ok (.bipush 20, 2) := by decide +kernel
theorem dX10_init_200 : decode cX10_init 200 = .ok (.newarray .int, 2) := by decide +kernel
theorem dX10_init_202 : decode cX10_init 202 = .ok (.putfield 87, 3) := by decide +kernel
theorem dX10_init_205 : decode cX10_init 205 = .ok (.aload_n 0, 1) := by decide +kernel
theorem dX10_init_206 : decode cX10_init 206 = .ok (.bipush 20, 2) := by decide +kernel
theorem dX10_init_208 : decode cX10_init 208 = .ok (.newarray .int, 2) := by decide +kernel
theorem dX10_init_210 : decode cX10_init 210 = .ok (.putfield 90, 3) := by decide +kernel
theorem dX10_init_213 : decode cX10_init 213 = .ok (.aload_n 0, 1) := by decide +kernel
theorem dX10_init_214 : decode cX10_init 214 = .ok (.bipush 20, 2) := by decide +kernel
theorem dX10_init_216 : decode cX10_init 216 = .ok (.newarray .int, 2) := by decide +kernel
theorem dX10_init_218 : decode cX10_init 218 = .ok (.putfield 93, 3) := by decide +kernel
theorem dX10_init_221 : decode cX10_init 221 = .ok (.aload_n 0, 1) := by decide +kernel
theorem dX10_init_222 : decode cX10_init 222 = .ok (.bipush 20, 2) := by decide +kernel
theorem dX10_init_224 : decode cX10_init 224 = .ok (.newarray .int, 2) := by decide +kernel
theorem dX10_init_226 : decode cX10_init 226 = .ok (.putfield 96, 3) := by decide +kernel
theorem dX10_init_229 : decode cX10_init 229 = .ok (.aload_n 0, 1) := by decide +kernel
theorem dX10_init_230 : decode cX10_init 230 = .ok (.bipush 20, 2) := by decide +kernel
theorem dX10_init_232 : decode cX10_init 232 = .ok (.newarray .int, 2) := by decide +kernel
theorem dX10_init_234 : decode cX10_init 234 = .ok (.putfield 99, 3) := by decide +kernel
theorem dX10_init_237 : decode cX10_init 237 = .ok (.aload_n 0, 1) := by decide +kernel
theorem dX10_init_238 : decode cX10_init 238 = .ok (.bipush 20, 2) := by decide +kernel
theorem dX10_init_240 : decode cX10_init 240 = .ok (.newarray .int, 2) := by decide +kernel
theorem dX10_init_242 : decode cX10_init 242 = .ok (.putfield 102, 3) := by decide +kernel
theorem dX10_init_245 : decode cX10_init 245 = .ok (.aload_n 0, 1) := by decide +kernel
theorem dX10_init_246 : decode cX10_init 246 = .ok (.bipush 24, 2) := by decide +kernel
theorem dX10_init_248 : decode cX10_init 248 = .ok (.newarray .int, 2) := by decide +kernel
theorem dX10_init_250 : decode cX10_init 250 = .ok (.putfield 105, 3) := by decide +kernel
theorem dX10_init_253 : decode cX10_init 253 = .ok (.aload_n 0, 1) := by decide +kernel
theorem dX10_init_254 : decode cX10_init 254 = .ok (.bipush 24, 2) := by decide +kernel
theorem dX10_init_256 : decode cX10_init 256 = .ok (.newarray .int, 2) := by decide +kernel
theorem dX10_init_258 : decode cX10_init 258 = .ok (.putfield 108, 3) := by decide +kernel
theorem dX10_init_261 : decode cX10_init 261 = .ok (.aload_n 0, 1) := by decide +kernel
theorem dX10_init_262 : decode cX10_init 262 = .ok (.bipush 8, 2) := by decide +kernel
theorem dX10_init_264 : decode cX10_init 264 = .ok (.newarray .int, 2) := by decide +kernel
theorem dX10_init_266 : decode cX10_init 266 = .ok (.putfield 111, 3) := by decide +kernel
theorem dX10_init_269 : decode cX10_init 269 = .ok (.aload_n 0, 1) := by decide +kernel
theorem dX10_init_270 : decode cX10_init 270 = .ok (.bipush 8, 2) := by decide +kernel
theorem dX10_init_272 : decode cX10_init 272 = .ok (.newarray .int, 2) := by decide +kernel
theorem dX10_init_274 : decode cX10_init 274 = .ok (.putfield 114, 3) := by decide +kernel
theorem dX10_init_277 : decode cX10_init 277 = .ok (.aload_n 0, 1) := by decide +kernel
theorem dX10_init_278 : decode cX10_init 278 = .ok (.bipush 8, 2) := by decide +kernel
theorem dX10_init_280 : decode cX10_init 280 = .ok (.newarray .int, 2) := by decide +kernel
theorem dX10_init_282 : decode cX10_init 282 = .ok (.putfield 117, 3) := by decide +kernel
theorem dX10_init_285 : decode cX10_init 285 = .ok (.aload_n 0, 1) := by decide +kernel
theorem dX10_init_286 : decode cX10_init 286 = .ok (.bipush 8, 2) := by decide +kernel
theorem dX10_init_288 : decode cX10_init 288 = .ok (.newarray .int, 2) := by decide +kernel
theorem dX10_init_290 : decode cX10_init 290 = .ok (.putfield 120, 3) := by decide +kernel
theorem dX10_init_293 : decode cX10_init 293 = .ok (.aload_n 0, 1) := by decide +kernel
theorem dX10_init_294 : decode cX10_init 294 = .ok (.bipush 8, 2) := by decide +kernel
theorem dX10_init_296 : decode cX10_init 296 = .ok (.newarray .int, 2) := by decide +kernel
theorem dX10_init_298 : decode cX10_init 298 = .ok (.putfield 123, 3) := by decide +kernel
theorem dX10_init_301 : decode cX10_init 301 = .ok (.aload_n 0, 1) := by decide +kernel
theorem dX10_init_302 : decode cX10_init 302 = .ok (.bipush 8, 2) := by decide +kernel
theorem dX10_init_304 : decode cX10_init 304 = .ok (.newarray .int, 2) := by decide +kernel
theorem dX10_init_306 : decode cX10_init 306 = .ok (.putfield 126, 3) := by decide +kernel
theorem dX10_init_309 : decode cX10_init 309 = .ok (.aload_n 0, 1) := by decide +kernel
theorem dX10_init_310 : decode cX10_init 310 = .ok (.iconst 2, 1) := by decide +kernel
theorem dX10_init_311 : decode cX10_init 311 = .ok (.newarray .int, 2) := by decide +kernel
theorem dX10_init_313 : decode cX10_init 313 = .ok (.dup, 1) := by decide +kernel
theorem dX10_init_314 : decode cX10_init 314 = .ok (.iconst 0, 1) := by decide +kernel
theorem dX10_init_315 : decode cX10_init 315 = .ok (.bipush 15, 2) := by decide +kernel
theorem dX10_init_317 : decode cX10_init 317 = .ok (.iastore, 1) := by decide +kernel
theorem dX10_init_318 : decode cX10_init 318 = .ok (.dup, 1) := by decide +kernel
theorem dX10_init_319 : decode cX10_init 319 = .ok (.iconst 1, 1) := by decide +kernel
theorem dX10_init_320 : decode cX10_init 320 = .ok (.bipush 15, 2) := by decide +kernel
theorem dX10_init_322 : decode cX10_init 322 = .ok (.iastore, 1) := by decide +kernel
theorem dX10_init_323 : decode cX10_init 323 = .ok (.putfield 129, 3) := by decide +kernel
theorem dX10_init_326 : decode cX10_init 326 = .ok (.aload_n 0, 1) := by decide +kernel
theorem dX10_init_327 : decode cX10_init 327 = .ok (.bipush 12, 2) := by decide +kernel
theorem dX10_init_329 : decode cX10_init 329 = .ok (.newarray .int, 2) := by decide +kernel
theorem dX10_init_331 : decode cX10_init 331 = .ok (.putfield 132, 3) := by decide +kernel
theorem dX10_init_334 : decode cX10_init 334 = .ok (.aload_n 0, 1) := by decide +kernel
theorem dX10_init_335 : decode cX10_init 335 = .ok (.ldc 135, 2) := by decide +kernel
theorem dX10_init_337 : decode cX10_init 337 = .ok (.newarray .int, 2) := by decide +kernel
theorem dX10_init_339 : decode cX10_init 339 = .ok (.putfield 136, 3) := by decide +kernel
theorem dX10_init_342 : decode cX10_init 342 = .ok (.aload_n 0, 1) := by decide +kernel
theorem dX10_init_343 : decode cX10_init 343 = .ok (.bipush 8, 2) := by decide +kernel
theorem dX10_init_345 : decode cX10_init 345 = .ok (.newarray .int, 2) := by decide +kernel
theorem dX10_init_347 : decode cX10_init 347 = .ok (.putfield 139, 3) := by decide +kernel
theorem dX10_init_350 : decode cX10_init 350 = .ok (.aload_n 0, 1) := by decide +kernel
theorem dX10_init_351 : decode cX10_init 351 = .ok (.bipush 8, 2) := by decide +kernel
theorem dX10_init_353 : decode cX10_init 353 = .ok (.newarray .int, 2) := by decide +kernel
theorem dX10_init_355 : decode cX10_init 355 = .ok (.putfield 142, 3) := by decide +kernel
theorem dX10_init_358 : decode cX10_init 358 = .ok (.aload_n 0, 1) := by decide +kernel
theorem dX10_init_359 : decode cX10_init 359 = .ok (.iconst 2, 1) := by decide +kernel
theorem dX10_init_360 : decode cX10_init 360 = .ok (.newarray .int, 2) := by decide +kernel
theorem dX10_init_362 : decode cX10_init 362 = .ok (.putfield 145, 3) := by decide +kernel
theorem dX10_init_365 : decode cX10_init 365 = .ok (.iconst 0, 1) := by decide +kernel
theorem dX10_init_366 : decode cX10_init 366 = .ok (.istore_n 1, 1) := by decide +kernel
theorem dX10_init_367 : decode cX10_init 367 = .ok (.iload_n 1, 1) := by decide +kernel
theorem dX10_init_368 : decode cX10_init 368 = .ok (.sipush 1000, 3) := by decide +kernel
theorem dX10_init_371 : decode cX10_init 371 = .ok (.if_icmp .gt 23, 3) := by decide +kernel
theorem dX10_init_374 : decode cX10_init 374 = .ok (.aload_n 0, 1) := by decide +kernel
theorem dX10_init_375 : decode cX10_init 375 = .ok (.getfield 13, 3) := by decide +kernel
theorem dX10_init_378 : decode cX10_init 378 = .ok (.iload_n 1, 1) := by decide +kernel
theorem dX10_init_379 : decode cX10_init 379 = .ok (.iconst (-1), 1) := by decide +kernel
theorem dX10_init_380 : decode cX10_init 380 = .ok (.iastore, 1) := by decide +kernel
theorem dX10_init_381 : decode cX10_init 381 = .ok (.aload_n 0, 1) := by decide +kernel
theorem dX10_init_382 : decode cX10_init 382 = .ok (.getfield 16, 3) := by decide +kernel
theorem dX10_init_385 : decode cX10_init 385 = .ok (.iload_n 1, 1) := by decide +kernel
theorem dX10_init_386 : decode cX10_init 386 = .ok (.iconst (-1), 1) := by decide +kernel
theorem dX10_init_387 : decode cX10_init 387 = .ok (.iastore, 1) := by decide +kernel
theorem dX10_init_388 : decode cX10_init 388 = .ok (.iinc 1 1, 3) := by decide +kernel
theorem dX10_init_391 : decode cX10_init 391 = .ok (.goto (-24), 3) := by decide +kernel
theorem dX10_init_394 : decode cX10_init 394 = .ok (.iconst 0, 1) := by decide +kernel
theorem dX10_init_395 : decode cX10_init 395 = .ok (.istore_n 1, 1) := by decide +kernel
theorem dX10_init_396 : decode cX10_init 396 = .ok (.iload_n 1, 1) := by decide +kernel
theorem dX10_init_397 : decode cX10_init 397 = .ok (.iconst 4, 1) := by decide +kernel
theorem dX10_init_398 : decode cX10_init 398 = .ok (.if_icmp .ge 17, 3) := by decide +kernel
theorem dX10_init_401 : decode cX10_init 401 = .ok (.aload_n 0, 1) := by decide +kernel
theorem dX10_init_402 : decode cX10_init 402 = .ok (.getfield 19, 3) := by decide +kernel
theorem dX10_init_405 : decode cX10_init 405 = .ok (.iload_n 1, 1) := by decide +kernel
theorem dX10_init_406 : decode cX10_init 406 = .ok (.bipush 10, 2) := by decide +kernel
theorem dX10_init_408 : decode cX10_init 408 = .ok (.iastore, 1) := by decide +kernel
theorem dX10_init_409 : decode cX10_init 409 = .ok (.iinc 1 1, 3) := by decide +kernel
theorem dX10_init_412 : decode cX10_init 412 = .ok (.goto (-16), 3) := by decide +kernel
theorem dX10_init_415 : decode cX10_init 415 = .ok (.iconst 0, 1) := by decide +kernel
theorem dX10_init_416 : decode cX10_init 416 = .ok (.istore_n 1, 1) := by decide +kernel
theorem dX10_init_417 : decode cX10_init 417 = .ok (.iload_n 1, 1) := by decide +kernel
theorem dX10_init_418 : decode cX10_init 418 = .ok (.bipush 20, 2) := by decide +kernel
theorem dX10_init_420 : decode cX10_init 420 = .ok (.if_icmp .ge 17, 3) := by decide +kernel
theorem dX10_init_423 : decode cX10_init 423 = .ok (.aload_n 0, 1) := by decide +kernel
theorem dX10_init_424 : decode cX10_init 424 = .ok (.getfield 99, 3) := by decide +kernel
theorem dX10_init_427 : decode cX10_init 427 = .ok (.iload_n 1, 1) := by decide +kernel
theorem dX10_init_428 : decode cX10_init 428 = .ok (.bipush 10, 2) := by decide +kernel
theorem dX10_init_430 : decode cX10_init 430 = .ok (.iastore, 1) := by decide +kernel
theorem dX10_init_431 : decode cX10_init 431 = .ok (.iinc 1 1, 3) := by decide +kernel
theorem dX10_init_434 : decode cX10_init 434 = .ok (.goto (-17), 3) := by decide +kernel
theorem dX10_init_437 : decode cX10_init 437 = .ok (.return_, 1) := by decide +kernel
theorem dX10_refuse_0 : decode cX10_refuse 0 = .ok (.aload_n 0, 1) := by decide +kernel
theorem dX10_refuse_1 : decode cX10_refuse 1 = .ok (.getfield 7, 3) := by decide +kernel
theorem dX10_refuse_4 : decode cX10_refuse 4 = .ok (.iload_n 1, 1) := by decide +kernel
theorem dX10_refuse_5 : decode cX10_refuse 5 = .ok (.ineg, 1) := by decide +kernel
theorem dX10_refuse_6 : decode cX10_refuse 6 = .ok (.dup2, 1) := by decide +kernel
theorem dX10_refuse_7 : decode cX10_refuse 7 = .ok (.iaload, 1) := by decide +kernel
theorem dX10_refuse_8 : decode cX10_refuse 8 = .ok (.iconst 1, 1) := by decide +kernel
theorem dX10_refuse_9 : decode cX10_refuse 9 = .ok (.iadd, 1) := by decide +kernel
theorem dX10_refuse_10 : decode cX10_refuse 10 = .ok (.iastore, 1) := by decide +kernel
theorem dX10_refuse_11 : decode cX10_refuse 11 = .ok (.iload_n 1, 1) := by decide +kernel
theorem dX10_refuse_12 : decode cX10_refuse 12 = .ok (.ireturn, 1) := by decide +kernel
theorem dX10_refuseFar_0 : decode cX10_refuseFar 0 = .ok (.ldc 148, 2) := by decide +kernel
theorem dX10_refuseFar_2 : decode cX10_refuseFar 2 = .ok (.aload_n 0, 1) := by decide +kernel
theorem dX10_refuseFar_3 : decode cX10_refuseFar 3 = .ok (.iload_n 1, 1) := by decide +kernel
theorem dX10_refuseFar_4 : decode cX10_refuseFar 4 = .ok (.invokevirtual 149, 3) := by decide +kernel
theorem dX10_refuseFar_7 : decode cX10_refuseFar 7 = .ok (.isub, 1) := by decide +kernel
theorem dX10_refuseFar_8 : decode cX10_refuseFar 8 = .ok (.ireturn, 1) := by decide +kernel
theorem dX10_isIn_0 : decode cX10_isIn 0 = .ok (.iload_n 0, 1) := by decide +kernel
theorem dX10_isIn_1 : decode cX10_isIn 1 = .ok (.ifCond .lt 12, 3) := by decide +kernel
theorem dX10_isIn_4 : decode cX10_isIn 4 = .ok (.iload_n 0, 1) := by decide +kernel
theorem dX10_isIn_5 : decode cX10_isIn 5 = .ok (.iload_n 1, 1) := by decide +kernel
theorem dX10_isIn_6 : decode cX10_isIn 6 = .ok (.if_icmp .ge 7, 3) := by decide +kernel
theorem dX10_isIn_9 : decode cX10_isIn 9 = .ok (.iconst 1, 1) := by decide +kernel
theorem dX10_isIn_10 : decode cX10_isIn 10 = .ok (.goto 4, 3) := by decide +kernel
theorem dX10_isIn_13 : decode cX10_isIn 13 = .ok (.iconst 0, 1) := by decide +kernel
theorem dX10_isIn_14 : decode cX10_isIn 14 = .ok (.ireturn, 1) := by decide +kernel
theorem dX10_wrong_0 : decode cX10_wrong 0 = .ok (.iload_n 0, 1) := by decide +kernel
theorem dX10_wrong_1 : decode cX10_wrong 1 = .ok (.iload_n 1, 1) := by decide +kernel
theorem dX10_wrong_2 : decode cX10_wrong 2 = .ok (.if_icmp .ge 8, 3) := by decide +kernel
theorem dX10_wrong_5 : decode cX10_wrong 5 = .ok (.bipush (-4), 2) := by decide +kernel
theorem dX10_wrong_7 : decode cX10_wrong 7 = .ok (.goto 14, 3) := by decide +kernel
theorem dX10_wrong_10 : decode cX10_wrong 10 = .ok (.iload_n 0, 1) := by decide +kernel
theorem dX10_wrong_11 : decode cX10_wrong 11 = .ok (.iload_n 2, 1) := by decide +kernel
theorem dX10_wrong_12 : decode cX10_wrong 12 = .ok (.if_icmp .le 8, 3) := by decide +kernel
theorem dX10_wrong_15 : decode cX10_wrong 15 = .ok (.bipush (-6), 2) := by decide +kernel
theorem dX10_wrong_17 : decode cX10_wrong 17 = .ok (.goto 4, 3) := by decide +kernel
theorem dX10_wrong_20 : decode cX10_wrong 20 = .ok (.iconst 0, 1) := by decide +kernel
theorem dX10_wrong_21 : decode cX10_wrong 21 = .ok (.ireturn, 1) := by decide +kernel
theorem dX10_day_0 : decode cX10_day 0 = .ok (.iload_n 1, 1) := by decide +kernel
theorem dX10_day_1 : decode cX10_day 1 = .ok (.sipush 1001, 3) := by decide +kernel
theorem dX10_day_4 : decode cX10_day 4 = .ok (.invokestatic 153, 3) := by decide +kernel
theorem dX10_day_7 : decode cX10_day 7 = .ok (.ifCond .ne 7, 3) := by decide +kernel
theorem dX10_day_10 : decode cX10_day 10 = .ok (.iconst (-1), 1) := by decide +kernel
theorem dX10_day_11 : decode cX10_day 11 = .ok (.goto 45, 3) := by decide +kernel
theorem dX10_day_14 : decode cX10_day 14 = .ok (.iload_n 2, 1) := by decide +kernel
theorem dX10_day_15 : decode cX10_day 15 = .ok (.iconst 2, 1) := by decide +kernel
theorem dX10_day_16 : decode cX10_day 16 = .ok (.invokestatic 153, 3) := by decide +kernel
theorem dX10_day_19 : decode cX10_day 19 = .ok (.ifCond .ne 8, 3) := by decide +kernel
theorem dX10_day_22 : decode cX10_day 22 = .ok (.bipush (-2), 2) := by decide +kernel
theorem dX10_day_24 : decode cX10_day 24 = .ok (.goto 32, 3) := by decide +kernel
theorem dX10_day_27 : decode cX10_day 27 = .ok (.iload_n 1, 1) := by decide +kernel
theorem dX10_day_28 : decode cX10_day 28 = .ok (.aload_n 0, 1) := by decide +kernel
theorem dX10_day_29 : decode cX10_day 29 = .ok (.getfield 157, 3) := by decide +kernel
theorem dX10_day_32 : decode cX10_day 32 = .ok (.if_icmp .ge 8, 3) := by decide +kernel
theorem dX10_day_35 : decode cX10_day 35 = .ok (.bipush (-3), 2) := by decide +kernel
theorem dX10_day_37 : decode cX10_day 37 = .ok (.goto 19, 3) := by decide +kernel
theorem dX10_day_40 : decode cX10_day 40 = .ok (.iload_n 3, 1) := by decide +kernel
theorem dX10_day_41 : decode cX10_day 41 = .ok (.iconst (-1), 1) := by decide +kernel
theorem dX10_day_42 : decode cX10_day 42 = .ok (.iload_n 2, 1) := by decide +kernel
theorem dX10_day_43 : decode cX10_day 43 = .ok (.ifCond .ne 8, 3) := by decide +kernel
theorem dX10_day_46 : decode cX10_day 46 = .ok (.bipush 99, 2) := by decide +kernel
theorem dX10_day_48 : decode cX10_day 48 = .ok (.goto 5, 3) := by decide +kernel
theorem dX10_day_51 : decode cX10_day 51 = .ok (.bipush 40, 2) := by decide +kernel
theorem dX10_day_53 : decode cX10_day 53 = .ok (.invokestatic 160, 3) := by decide +kernel
theorem dX10_day_56 : decode cX10_day 56 = .ok (.istore 4, 2) := by decide +kernel
theorem dX10_day_58 : decode cX10_day 58 = .ok (.iload 4, 2) := by decide +kernel
theorem dX10_day_60 : decode cX10_day 60 = .ok (.ifCond .eq 10, 3) := by decide +kernel
theorem dX10_day_63 : decode cX10_day 63 = .ok (.aload_n 0, 1) := by decide +kernel
theorem dX10_day_64 : decode cX10_day 64 = .ok (.iload 4, 2) := by decide +kernel
theorem dX10_day_66 : decode cX10_day 66 = .ok (.invokevirtual 164, 3) := by decide +kernel
theorem dX10_day_69 : decode cX10_day 69 = .ok (.ireturn, 1) := by decide +kernel
theorem dX10_day_70 : decode cX10_day 70 = .ok (.iload_n 2, 1) := by decide +kernel
theorem dX10_day_71 : decode cX10_day 71 = .ok (.ifCond .ne 12, 3) := by decide +kernel
theorem dX10_day_74 : decode cX10_day 74 = .ok (.aload_n 0, 1) := by decide +kernel
theorem dX10_day_75 : decode cX10_day 75 = .ok (.getfield 13, 3) := by decide +kernel
theorem dX10_day_78 : decode cX10_day 78 = .ok (.iload_n 1, 1) := by decide +kernel
theorem dX10_day_79 : decode cX10_day 79 = .ok (.iaload, 1) := by decide +kernel
theorem dX10_day_80 : decode cX10_day 80 = .ok (.goto 9, 3) := by decide +kernel
theorem dX10_day_83 : decode cX10_day 83 = .ok (.aload_n 0, 1) := by decide +kernel
theorem dX10_day_84 : decode cX10_day 84 = .ok (.getfield 16, 3) := by decide +kernel
theorem dX10_day_87 : decode cX10_day 87 = .ok (.iload_n 1, 1) := by decide +kernel
theorem dX10_day_88 : decode cX10_day 88 = .ok (.iaload, 1) := by decide +kernel
theorem dX10_day_89 : decode cX10_day 89 = .ok (.istore 5, 2) := by decide +kernel
theorem dX10_day_91 : decode cX10_day 91 = .ok (.iload_n 2, 1) := by decide +kernel
theorem dX10_day_92 : decode cX10_day 92 = .ok (.ifCond .ne 13, 3) := by decide +kernel
theorem dX10_day_95 : decode cX10_day 95 = .ok (.aload_n 0, 1) := by decide +kernel
theorem dX10_day_96 : decode cX10_day 96 = .ok (.getfield 13, 3) := by decide +kernel
theorem dX10_day_99 : decode cX10_day 99 = .ok (.iload_n 1, 1) := by decide +kernel
theorem dX10_day_100 : decode cX10_day 100 = .ok (.iload_n 3, 1) := by decide +kernel
theorem dX10_day_101 : decode cX10_day 101 = .ok (.iastore, 1) := by decide +kernel
theorem dX10_day_102 : decode cX10_day 102 = .ok (.goto 10, 3) := by decide +kernel
theorem dX10_day_105 : decode cX10_day 105 = .ok (.aload_n 0, 1) := by decide +kernel
theorem dX10_day_106 : decode cX10_day 106 = .ok (.getfield 16, 3) := by decide +kernel
theorem dX10_day_109 : decode cX10_day 109 = .ok (.iload_n 1, 1) := by decide +kernel
theorem dX10_day_110 : decode cX10_day 110 = .ok (.iload_n 3, 1) := by decide +kernel
theorem dX10_day_111 : decode cX10_day 111 = .ok (.iastore, 1) := by decide +kernel
theorem dX10_day_112 : decode cX10_day 112 = .ok (.iload 5, 2) := by decide +kernel
theorem dX10_day_114 : decode cX10_day 114 = .ok (.ireturn, 1) := by decide +kernel
theorem dX10_counts_0 : decode cX10_counts 0 = .ok (.iload_n 2, 1) := by decide +kernel
theorem dX10_counts_1 : decode cX10_counts 1 = .ok (.ifCond .ne 12, 3) := by decide +kernel
theorem dX10_counts_4 : decode cX10_counts 4 = .ok (.aload_n 0, 1) := by decide +kernel
theorem dX10_counts_5 : decode cX10_counts 5 = .ok (.getfield 13, 3) := by decide +kernel
theorem dX10_counts_8 : decode cX10_counts 8 = .ok (.iload_n 1, 1) := by decide +kernel
theorem dX10_counts_9 : decode cX10_counts 9 = .ok (.iaload, 1) := by decide +kernel
theorem dX10_counts_10 : decode cX10_counts 10 = .ok (.goto 9, 3) := by decide +kernel
theorem dX10_counts_13 : decode cX10_counts 13 = .ok (.aload_n 0, 1) := by decide +kernel
theorem dX10_counts_14 : decode cX10_counts 14 = .ok (.getfield 16, 3) := by decide +kernel
theorem dX10_counts_17 : decode cX10_counts 17 = .ok (.iload_n 1, 1) := by decide +kernel
theorem dX10_counts_18 : decode cX10_counts 18 = .ok (.iaload, 1) := by decide +kernel
theorem dX10_counts_19 : decode cX10_counts 19 = .ok (.istore_n 3, 1) := by decide +kernel
theorem dX10_counts_20 : decode cX10_counts 20 = .ok (.iload_n 3, 1) := by decide +kernel
theorem dX10_counts_21 : decode cX10_counts 21 = .ok (.ifCond .lt 5, 3) := by decide +kernel
theorem dX10_counts_24 : decode cX10_counts 24 = .ok (.iload_n 3, 1) := by decide +kernel
theorem dX10_counts_25 : decode cX10_counts 25 = .ok (.ireturn, 1) := by decide +kernel
theorem dX10_counts_26 : decode cX10_counts 26 = .ok (.iconst (-1), 1) := by decide +kernel
theorem dX10_counts_27 : decode cX10_counts 27 = .ok (.istore 4, 2) := by decide +kernel
theorem dX10_counts_29 : decode cX10_counts 29 = .ok (.iconst 0, 1) := by decide +kernel
theorem dX10_counts_30 : decode cX10_counts 30 = .ok (.iload_n 1, 1) := by decide +kernel
theorem dX10_counts_31 : decode cX10_counts 31 = .ok (.bipush 7, 2) := by decide +kernel
theorem dX10_counts_33 : decode cX10_counts 33 = .ok (.isub, 1) := by decide +kernel
theorem dX10_counts_34 : decode cX10_counts 34 = .ok (.invokestatic 167, 3) := by decide +kernel
theorem dX10_counts_37 : decode cX10_counts 37 = .ok (.istore 5, 2) := by decide +kernel
theorem dX10_counts_39 : decode cX10_counts 39 = .ok (.iload 5, 2) := by decide +kernel
theorem dX10_counts_41 : decode cX10_counts 41 = .ok (.iload_n 1, 1) := by decide +kernel
theorem dX10_counts_42 : decode cX10_counts 42 = .ok (.if_icmp .ge 37, 3) := by decide +kernel
theorem dX10_counts_45 : decode cX10_counts 45 = .ok (.iload 4, 2) := by decide +kernel
theorem dX10_counts_47 : decode cX10_counts 47 = .ok (.iload_n 2, 1) := by decide +kernel
theorem dX10_counts_48 : decode cX10_counts 48 = .ok (.ifCond .ne 13, 3) := by decide +kernel
theorem dX10_counts_51 : decode cX10_counts 51 = .ok (.aload_n 0, 1) := by decide +kernel
theorem dX10_counts_52 : decode cX10_counts 52 = .ok (.getfield 13, 3) := by decide +kernel
theorem dX10_counts_55 : decode cX10_counts 55 = .ok (.iload 5, 2) := by decide +kernel
theorem dX10_counts_57 : decode cX10_counts 57 = .ok (.iaload, 1) := by decide +kernel
theorem dX10_counts_58 : decode cX10_counts 58 = .ok (.goto 10, 3) := by decide +kernel
theorem dX10_counts_61 : decode cX10_counts 61 = .ok (.aload_n 0, 1) := by decide +kernel
theorem dX10_counts_62 : decode cX10_counts 62 = .ok (.getfield 16, 3) := by decide +kernel
theorem dX10_counts_65 : decode cX10_counts 65 = .ok (.iload 5, 2) := by decide +kernel
theorem dX10_counts_67 : decode cX10_counts 67 = .ok (.iaload, 1) := by decide +kernel
theorem dX10_counts_68 : decode cX10_counts 68 = .ok (.invokestatic 167, 3) := by decide +kernel
theorem dX10_counts_71 : decode cX10_counts 71 = .ok (.istore 4, 2) := by decide +kernel
theorem dX10_counts_73 : decode cX10_counts 73 = .ok (.iinc 5 1, 3) := by decide +kernel
theorem dX10_counts_76 : decode cX10_counts 76 = .ok (.goto (-37), 3) := by decide +kernel
theorem dX10_counts_79 : decode cX10_counts 79 = .ok (.iload 4, 2) := by decide +kernel
theorem dX10_counts_81 : decode cX10_counts 81 = .ok (.ifCond .lt 8, 3) := by decide +kernel
theorem dX10_counts_84 : decode cX10_counts 84 = .ok (.iload 4, 2) := by decide +kernel
theorem dX10_counts_86 : decode cX10_counts 86 = .ok (.goto 14, 3) := by decide +kernel
theorem dX10_counts_89 : decode cX10_counts 89 = .ok (.iload_n 2, 1) := by decide +kernel
theorem dX10_counts_90 : decode cX10_counts 90 = .ok (.ifCond .ne 8, 3) := by decide +kernel
theorem dX10_counts_93 : decode cX10_counts 93 = .ok (.bipush 30, 2) := by decide +kernel
theorem dX10_counts_95 : decode cX10_counts 95 = .ok (.goto 5, 3) := by decide +kernel
theorem dX10_counts_98 : decode cX10_counts 98 = .ok (.bipush 10, 2) := by decide +kernel
theorem dX10_counts_100 : decode cX10_counts 100 = .ok (.ireturn, 1) := by decide +kernel
theorem dX10_dayOf_0 : decode cX10_dayOf 0 = .ok (.iload_n 1, 1) := by decide +kernel
theorem dX10_dayOf_1 : decode cX10_dayOf 1 = .ok (.sipush 1001, 3) := by decide +kernel
theorem dX10_dayOf_4 : decode cX10_dayOf 4 = .ok (.invokestatic 153, 3) := by decide +kernel
theorem dX10_dayOf_7 : decode cX10_dayOf 7 = .ok (.ifCond .ne 9, 3) := by decide +kernel
theorem dX10_dayOf_10 : decode cX10_dayOf 10 = .ok (.aload_n 0, 1) := by decide +kernel
theorem dX10_dayOf_11 : decode cX10_dayOf 11 = .ok (.iconst (-1), 1) := by decide +kernel
theorem dX10_dayOf_12 : decode cX10_dayOf 12 = .ok (.invokevirtual 149, 3) := by decide +kernel
theorem dX10_dayOf_15 : decode cX10_dayOf 15 = .ok (.ireturn, 1) := by decide +kernel
theorem dX10_dayOf_16 : decode cX10_dayOf 16 = .ok (.iload_n 2, 1) := by decide +kernel
theorem dX10_dayOf_17 : decode cX10_dayOf 17 = .ok (.iconst 2, 1) := by decide +kernel
theorem dX10_dayOf_18 : decode cX10_dayOf 18 = .ok (.invokestatic 153, 3) := by decide +kernel
theorem dX10_dayOf_21 : decode cX10_dayOf 21 = .ok (.ifCond .eq 12, 3) := by decide +kernel
theorem dX10_dayOf_24 : decode cX10_dayOf 24 = .ok (.aload_n 0, 1) := by decide +kernel
theorem dX10_dayOf_25 : decode cX10_dayOf 25 = .ok (.iload_n 1, 1) := by decide +kernel
theorem dX10_dayOf_26 : decode cX10_dayOf 26 = .ok (.iload_n 2, 1) := by decide +kernel
theorem dX10_dayOf_27 : decode cX10_dayOf 27 = .ok (.invokevirtual 173, 3) := by decide +kernel
theorem dX10_dayOf_30 : decode cX10_dayOf 30 = .ok (.goto 9, 3) := by decide +kernel
theorem dX10_dayOf_33 : decode cX10_dayOf 33 = .ok (.aload_n 0, 1) := by decide +kernel
theorem dX10_dayOf_34 : decode cX10_dayOf 34 = .ok (.bipush (-2), 2) := by decide +kernel
theorem dX10_dayOf_36 : decode cX10_dayOf 36 = .ok (.invokevirtual 149, 3) := by decide +kernel
theorem dX10_dayOf_39 : decode cX10_dayOf 39 = .ok (.ireturn, 1) := by decide +kernel
theorem dX10_growth_0 : decode cX10_growth 0 = .ok (.iload_n 1, 1) := by decide +kernel
theorem dX10_growth_1 : decode cX10_growth 1 = .ok (.iconst 4, 1) := by decide +kernel
theorem dX10_growth_2 : decode cX10_growth 2 = .ok (.invokestatic 153, 3) := by decide +kernel
theorem dX10_growth_5 : decode cX10_growth 5 = .ok (.ifCond .eq 13, 3) := by decide +kernel
theorem dX10_growth_8 : decode cX10_growth 8 = .ok (.iload_n 2, 1) := by decide +kernel
theorem dX10_growth_9 : decode cX10_growth 9 = .ok (.iconst 0, 1) := by decide +kernel
theorem dX10_growth_10 : decode cX10_growth 10 = .ok (.bipush 50, 2) := by decide +kernel
theorem dX10_growth_12 : decode cX10_growth 12 = .ok (.invokestatic 160, 3) := by decide +kernel
theorem dX10_growth_15 : decode cX10_growth 15 = .ok (.goto 4, 3) := by decide +kernel
theorem dX10_growth_18 : decode cX10_growth 18 = .ok (.iconst (-1), 1) := by decide +kernel
theorem dX10_growth_19 : decode cX10_growth 19 = .ok (.istore_n 3, 1) := by decide +kernel
theorem dX10_growth_20 : decode cX10_growth 20 = .ok (.iload_n 3, 1) := by decide +kernel
theorem dX10_growth_21 : decode cX10_growth 21 = .ok (.ifCond .eq 9, 3) := by decide +kernel
theorem dX10_growth_24 : decode cX10_growth 24 = .ok (.aload_n 0, 1) := by decide +kernel
theorem dX10_growth_25 : decode cX10_growth 25 = .ok (.iload_n 3, 1) := by decide +kernel
theorem dX10_growth_26 : decode cX10_growth 26 = .ok (.invokevirtual 149, 3) := by decide +kernel
theorem dX10_growth_29 : decode cX10_growth 29 = .ok (.ireturn, 1) := by decide +kernel
theorem dX10_growth_30 : decode cX10_growth 30 = .ok (.aload_n 0, 1) := by decide +kernel
theorem dX10_growth_31 : decode cX10_growth 31 = .ok (.getfield 19, 3) := by decide +kernel
theorem dX10_growth_34 : decode cX10_growth 34 = .ok (.iload_n 1, 1) := by decide +kernel
theorem dX10_growth_35 : decode cX10_growth 35 = .ok (.iaload, 1) := by decide +kernel
theorem dX10_growth_36 : decode cX10_growth 36 = .ok (.istore 4, 2) := by decide +kernel
theorem dX10_growth_38 : decode cX10_growth 38 = .ok (.aload_n 0, 1) := by decide +kernel
theorem dX10_growth_39 : decode cX10_growth 39 = .ok (.getfield 19, 3) := by decide +kernel
theorem dX10_growth_42 : decode cX10_growth 42 = .ok (.iload_n 1, 1) := by decide +kernel
theorem dX10_growth_43 : decode cX10_growth 43 = .ok (.iload_n 2, 1) := by decide +kernel
theorem dX10_growth_44 : decode cX10_growth 44 = .ok (.iastore, 1) := by decide +kernel
theorem dX10_growth_45 : decode cX10_growth 45 = .ok (.iload 4, 2) := by decide +kernel
theorem dX10_growth_47 : decode cX10_growth 47 = .ok (.ireturn, 1) := by decide +kernel
theorem dX10_isMile_0 : decode cX10_isMile 0 = .ok (.iload_n 0, 1) := by decide +kernel
theorem dX10_isMile_1 : decode cX10_isMile 1 = .ok (.bipush 20, 2) := by decide +kernel
theorem dX10_isMile_3 : decode cX10_isMile 3 = .ok (.invokestatic 153, 3) := by decide +kernel
theorem dX10_isMile_6 : decode cX10_isMile 6 = .ok (.ireturn, 1) := by decide +kernel
theorem dX10_isDefect_0 : decode cX10_isDefect 0 = .ok (.iload_n 1, 1) := by decide +kernel
theorem dX10_isDefect_1 : decode cX10_isDefect 1 = .ok (.aload_n 0, 1) := by decide +kernel
theorem dX10_isDefect_2 : decode cX10_isDefect 2 = .ok (.getfield 176, 3) := by decide +kernel
theorem dX10_isDefect_5 : decode cX10_isDefect 5 = .ok (.invokestatic 153, 3) := by decide +kernel
theorem dX10_isDefect_8 : decode cX10_isDefect 8 = .ok (.ireturn, 1) := by decide +kernel
theorem dX10_defect_0 : decode cX10_defect 0 = .ok (.iload_n 1, 1) := by decide +kernel
theorem dX10_defect_1 : decode cX10_defect 1 = .ok (.invokestatic 179, 3) := by decide +kernel
theorem dX10_defect_4 : decode cX10_defect 4 = .ok (.ifCond .eq 12, 3) := by decide +kernel
theorem dX10_defect_7 : decode cX10_defect 7 = .ok (.iload 4, 2) := by decide +kernel
theorem dX10_defect_9 : decode cX10_defect 9 = .ok (.iconst 4, 1) := by decide +kernel
theorem dX10_defect_10 : decode cX10_defect 10 = .ok (.invokestatic 153, 3) := by decide +kernel
theorem dX10_defect_13 : decode cX10_defect 13 = .ok (.ifCond .ne 9, 3) := by decide +kernel
theorem dX10_defect_16 : decode cX10_defect 16 = .ok (.aload_n 0, 1) := by decide +kernel
theorem dX10_defect_17 : decode cX10_defect 17 = .ok (.iconst (-1), 1) := by decide +kernel
theorem dX10_defect_18 : decode cX10_defect 18 = .ok (.invokevirtual 149, 3) := by decide +kernel
theorem dX10_defect_21 : decode cX10_defect 21 = .ok (.ireturn, 1) := by decide +kernel
theorem dX10_defect_22 : decode cX10_defect 22 = .ok (.iload_n 2, 1) := by decide +kernel
theorem dX10_defect_23 : decode cX10_defect 23 = .ok (.ifCond .lt 17, 3) := by decide +kernel
theorem dX10_defect_26 : decode cX10_defect 26 = .ok (.iload_n 3, 1) := by decide +kernel
theorem dX10_defect_27 : decode cX10_defect 27 = .ok (.ifCond .lt 13, 3) := by decide +kernel
theorem dX10_defect_30 : decode cX10_defect 30 = .ok (.iload 5, 2) := by decide +kernel
theorem dX10_defect_32 : decode cX10_defect 32 = .ok (.ifCond .lt 8, 3) := by decide +kernel
theorem dX10_defect_35 : decode cX10_defect 35 = .ok (.iload 6, 2) := by decide +kernel
theorem dX10_defect_37 : decode cX10_defect 37 = .ok (.ifCond .ge 10, 3) := by decide +kernel
theorem dX10_defect_40 : decode cX10_defect 40 = .ok (.aload_n 0, 1) := by decide +kernel
theorem dX10_defect_41 : decode cX10_defect 41 = .ok (.bipush (-4), 2) := by decide +kernel
theorem dX10_defect_43 : decode cX10_defect 43 = .ok (.invokevirtual 149, 3) := by decide +kernel
theorem dX10_defect_46 : decode cX10_defect 46 = .ok (.ireturn, 1) := by decide +kernel
theorem dX10_defect_47 : decode cX10_defect 47 = .ok (.iload_n 2, 1) := by decide +kernel
theorem dX10_defect_48 : decode cX10_defect 48 = .ok (.sipush 1759, 3) := by decide +kernel
theorem dX10_defect_51 : decode cX10_defect 51 = .ok (.if_icmp .gt 41, 3) := by decide +kernel
theorem dX10_defect_54 : decode cX10_defect 54 = .ok (.iload_n 3, 1) := by decide +kernel
theorem dX10_defect_55 : decode cX10_defect 55 = .ok (.iconst 1, 1) := by decide +kernel
theorem dX10_defect_56 : decode cX10_defect 56 = .ok (.if_icmp .gt 36, 3) := by decide +kernel
theorem dX10_defect_59 : decode cX10_defect 59 = .ok (.iload 5, 2) := by decide +kernel
theorem dX10_defect_61 : decode cX10_defect 61 = .ok (.sipush 999, 3) := by decide +kernel
theorem dX10_defect_64 : decode cX10_defect 64 = .ok (.if_icmp .gt 28, 3) := by decide +kernel
theorem dX10_defect_67 : decode cX10_defect 67 = .ok (.iload 6, 2) := by decide +kernel
theorem dX10_defect_69 : decode cX10_defect 69 = .ok (.bipush 50, 2) := by decide +kernel
theorem dX10_defect_71 : decode cX10_defect 71 = .ok (.if_icmp .gt 21, 3) := by decide +kernel
theorem dX10_defect_74 : decode cX10_defect 74 = .ok (.aload_n 0, 1) := by decide +kernel
theorem dX10_defect_75 : decode cX10_defect 75 = .ok (.getfield 176, 3) := by decide +kernel
theorem dX10_defect_78 : decode cX10_defect 78 = .ok (.bipush 40, 2) := by decide +kernel
theorem dX10_defect_80 : decode cX10_defect 80 = .ok (.if_icmp .eq 12, 3) := by decide +kernel
theorem dX10_defect_83 : decode cX10_defect 83 = .ok (.aload_n 0, 1) := by decide +kernel
theorem dX10_defect_84 : decode cX10_defect 84 = .ok (.getfield 183, 3) := by decide +kernel
theorem dX10_defect_87 : decode cX10_defect 87 = .ok (.bipush 120, 2) := by decide +kernel
theorem dX10_defect_89 : decode cX10_defect 89 = .ok (.if_icmp .ne 10, 3) := by decide +kernel
theorem dX10_defect_92 : decode cX10_defect 92 = .ok (.aload_n 0, 1) := by decide +kernel
theorem dX10_defect_93 : decode cX10_defect 93 = .ok (.bipush (-6), 2) := by decide +kernel
theorem dX10_defect_95 : decode cX10_defect 95 = .ok (.invokevirtual 149, 3) := by decide +kernel
theorem dX10_defect_98 : decode cX10_defect 98 = .ok (.ireturn, 1) := by decide +kernel
theorem dX10_defect_99 : decode cX10_defect 99 = .ok (.aload_n 0, 1) := by decide +kernel
theorem dX10_defect_100 : decode cX10_defect 100 = .ok (.getfield 35, 3) := by decide +kernel
theorem dX10_defect_103 : decode cX10_defect 103 = .ok (.aload_n 0, 1) := by decide +kernel
theorem dX10_defect_104 : decode cX10_defect 104 = .ok (.getfield 176, 3) := by decide +kernel
theorem dX10_defect_107 : decode cX10_defect 107 = .ok (.iload_n 1, 1) := by decide +kernel
theorem dX10_defect_108 : decode cX10_defect 108 = .ok (.iastore, 1) := by decide +kernel
theorem dX10_defect_109 : decode cX10_defect 109 = .ok (.aload_n 0, 1) := by decide +kernel
theorem dX10_defect_110 : decode cX10_defect 110 = .ok (.getfield 38, 3) := by decide +kernel
theorem dX10_defect_113 : decode cX10_defect 113 = .ok (.aload_n 0, 1) := by decide +kernel
theorem dX10_defect_114 : decode cX10_defect 114 = .ok (.getfield 176, 3) := by decide +kernel
theorem dX10_defect_117 : decode cX10_defect 117 = .ok (.iload_n 2, 1) := by decide +kernel
theorem dX10_defect_118 : decode cX10_defect 118 = .ok (.iastore, 1) := by decide +kernel
theorem dX10_defect_119 : decode cX10_defect 119 = .ok (.aload_n 0, 1) := by decide +kernel
theorem dX10_defect_120 : decode cX10_defect 120 = .ok (.getfield 41, 3) := by decide +kernel
theorem dX10_defect_123 : decode cX10_defect 123 = .ok (.aload_n 0, 1) := by decide +kernel
theorem dX10_defect_124 : decode cX10_defect 124 = .ok (.getfield 176, 3) := by decide +kernel
theorem dX10_defect_127 : decode cX10_defect 127 = .ok (.iload_n 3, 1) := by decide +kernel
theorem dX10_defect_128 : decode cX10_defect 128 = .ok (.iastore, 1) := by decide +kernel
theorem dX10_defect_129 : decode cX10_defect 129 = .ok (.aload_n 0, 1) := by decide +kernel
theorem dX10_defect_130 : decode cX10_defect 130 = .ok (.getfield 44, 3) := by decide +kernel
theorem dX10_defect_133 : decode cX10_defect 133 = .ok (.aload_n 0, 1) := by decide +kernel
theorem dX10_defect_134 : decode cX10_defect 134 = .ok (.getfield 176, 3) := by decide +kernel
theorem dX10_defect_137 : decode cX10_defect 137 = .ok (.iload 4, 2) := by decide +kernel
theorem dX10_defect_139 : decode cX10_defect 139 = .ok (.iastore, 1) := by decide +kernel
theorem dX10_defect_140 : decode cX10_defect 140 = .ok (.aload_n 0, 1) := by decide +kernel
theorem dX10_defect_141 : decode cX10_defect 141 = .ok (.getfield 47, 3) := by decide +kernel
theorem dX10_defect_144 : decode cX10_defect 144 = .ok (.aload_n 0, 1) := by decide +kernel
theorem dX10_defect_145 : decode cX10_defect 145 = .ok (.getfield 176, 3) := by decide +kernel
theorem dX10_defect_148 : decode cX10_defect 148 = .ok (.aload_n 0, 1) := by decide +kernel
theorem dX10_defect_149 : decode cX10_defect 149 = .ok (.getfield 102, 3) := by decide +kernel
theorem dX10_defect_152 : decode cX10_defect 152 = .ok (.iload_n 1, 1) := by decide +kernel
theorem dX10_defect_153 : decode cX10_defect 153 = .ok (.iaload, 1) := by decide +kernel
theorem dX10_defect_154 : decode cX10_defect 154 = .ok (.iastore, 1) := by decide +kernel
theorem dX10_defect_155 : decode cX10_defect 155 = .ok (.aload_n 0, 1) := by decide +kernel
theorem dX10_defect_156 : decode cX10_defect 156 = .ok (.getfield 56, 3) := by decide +kernel
theorem dX10_defect_159 : decode cX10_defect 159 = .ok (.aload_n 0, 1) := by decide +kernel
theorem dX10_defect_160 : decode cX10_defect 160 = .ok (.getfield 176, 3) := by decide +kernel
theorem dX10_defect_163 : decode cX10_defect 163 = .ok (.iconst 1, 1) := by decide +kernel
theorem dX10_defect_164 : decode cX10_defect 164 = .ok (.bastore, 1) := by decide +kernel
theorem dX10_defect_165 : decode cX10_defect 165 = .ok (.aload_n 0, 1) := by decide +kernel
theorem dX10_defect_166 : decode cX10_defect 166 = .ok (.getfield 50, 3) := by decide +kernel
theorem dX10_defect_169 : decode cX10_defect 169 = .ok (.aload_n 0, 1) := by decide +kernel
theorem dX10_defect_170 : decode cX10_defect 170 = .ok (.getfield 176, 3) := by decide +kernel
theorem dX10_defect_173 : decode cX10_defect 173 = .ok (.iconst 0, 1) := by decide +kernel
theorem dX10_defect_174 : decode cX10_defect 174 = .ok (.iastore, 1) := by decide +kernel
theorem dX10_defect_175 : decode cX10_defect 175 = .ok (.aload_n 0, 1) := by decide +kernel
theorem dX10_defect_176 : decode cX10_defect 176 = .ok (.getfield 53, 3) := by decide +kernel
theorem dX10_defect_179 : decode cX10_defect 179 = .ok (.aload_n 0, 1) := by decide +kernel
theorem dX10_defect_180 : decode cX10_defect 180 = .ok (.getfield 176, 3) := by decide +kernel
theorem dX10_defect_183 : decode cX10_defect 183 = .ok (.ldc 186, 2) := by decide +kernel
theorem dX10_defect_185 : decode cX10_defect 185 = .ok (.iastore, 1) := by decide +kernel
theorem dX10_defect_186 : decode cX10_defect 186 = .ok (.aload_n 0, 1) := by decide +kernel
theorem dX10_defect_187 : decode cX10_defect 187 = .ok (.dup, 1) := by decide +kernel
theorem dX10_defect_188 : decode cX10_defect 188 = .ok (.getfield 176, 3) := by decide +kernel
theorem dX10_defect_191 : decode cX10_defect 191 = .ok (.iconst 1, 1) := by decide +kernel
theorem dX10_defect_192 : decode cX10_defect 192 = .ok (.iadd, 1) := by decide +kernel
theorem dX10_defect_193 : decode cX10_defect 193 = .ok (.putfield 176, 3) := by decide +kernel
theorem dX10_defect_196 : decode cX10_defect 196 = .ok (.aload_n 0, 1) := by decide +kernel
theorem dX10_defect_197 : decode cX10_defect 197 = .ok (.aload_n 0, 1) := by decide +kernel
theorem dX10_defect_198 : decode cX10_defect 198 = .ok (.getfield 176, 3) := by decide +kernel
theorem dX10_defect_201 : decode cX10_defect 201 = .ok (.iconst 1, 1) := by decide +kernel
theorem dX10_defect_202 : decode cX10_defect 202 = .ok (.isub, 1) := by decide +kernel
theorem dX10_defect_203 : decode cX10_defect 203 = .ok (.iload 5, 2) := by decide +kernel
theorem dX10_defect_205 : decode cX10_defect 205 = .ok (.iload 6, 2) := by decide +kernel
theorem dX10_defect_207 : decode cX10_defect 207 = .ok (.invokevirtual 187, 3) := by decide +kernel
theorem dX10_defect_210 : decode cX10_defect 210 = .ok (.istore 7, 2) := by decide +kernel
theorem dX10_defect_212 : decode cX10_defect 212 = .ok (.aload_n 0, 1) := by decide +kernel
theorem dX10_defect_213 : decode cX10_defect 213 = .ok (.getfield 176, 3) := by decide +kernel
theorem dX10_defect_216 : decode cX10_defect 216 = .ok (.iconst 1, 1) := by decide +kernel
theorem dX10_defect_217 : decode cX10_defect 217 = .ok (.isub, 1) := by decide +kernel
theorem dX10_defect_218 : decode cX10_defect 218 = .ok (.ireturn, 1) := by decide +kernel
theorem dX10_looksAt_0 : decode cX10_looksAt 0 = .ok (.iconst 0, 1) := by decide +kernel
theorem dX10_looksAt_1 : decode cX10_looksAt 1 = .ok (.iload_n 2, 1) := by decide +kernel
theorem dX10_looksAt_2 : decode cX10_looksAt 2 = .ok (.iload_n 3, 1) := by decide +kernel
theorem dX10_looksAt_3 : decode cX10_looksAt 3 = .ok (.isub, 1) := by decide +kernel
theorem dX10_looksAt_4 : decode cX10_looksAt 4 = .ok (.invokestatic 167, 3) := by decide +kernel
theorem dX10_looksAt_7 : decode cX10_looksAt 7 = .ok (.istore 4, 2) := by decide +kernel
theorem dX10_looksAt_9 : decode cX10_looksAt 9 = .ok (.iload_n 2, 1) := by decide +kernel
theorem dX10_looksAt_10 : decode cX10_looksAt 10 = .ok (.iload_n 3, 1) := by decide +kernel
theorem dX10_looksAt_11 : decode cX10_looksAt 11 = .ok (.iadd, 1) := by decide +kernel
theorem dX10_looksAt_12 : decode cX10_looksAt 12 = .ok (.istore 5, 2) := by decide +kernel
theorem dX10_looksAt_14 : decode cX10_looksAt 14 = .ok (.aload_n 0, 1) := by decide +kernel
theorem dX10_looksAt_15 : decode cX10_looksAt 15 = .ok (.getfield 50, 3) := by decide +kernel
theorem dX10_looksAt_18 : decode cX10_looksAt 18 = .ok (.iload_n 1, 1) := by decide +kernel
theorem dX10_looksAt_19 : decode cX10_looksAt 19 = .ok (.iaload, 1) := by decide +kernel
theorem dX10_looksAt_20 : decode cX10_looksAt 20 = .ok (.iload 4, 2) := by decide +kernel
theorem dX10_looksAt_22 : decode cX10_looksAt 22 = .ok (.invokestatic 167, 3) := by decide +kernel
theorem dX10_looksAt_25 : decode cX10_looksAt 25 = .ok (.aload_n 0, 1) := by decide +kernel
theorem dX10_looksAt_26 : decode cX10_looksAt 26 = .ok (.getfield 53, 3) := by decide +kernel
theorem dX10_looksAt_29 : decode cX10_looksAt 29 = .ok (.iload_n 1, 1) := by decide +kernel
theorem dX10_looksAt_30 : decode cX10_looksAt 30 = .ok (.iaload, 1) := by decide +kernel
theorem dX10_looksAt_31 : decode cX10_looksAt 31 = .ok (.iload 5, 2) := by decide +kernel
theorem dX10_looksAt_33 : decode cX10_looksAt 33 = .ok (.invokestatic 191, 3) := by decide +kernel
theorem dX10_looksAt_36 : decode cX10_looksAt 36 = .ok (.if_icmp .gt 7, 3) := by decide +kernel
theorem dX10_looksAt_39 : decode cX10_looksAt 39 = .ok (.iconst 1, 1) := by decide +kernel
theorem dX10_looksAt_40 : decode cX10_looksAt 40 = .ok (.goto 4, 3) := by decide +kernel
theorem dX10_looksAt_43 : decode cX10_looksAt 43 = .ok (.iconst 0, 1) := by decide +kernel
theorem dX10_looksAt_44 : decode cX10_looksAt 44 = .ok (.istore 6, 2) := by decide +kernel
theorem dX10_looksAt_46 : decode cX10_looksAt 46 = .ok (.aload_n 0, 1) := by decide +kernel
theorem dX10_looksAt_47 : decode cX10_looksAt 47 = .ok (.getfield 50, 3) := by decide +kernel
theorem dX10_looksAt_50 : decode cX10_looksAt 50 = .ok (.iload_n 1, 1) := by decide +kernel
theorem dX10_looksAt_51 : decode cX10_looksAt 51 = .ok (.iload 6, 2) := by decide +kernel
theorem dX10_looksAt_53 : decode cX10_looksAt 53 = .ok (.ifCond .eq 17, 3) := by decide +kernel
theorem dX10_looksAt_56 : decode cX10_looksAt 56 = .ok (.aload_n 0, 1) := by decide +kernel
theorem dX10_looksAt_57 : decode cX10_looksAt 57 = .ok (.getfield 50, 3) := by decide +kernel
theorem dX10_looksAt_60 : decode cX10_looksAt 60 = .ok (.iload_n 1, 1) := by decide +kernel
theorem dX10_looksAt_61 : decode cX10_looksAt 61 = .ok (.iaload, 1) := by decide +kernel
theorem dX10_looksAt_62 : decode cX10_looksAt 62 = .ok (.iload 4, 2) := by decide +kernel
theorem dX10_looksAt_64 : decode cX10_looksAt 64 = .ok (.invokestatic 167, 3) := by decide +kernel
theorem dX10_looksAt_67 : decode cX10_looksAt 67 = .ok (.goto 5, 3) := by decide +kernel
theorem dX10_looksAt_70 : decode cX10_looksAt 70 = .ok (.iload 4, 2) := by decide +kernel
theorem dX10_looksAt_72 : decode cX10_looksAt 72 = .ok (.iastore, 1) := by decide +kernel
theorem dX10_looksAt_73 : decode cX10_looksAt 73 = .ok (.aload_n 0, 1) := by decide +kernel
theorem dX10_looksAt_74 : decode cX10_looksAt 74 = .ok (.getfield 53, 3) := by decide +kernel
theorem dX10_looksAt_77 : decode cX10_looksAt 77 = .ok (.iload_n 1, 1) := by decide +kernel
theorem dX10_looksAt_78 : decode cX10_looksAt 78 = .ok (.iload 6, 2) := by decide +kernel
theorem dX10_looksAt_80 : decode cX10_looksAt 80 = .ok (.ifCond .eq 17, 3) := by decide +kernel
theorem dX10_looksAt_83 : decode cX10_looksAt 83 = .ok (.aload_n 0, 1) := by decide +kernel
theorem dX10_looksAt_84 : decode cX10_looksAt 84 = .ok (.getfield 53, 3) := by decide +kernel
theorem dX10_looksAt_87 : decode cX10_looksAt 87 = .ok (.iload_n 1, 1) := by decide +kernel
theorem dX10_looksAt_88 : decode cX10_looksAt 88 = .ok (.iaload, 1) := by decide +kernel
theorem dX10_looksAt_89 : decode cX10_looksAt 89 = .ok (.iload 5, 2) := by decide +kernel
theorem dX10_looksAt_91 : decode cX10_looksAt 91 = .ok (.invokestatic 191, 3) := by decide +kernel
theorem dX10_looksAt_94 : decode cX10_looksAt 94 = .ok (.goto 5, 3) := by decide +kernel
theorem dX10_looksAt_97 : decode cX10_looksAt 97 = .ok (.iload 5, 2) := by decide +kernel
theorem dX10_looksAt_99 : decode cX10_looksAt 99 = .ok (.iastore, 1) := by decide +kernel
theorem dX10_looksAt_100 : decode cX10_looksAt 100 = .ok (.aload_n 0, 1) := by decide +kernel
theorem dX10_looksAt_101 : decode cX10_looksAt 101 = .ok (.getfield 60, 3) := by decide +kernel
theorem dX10_looksAt_104 : decode cX10_looksAt 104 = .ok (.aload_n 0, 1) := by decide +kernel
theorem dX10_looksAt_105 : decode cX10_looksAt 105 = .ok (.getfield 183, 3) := by decide +kernel
theorem dX10_looksAt_108 : decode cX10_looksAt 108 = .ok (.iload_n 1, 1) := by decide +kernel
theorem dX10_looksAt_109 : decode cX10_looksAt 109 = .ok (.iastore, 1) := by decide +kernel
theorem dX10_looksAt_110 : decode cX10_looksAt 110 = .ok (.aload_n 0, 1) := by decide +kernel
theorem dX10_looksAt_111 : decode cX10_looksAt 111 = .ok (.getfield 63, 3) := by decide +kernel
theorem dX10_looksAt_114 : decode cX10_looksAt 114 = .ok (.aload_n 0, 1) := by decide +kernel
theorem dX10_looksAt_115 : decode cX10_looksAt 115 = .ok (.getfield 183, 3) := by decide +kernel
theorem dX10_looksAt_118 : decode cX10_looksAt 118 = .ok (.aload_n 0, 1) := by decide +kernel
theorem dX10_looksAt_119 : decode cX10_looksAt 119 = .ok (.getfield 157, 3) := by decide +kernel
theorem dX10_looksAt_122 : decode cX10_looksAt 122 = .ok (.iastore, 1) := by decide +kernel
theorem dX10_looksAt_123 : decode cX10_looksAt 123 = .ok (.aload_n 0, 1) := by decide +kernel
theorem dX10_looksAt_124 : decode cX10_looksAt 124 = .ok (.getfield 66, 3) := by decide +kernel
theorem dX10_looksAt_127 : decode cX10_looksAt 127 = .ok (.aload_n 0, 1) := by decide +kernel
theorem dX10_looksAt_128 : decode cX10_looksAt 128 = .ok (.getfield 183, 3) := by decide +kernel
theorem dX10_looksAt_131 : decode cX10_looksAt 131 = .ok (.aload_n 0, 1) := by decide +kernel
theorem dX10_looksAt_132 : decode cX10_looksAt 132 = .ok (.iload_n 1, 1) := by decide +kernel
theorem dX10_looksAt_133 : decode cX10_looksAt 133 = .ok (.invokevirtual 194, 3) := by decide +kernel
theorem dX10_looksAt_136 : decode cX10_looksAt 136 = .ok (.iastore, 1) := by decide +kernel
theorem dX10_looksAt_137 : decode cX10_looksAt 137 = .ok (.aload_n 0, 1) := by decide +kernel
theorem dX10_looksAt_138 : decode cX10_looksAt 138 = .ok (.dup, 1) := by decide +kernel
theorem dX10_looksAt_139 : decode cX10_looksAt 139 = .ok (.getfield 183, 3) := by decide +kernel
theorem dX10_looksAt_142 : decode cX10_looksAt 142 = .ok (.iconst 1, 1) := by decide +kernel
theorem dX10_looksAt_143 : decode cX10_looksAt 143 = .ok (.iadd, 1) := by decide +kernel
theorem dX10_looksAt_144 : decode cX10_looksAt 144 = .ok (.putfield 183, 3) := by decide +kernel
theorem dX10_looksAt_147 : decode cX10_looksAt 147 = .ok (.aload_n 0, 1) := by decide +kernel
theorem dX10_looksAt_148 : decode cX10_looksAt 148 = .ok (.dup, 1) := by decide +kernel
theorem dX10_looksAt_149 : decode cX10_looksAt 149 = .ok (.getfield 197, 3) := by decide +kernel
theorem dX10_looksAt_152 : decode cX10_looksAt 152 = .ok (.iload 6, 2) := by decide +kernel
theorem dX10_looksAt_154 : decode cX10_looksAt 154 = .ok (.ifCond .eq 7, 3) := by decide +kernel
theorem dX10_looksAt_157 : decode cX10_looksAt 157 = .ok (.iconst 0, 1) := by decide +kernel
theorem dX10_looksAt_158 : decode cX10_looksAt 158 = .ok (.goto 4, 3) := by decide +kernel
theorem dX10_looksAt_161 : decode cX10_looksAt 161 = .ok (.iconst 1, 1) := by decide +kernel
theorem dX10_looksAt_162 : decode cX10_looksAt 162 = .ok (.iadd, 1) := by decide +kernel
theorem dX10_looksAt_163 : decode cX10_looksAt 163 = .ok (.putfield 197, 3) := by decide +kernel
theorem dX10_looksAt_166 : decode cX10_looksAt 166 = .ok (.iload 6, 2) := by decide +kernel
theorem dX10_looksAt_168 : decode cX10_looksAt 168 = .ok (.ireturn, 1) := by decide +kernel
theorem dX10_look_0 : decode cX10_look 0 = .ok (.aload_n 0, 1) := by decide +kernel
theorem dX10_look_1 : decode cX10_look 1 = .ok (.iload_n 1, 1) := by decide +kernel
theorem dX10_look_2 : decode cX10_look 2 = .ok (.invokevirtual 200, 3) := by decide +kernel
theorem dX10_look_5 : decode cX10_look 5 = .ok (.ifCond .ne 9, 3) := by decide +kernel
theorem dX10_look_8 : decode cX10_look 8 = .ok (.aload_n 0, 1) := by decide +kernel
theorem dX10_look_9 : decode cX10_look 9 = .ok (.iconst (-1), 1) := by decide +kernel
theorem dX10_look_10 : decode cX10_look 10 = .ok (.invokevirtual 149, 3) := by decide +kernel
theorem dX10_look_13 : decode cX10_look 13 = .ok (.ireturn, 1) := by decide +kernel
theorem dX10_look_14 : decode cX10_look 14 = .ok (.aload_n 0, 1) := by decide +kernel
theorem dX10_look_15 : decode cX10_look 15 = .ok (.getfield 56, 3) := by decide +kernel
theorem dX10_look_18 : decode cX10_look 18 = .ok (.iload_n 1, 1) := by decide +kernel
theorem dX10_look_19 : decode cX10_look 19 = .ok (.baload, 1) := by decide +kernel
theorem dX10_look_20 : decode cX10_look 20 = .ok (.ifCond .ne 10, 3) := by decide +kernel
theorem dX10_look_23 : decode cX10_look 23 = .ok (.aload_n 0, 1) := by decide +kernel
theorem dX10_look_24 : decode cX10_look 24 = .ok (.bipush (-3), 2) := by decide +kernel
