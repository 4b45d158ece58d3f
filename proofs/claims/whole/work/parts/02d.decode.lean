theorem dX10_look_26 : decode cX10_look 26 = .ok (.invokevirtual 149, 3) := by decide +kernel
theorem dX10_look_29 : decode cX10_look 29 = .ok (.ireturn, 1) := by decide +kernel
theorem dX10_look_30 : decode cX10_look 30 = .ok (.iload_n 2, 1) := by decide +kernel
theorem dX10_look_31 : decode cX10_look 31 = .ok (.ifCond .lt 7, 3) := by decide +kernel
theorem dX10_look_34 : decode cX10_look 34 = .ok (.iload_n 3, 1) := by decide +kernel
theorem dX10_look_35 : decode cX10_look 35 = .ok (.ifCond .ge 10, 3) := by decide +kernel
theorem dX10_look_38 : decode cX10_look 38 = .ok (.aload_n 0, 1) := by decide +kernel
theorem dX10_look_39 : decode cX10_look 39 = .ok (.bipush (-4), 2) := by decide +kernel
theorem dX10_look_41 : decode cX10_look 41 = .ok (.invokevirtual 149, 3) := by decide +kernel
theorem dX10_look_44 : decode cX10_look 44 = .ok (.ireturn, 1) := by decide +kernel
theorem dX10_look_45 : decode cX10_look 45 = .ok (.iload_n 2, 1) := by decide +kernel
theorem dX10_look_46 : decode cX10_look 46 = .ok (.sipush 999, 3) := by decide +kernel
theorem dX10_look_49 : decode cX10_look 49 = .ok (.if_icmp .gt 18, 3) := by decide +kernel
theorem dX10_look_52 : decode cX10_look 52 = .ok (.iload_n 3, 1) := by decide +kernel
theorem dX10_look_53 : decode cX10_look 53 = .ok (.bipush 50, 2) := by decide +kernel
theorem dX10_look_55 : decode cX10_look 55 = .ok (.if_icmp .gt 12, 3) := by decide +kernel
theorem dX10_look_58 : decode cX10_look 58 = .ok (.aload_n 0, 1) := by decide +kernel
theorem dX10_look_59 : decode cX10_look 59 = .ok (.getfield 183, 3) := by decide +kernel
theorem dX10_look_62 : decode cX10_look 62 = .ok (.bipush 120, 2) := by decide +kernel
theorem dX10_look_64 : decode cX10_look 64 = .ok (.if_icmp .ne 10, 3) := by decide +kernel
theorem dX10_look_67 : decode cX10_look 67 = .ok (.aload_n 0, 1) := by decide +kernel
theorem dX10_look_68 : decode cX10_look 68 = .ok (.bipush (-6), 2) := by decide +kernel
theorem dX10_look_70 : decode cX10_look 70 = .ok (.invokevirtual 149, 3) := by decide +kernel
theorem dX10_look_73 : decode cX10_look 73 = .ok (.ireturn, 1) := by decide +kernel
theorem dX10_look_74 : decode cX10_look 74 = .ok (.aload_n 0, 1) := by decide +kernel
theorem dX10_look_75 : decode cX10_look 75 = .ok (.iload_n 1, 1) := by decide +kernel
theorem dX10_look_76 : decode cX10_look 76 = .ok (.iload_n 2, 1) := by decide +kernel
theorem dX10_look_77 : decode cX10_look 77 = .ok (.iload_n 3, 1) := by decide +kernel
theorem dX10_look_78 : decode cX10_look 78 = .ok (.invokevirtual 187, 3) := by decide +kernel
theorem dX10_look_81 : decode cX10_look 81 = .ok (.ifCond .eq 7, 3) := by decide +kernel
theorem dX10_look_84 : decode cX10_look 84 = .ok (.iconst 1, 1) := by decide +kernel
theorem dX10_look_85 : decode cX10_look 85 = .ok (.goto 4, 3) := by decide +kernel
theorem dX10_look_88 : decode cX10_look 88 = .ok (.iconst 0, 1) := by decide +kernel
theorem dX10_look_89 : decode cX10_look 89 = .ok (.ireturn, 1) := by decide +kernel
theorem dX10_span_0 : decode cX10_span 0 = .ok (.aload_n 0, 1) := by decide +kernel
theorem dX10_span_1 : decode cX10_span 1 = .ok (.iload_n 1, 1) := by decide +kernel
theorem dX10_span_2 : decode cX10_span 2 = .ok (.invokevirtual 200, 3) := by decide +kernel
theorem dX10_span_5 : decode cX10_span 5 = .ok (.ifCond .ne 7, 3) := by decide +kernel
theorem dX10_span_8 : decode cX10_span 8 = .ok (.iconst (-1), 1) := by decide +kernel
theorem dX10_span_9 : decode cX10_span 9 = .ok (.goto 31, 3) := by decide +kernel
theorem dX10_span_12 : decode cX10_span 12 = .ok (.iload_n 2, 1) := by decide +kernel
theorem dX10_span_13 : decode cX10_span 13 = .ok (.iconst 2, 1) := by decide +kernel
theorem dX10_span_14 : decode cX10_span 14 = .ok (.invokestatic 153, 3) := by decide +kernel
theorem dX10_span_17 : decode cX10_span 17 = .ok (.ifCond .ne 8, 3) := by decide +kernel
theorem dX10_span_20 : decode cX10_span 20 = .ok (.bipush (-2), 2) := by decide +kernel
theorem dX10_span_22 : decode cX10_span 22 = .ok (.goto 18, 3) := by decide +kernel
theorem dX10_span_25 : decode cX10_span 25 = .ok (.aload_n 0, 1) := by decide +kernel
theorem dX10_span_26 : decode cX10_span 26 = .ok (.getfield 56, 3) := by decide +kernel
theorem dX10_span_29 : decode cX10_span 29 = .ok (.iload_n 1, 1) := by decide +kernel
theorem dX10_span_30 : decode cX10_span 30 = .ok (.baload, 1) := by decide +kernel
theorem dX10_span_31 : decode cX10_span 31 = .ok (.ifCond .eq 7, 3) := by decide +kernel
theorem dX10_span_34 : decode cX10_span 34 = .ok (.iconst 0, 1) := by decide +kernel
theorem dX10_span_35 : decode cX10_span 35 = .ok (.goto 5, 3) := by decide +kernel
theorem dX10_span_38 : decode cX10_span 38 = .ok (.bipush (-3), 2) := by decide +kernel
theorem dX10_span_40 : decode cX10_span 40 = .ok (.istore_n 3, 1) := by decide +kernel
theorem dX10_span_41 : decode cX10_span 41 = .ok (.iload_n 3, 1) := by decide +kernel
theorem dX10_span_42 : decode cX10_span 42 = .ok (.ifCond .eq 9, 3) := by decide +kernel
theorem dX10_span_45 : decode cX10_span 45 = .ok (.aload_n 0, 1) := by decide +kernel
theorem dX10_span_46 : decode cX10_span 46 = .ok (.iload_n 3, 1) := by decide +kernel
theorem dX10_span_47 : decode cX10_span 47 = .ok (.invokevirtual 149, 3) := by decide +kernel
theorem dX10_span_50 : decode cX10_span 50 = .ok (.ireturn, 1) := by decide +kernel
theorem dX10_span_51 : decode cX10_span 51 = .ok (.iload_n 2, 1) := by decide +kernel
theorem dX10_span_52 : decode cX10_span 52 = .ok (.ifCond .ne 12, 3) := by decide +kernel
theorem dX10_span_55 : decode cX10_span 55 = .ok (.aload_n 0, 1) := by decide +kernel
theorem dX10_span_56 : decode cX10_span 56 = .ok (.getfield 50, 3) := by decide +kernel
theorem dX10_span_59 : decode cX10_span 59 = .ok (.iload_n 1, 1) := by decide +kernel
theorem dX10_span_60 : decode cX10_span 60 = .ok (.iaload, 1) := by decide +kernel
theorem dX10_span_61 : decode cX10_span 61 = .ok (.goto 9, 3) := by decide +kernel
theorem dX10_span_64 : decode cX10_span 64 = .ok (.aload_n 0, 1) := by decide +kernel
theorem dX10_span_65 : decode cX10_span 65 = .ok (.getfield 53, 3) := by decide +kernel
theorem dX10_span_68 : decode cX10_span 68 = .ok (.iload_n 1, 1) := by decide +kernel
theorem dX10_span_69 : decode cX10_span 69 = .ok (.iaload, 1) := by decide +kernel
theorem dX10_span_70 : decode cX10_span 70 = .ok (.ireturn, 1) := by decide +kernel
theorem dX10_rule_0 : decode cX10_rule 0 = .ok (.iload_n 1, 1) := by decide +kernel
theorem dX10_rule_1 : decode cX10_rule 1 = .ok (.iconst 4, 1) := by decide +kernel
theorem dX10_rule_2 : decode cX10_rule 2 = .ok (.invokestatic 153, 3) := by decide +kernel
theorem dX10_rule_5 : decode cX10_rule 5 = .ok (.ifCond .ne 9, 3) := by decide +kernel
theorem dX10_rule_8 : decode cX10_rule 8 = .ok (.aload_n 0, 1) := by decide +kernel
theorem dX10_rule_9 : decode cX10_rule 9 = .ok (.iconst (-1), 1) := by decide +kernel
theorem dX10_rule_10 : decode cX10_rule 10 = .ok (.invokevirtual 149, 3) := by decide +kernel
theorem dX10_rule_13 : decode cX10_rule 13 = .ok (.ireturn, 1) := by decide +kernel
theorem dX10_rule_14 : decode cX10_rule 14 = .ok (.iload 4, 2) := by decide +kernel
theorem dX10_rule_16 : decode cX10_rule 16 = .ok (.iconst 4, 1) := by decide +kernel
theorem dX10_rule_17 : decode cX10_rule 17 = .ok (.invokestatic 153, 3) := by decide +kernel
theorem dX10_rule_20 : decode cX10_rule 20 = .ok (.ifCond .ne 10, 3) := by decide +kernel
theorem dX10_rule_23 : decode cX10_rule 23 = .ok (.aload_n 0, 1) := by decide +kernel
theorem dX10_rule_24 : decode cX10_rule 24 = .ok (.bipush (-2), 2) := by decide +kernel
theorem dX10_rule_26 : decode cX10_rule 26 = .ok (.invokevirtual 149, 3) := by decide +kernel
theorem dX10_rule_29 : decode cX10_rule 29 = .ok (.ireturn, 1) := by decide +kernel
theorem dX10_rule_30 : decode cX10_rule 30 = .ok (.iload_n 2, 1) := by decide +kernel
theorem dX10_rule_31 : decode cX10_rule 31 = .ok (.ifCond .lt 16, 3) := by decide +kernel
theorem dX10_rule_34 : decode cX10_rule 34 = .ok (.iload_n 3, 1) := by decide +kernel
theorem dX10_rule_35 : decode cX10_rule 35 = .ok (.aload_n 0, 1) := by decide +kernel
theorem dX10_rule_36 : decode cX10_rule 36 = .ok (.getfield 157, 3) := by decide +kernel
theorem dX10_rule_39 : decode cX10_rule 39 = .ok (.if_icmp .lt 8, 3) := by decide +kernel
theorem dX10_rule_42 : decode cX10_rule 42 = .ok (.iload 5, 2) := by decide +kernel
theorem dX10_rule_44 : decode cX10_rule 44 = .ok (.ifCond .ge 10, 3) := by decide +kernel
theorem dX10_rule_47 : decode cX10_rule 47 = .ok (.aload_n 0, 1) := by decide +kernel
theorem dX10_rule_48 : decode cX10_rule 48 = .ok (.bipush (-4), 2) := by decide +kernel
theorem dX10_rule_50 : decode cX10_rule 50 = .ok (.invokevirtual 149, 3) := by decide +kernel
theorem dX10_rule_53 : decode cX10_rule 53 = .ok (.ireturn, 1) := by decide +kernel
theorem dX10_rule_54 : decode cX10_rule 54 = .ok (.iload_n 2, 1) := by decide +kernel
theorem dX10_rule_55 : decode cX10_rule 55 = .ok (.sipush 999, 3) := by decide +kernel
theorem dX10_rule_58 : decode cX10_rule 58 = .ok (.if_icmp .gt 26, 3) := by decide +kernel
theorem dX10_rule_61 : decode cX10_rule 61 = .ok (.iload_n 3, 1) := by decide +kernel
theorem dX10_rule_62 : decode cX10_rule 62 = .ok (.sipush 1000, 3) := by decide +kernel
theorem dX10_rule_65 : decode cX10_rule 65 = .ok (.if_icmp .gt 19, 3) := by decide +kernel
theorem dX10_rule_68 : decode cX10_rule 68 = .ok (.iload 5, 2) := by decide +kernel
theorem dX10_rule_70 : decode cX10_rule 70 = .ok (.bipush 60, 2) := by decide +kernel
theorem dX10_rule_72 : decode cX10_rule 72 = .ok (.if_icmp .gt 12, 3) := by decide +kernel
theorem dX10_rule_75 : decode cX10_rule 75 = .ok (.aload_n 0, 1) := by decide +kernel
theorem dX10_rule_76 : decode cX10_rule 76 = .ok (.getfield 203, 3) := by decide +kernel
theorem dX10_rule_79 : decode cX10_rule 79 = .ok (.bipush 30, 2) := by decide +kernel
theorem dX10_rule_81 : decode cX10_rule 81 = .ok (.if_icmp .ne 10, 3) := by decide +kernel
theorem dX10_rule_84 : decode cX10_rule 84 = .ok (.aload_n 0, 1) := by decide +kernel
theorem dX10_rule_85 : decode cX10_rule 85 = .ok (.bipush (-6), 2) := by decide +kernel
theorem dX10_rule_87 : decode cX10_rule 87 = .ok (.invokevirtual 149, 3) := by decide +kernel
theorem dX10_rule_90 : decode cX10_rule 90 = .ok (.ireturn, 1) := by decide +kernel
theorem dX10_rule_91 : decode cX10_rule 91 = .ok (.aload_n 0, 1) := by decide +kernel
theorem dX10_rule_92 : decode cX10_rule 92 = .ok (.getfield 69, 3) := by decide +kernel
theorem dX10_rule_95 : decode cX10_rule 95 = .ok (.aload_n 0, 1) := by decide +kernel
theorem dX10_rule_96 : decode cX10_rule 96 = .ok (.getfield 203, 3) := by decide +kernel
theorem dX10_rule_99 : decode cX10_rule 99 = .ok (.iload_n 1, 1) := by decide +kernel
theorem dX10_rule_100 : decode cX10_rule 100 = .ok (.iastore, 1) := by decide +kernel
theorem dX10_rule_101 : decode cX10_rule 101 = .ok (.aload_n 0, 1) := by decide +kernel
theorem dX10_rule_102 : decode cX10_rule 102 = .ok (.getfield 72, 3) := by decide +kernel
theorem dX10_rule_105 : decode cX10_rule 105 = .ok (.aload_n 0, 1) := by decide +kernel
theorem dX10_rule_106 : decode cX10_rule 106 = .ok (.getfield 203, 3) := by decide +kernel
theorem dX10_rule_109 : decode cX10_rule 109 = .ok (.iload_n 2, 1) := by decide +kernel
theorem dX10_rule_110 : decode cX10_rule 110 = .ok (.iastore, 1) := by decide +kernel
theorem dX10_rule_111 : decode cX10_rule 111 = .ok (.aload_n 0, 1) := by decide +kernel
theorem dX10_rule_112 : decode cX10_rule 112 = .ok (.getfield 75, 3) := by decide +kernel
theorem dX10_rule_115 : decode cX10_rule 115 = .ok (.aload_n 0, 1) := by decide +kernel
theorem dX10_rule_116 : decode cX10_rule 116 = .ok (.getfield 203, 3) := by decide +kernel
theorem dX10_rule_119 : decode cX10_rule 119 = .ok (.iload_n 3, 1) := by decide +kernel
theorem dX10_rule_120 : decode cX10_rule 120 = .ok (.iastore, 1) := by decide +kernel
theorem dX10_rule_121 : decode cX10_rule 121 = .ok (.aload_n 0, 1) := by decide +kernel
theorem dX10_rule_122 : decode cX10_rule 122 = .ok (.getfield 78, 3) := by decide +kernel
theorem dX10_rule_125 : decode cX10_rule 125 = .ok (.aload_n 0, 1) := by decide +kernel
theorem dX10_rule_126 : decode cX10_rule 126 = .ok (.getfield 203, 3) := by decide +kernel
theorem dX10_rule_129 : decode cX10_rule 129 = .ok (.iload 4, 2) := by decide +kernel
theorem dX10_rule_131 : decode cX10_rule 131 = .ok (.iastore, 1) := by decide +kernel
theorem dX10_rule_132 : decode cX10_rule 132 = .ok (.aload_n 0, 1) := by decide +kernel
theorem dX10_rule_133 : decode cX10_rule 133 = .ok (.getfield 81, 3) := by decide +kernel
theorem dX10_rule_136 : decode cX10_rule 136 = .ok (.aload_n 0, 1) := by decide +kernel
theorem dX10_rule_137 : decode cX10_rule 137 = .ok (.getfield 203, 3) := by decide +kernel
theorem dX10_rule_140 : decode cX10_rule 140 = .ok (.iload 5, 2) := by decide +kernel
theorem dX10_rule_142 : decode cX10_rule 142 = .ok (.iastore, 1) := by decide +kernel
theorem dX10_rule_143 : decode cX10_rule 143 = .ok (.aload_n 0, 1) := by decide +kernel
theorem dX10_rule_144 : decode cX10_rule 144 = .ok (.dup, 1) := by decide +kernel
theorem dX10_rule_145 : decode cX10_rule 145 = .ok (.getfield 203, 3) := by decide +kernel
theorem dX10_rule_148 : decode cX10_rule 148 = .ok (.iconst 1, 1) := by decide +kernel
theorem dX10_rule_149 : decode cX10_rule 149 = .ok (.iadd, 1) := by decide +kernel
theorem dX10_rule_150 : decode cX10_rule 150 = .ok (.putfield 203, 3) := by decide +kernel
theorem dX10_rule_153 : decode cX10_rule 153 = .ok (.aload_n 0, 1) := by decide +kernel
theorem dX10_rule_154 : decode cX10_rule 154 = .ok (.getfield 203, 3) := by decide +kernel
theorem dX10_rule_157 : decode cX10_rule 157 = .ok (.iconst 1, 1) := by decide +kernel
theorem dX10_rule_158 : decode cX10_rule 158 = .ok (.isub, 1) := by decide +kernel
theorem dX10_rule_159 : decode cX10_rule 159 = .ok (.ireturn, 1) := by decide +kernel
theorem dX10_forceOf_0 : decode cX10_forceOf 0 = .ok (.bipush (-9), 2) := by decide +kernel
theorem dX10_forceOf_2 : decode cX10_forceOf 2 = .ok (.istore_n 2, 1) := by decide +kernel
theorem dX10_forceOf_3 : decode cX10_forceOf 3 = .ok (.iconst 0, 1) := by decide +kernel
theorem dX10_forceOf_4 : decode cX10_forceOf 4 = .ok (.istore_n 3, 1) := by decide +kernel
theorem dX10_forceOf_5 : decode cX10_forceOf 5 = .ok (.iload_n 3, 1) := by decide +kernel
theorem dX10_forceOf_6 : decode cX10_forceOf 6 = .ok (.aload_n 0, 1) := by decide +kernel
theorem dX10_forceOf_7 : decode cX10_forceOf 7 = .ok (.getfield 203, 3) := by decide +kernel
theorem dX10_forceOf_10 : decode cX10_forceOf 10 = .ok (.if_icmp .ge 106, 3) := by decide +kernel
theorem dX10_forceOf_13 : decode cX10_forceOf 13 = .ok (.aload_n 0, 1) := by decide +kernel
theorem dX10_forceOf_14 : decode cX10_forceOf 14 = .ok (.getfield 69, 3) := by decide +kernel
theorem dX10_forceOf_17 : decode cX10_forceOf 17 = .ok (.iload_n 3, 1) := by decide +kernel
theorem dX10_forceOf_18 : decode cX10_forceOf 18 = .ok (.iaload, 1) := by decide +kernel
theorem dX10_forceOf_19 : decode cX10_forceOf 19 = .ok (.aload_n 0, 1) := by decide +kernel
theorem dX10_forceOf_20 : decode cX10_forceOf 20 = .ok (.getfield 44, 3) := by decide +kernel
theorem dX10_forceOf_23 : decode cX10_forceOf 23 = .ok (.iload_n 1, 1) := by decide +kernel
theorem dX10_forceOf_24 : decode cX10_forceOf 24 = .ok (.iaload, 1) := by decide +kernel
theorem dX10_forceOf_25 : decode cX10_forceOf 25 = .ok (.if_icmp .ne 85, 3) := by decide +kernel
theorem dX10_forceOf_28 : decode cX10_forceOf 28 = .ok (.aload_n 0, 1) := by decide +kernel
theorem dX10_forceOf_29 : decode cX10_forceOf 29 = .ok (.getfield 75, 3) := by decide +kernel
theorem dX10_forceOf_32 : decode cX10_forceOf 32 = .ok (.iload_n 3, 1) := by decide +kernel
theorem dX10_forceOf_33 : decode cX10_forceOf 33 = .ok (.iaload, 1) := by decide +kernel
theorem dX10_forceOf_34 : decode cX10_forceOf 34 = .ok (.aload_n 0, 1) := by decide +kernel
theorem dX10_forceOf_35 : decode cX10_forceOf 35 = .ok (.getfield 157, 3) := by decide +kernel
theorem dX10_forceOf_38 : decode cX10_forceOf 38 = .ok (.if_icmp .gt 72, 3) := by decide +kernel
theorem dX10_forceOf_41 : decode cX10_forceOf 41 = .ok (.aload_n 0, 1) := by decide +kernel
theorem dX10_forceOf_42 : decode cX10_forceOf 42 = .ok (.getfield 72, 3) := by decide +kernel
theorem dX10_forceOf_45 : decode cX10_forceOf 45 = .ok (.iload_n 3, 1) := by decide +kernel
theorem dX10_forceOf_46 : decode cX10_forceOf 46 = .ok (.iaload, 1) := by decide +kernel
theorem dX10_forceOf_47 : decode cX10_forceOf 47 = .ok (.aload_n 0, 1) := by decide +kernel
theorem dX10_forceOf_48 : decode cX10_forceOf 48 = .ok (.getfield 53, 3) := by decide +kernel
theorem dX10_forceOf_51 : decode cX10_forceOf 51 = .ok (.iload_n 1, 1) := by decide +kernel
theorem dX10_forceOf_52 : decode cX10_forceOf 52 = .ok (.iaload, 1) := by decide +kernel
theorem dX10_forceOf_53 : decode cX10_forceOf 53 = .ok (.if_icmp .le 6, 3) := by decide +kernel
theorem dX10_forceOf_56 : decode cX10_forceOf 56 = .ok (.goto 54, 3) := by decide +kernel
theorem dX10_forceOf_59 : decode cX10_forceOf 59 = .ok (.iload_n 2, 1) := by decide +kernel
theorem dX10_forceOf_60 : decode cX10_forceOf 60 = .ok (.ifCond .lt 48, 3) := by decide +kernel
theorem dX10_forceOf_63 : decode cX10_forceOf 63 = .ok (.aload_n 0, 1) := by decide +kernel
theorem dX10_forceOf_64 : decode cX10_forceOf 64 = .ok (.getfield 72, 3) := by decide +kernel
theorem dX10_forceOf_67 : decode cX10_forceOf 67 = .ok (.iload_n 3, 1) := by decide +kernel
theorem dX10_forceOf_68 : decode cX10_forceOf 68 = .ok (.iaload, 1) := by decide +kernel
theorem dX10_forceOf_69 : decode cX10_forceOf 69 = .ok (.aload_n 0, 1) := by decide +kernel
theorem dX10_forceOf_70 : decode cX10_forceOf 70 = .ok (.getfield 72, 3) := by decide +kernel
theorem dX10_forceOf_73 : decode cX10_forceOf 73 = .ok (.iload_n 2, 1) := by decide +kernel
theorem dX10_forceOf_74 : decode cX10_forceOf 74 = .ok (.iaload, 1) := by decide +kernel
theorem dX10_forceOf_75 : decode cX10_forceOf 75 = .ok (.if_icmp .gt 33, 3) := by decide +kernel
theorem dX10_forceOf_78 : decode cX10_forceOf 78 = .ok (.aload_n 0, 1) := by decide +kernel
theorem dX10_forceOf_79 : decode cX10_forceOf 79 = .ok (.getfield 72, 3) := by decide +kernel
theorem dX10_forceOf_82 : decode cX10_forceOf 82 = .ok (.iload_n 3, 1) := by decide +kernel
theorem dX10_forceOf_83 : decode cX10_forceOf 83 = .ok (.iaload, 1) := by decide +kernel
theorem dX10_forceOf_84 : decode cX10_forceOf 84 = .ok (.aload_n 0, 1) := by decide +kernel
theorem dX10_forceOf_85 : decode cX10_forceOf 85 = .ok (.getfield 72, 3) := by decide +kernel
theorem dX10_forceOf_88 : decode cX10_forceOf 88 = .ok (.iload_n 2, 1) := by decide +kernel
theorem dX10_forceOf_89 : decode cX10_forceOf 89 = .ok (.iaload, 1) := by decide +kernel
theorem dX10_forceOf_90 : decode cX10_forceOf 90 = .ok (.if_icmp .ne 20, 3) := by decide +kernel
theorem dX10_forceOf_93 : decode cX10_forceOf 93 = .ok (.aload_n 0, 1) := by decide +kernel
theorem dX10_forceOf_94 : decode cX10_forceOf 94 = .ok (.getfield 75, 3) := by decide +kernel
theorem dX10_forceOf_97 : decode cX10_forceOf 97 = .ok (.iload_n 3, 1) := by decide +kernel
theorem dX10_forceOf_98 : decode cX10_forceOf 98 = .ok (.iaload, 1) := by decide +kernel
theorem dX10_forceOf_99 : decode cX10_forceOf 99 = .ok (.aload_n 0, 1) := by decide +kernel
theorem dX10_forceOf_100 : decode cX10_forceOf 100 = .ok (.getfield 75, 3) := by decide +kernel
theorem dX10_forceOf_103 : decode cX10_forceOf 103 = .ok (.iload_n 2, 1) := by decide +kernel
theorem dX10_forceOf_104 : decode cX10_forceOf 104 = .ok (.iaload, 1) := by decide +kernel
theorem dX10_forceOf_105 : decode cX10_forceOf 105 = .ok (.if_icmp .lt 5, 3) := by decide +kernel
theorem dX10_forceOf_108 : decode cX10_forceOf 108 = .ok (.iload_n 3, 1) := by decide +kernel
theorem dX10_forceOf_109 : decode cX10_forceOf 109 = .ok (.istore_n 2, 1) := by decide +kernel
theorem dX10_forceOf_110 : decode cX10_forceOf 110 = .ok (.iinc 3 1, 3) := by decide +kernel
theorem dX10_forceOf_113 : decode cX10_forceOf 113 = .ok (.goto (-108), 3) := by decide +kernel
theorem dX10_forceOf_116 : decode cX10_forceOf 116 = .ok (.iload_n 2, 1) := by decide +kernel
theorem dX10_forceOf_117 : decode cX10_forceOf 117 = .ok (.ireturn, 1) := by decide +kernel
theorem dX10_wrongOpen_0 : decode cX10_wrongOpen 0 = .ok (.aload_n 0, 1) := by decide +kernel
theorem dX10_wrongOpen_1 : decode cX10_wrongOpen 1 = .ok (.iload_n 1, 1) := by decide +kernel
theorem dX10_wrongOpen_2 : decode cX10_wrongOpen 2 = .ok (.invokevirtual 200, 3) := by decide +kernel
theorem dX10_wrongOpen_5 : decode cX10_wrongOpen 5 = .ok (.ifCond .ne 7, 3) := by decide +kernel
theorem dX10_wrongOpen_8 : decode cX10_wrongOpen 8 = .ok (.iconst (-1), 1) := by decide +kernel
theorem dX10_wrongOpen_9 : decode cX10_wrongOpen 9 = .ok (.goto 18, 3) := by decide +kernel
theorem dX10_wrongOpen_12 : decode cX10_wrongOpen 12 = .ok (.aload_n 0, 1) := by decide +kernel
theorem dX10_wrongOpen_13 : decode cX10_wrongOpen 13 = .ok (.getfield 56, 3) := by decide +kernel
theorem dX10_wrongOpen_16 : decode cX10_wrongOpen 16 = .ok (.iload_n 1, 1) := by decide +kernel
theorem dX10_wrongOpen_17 : decode cX10_wrongOpen 17 = .ok (.baload, 1) := by decide +kernel
theorem dX10_wrongOpen_18 : decode cX10_wrongOpen 18 = .ok (.ifCond .eq 7, 3) := by decide +kernel
theorem dX10_wrongOpen_21 : decode cX10_wrongOpen 21 = .ok (.iconst 0, 1) := by decide +kernel
theorem dX10_wrongOpen_22 : decode cX10_wrongOpen 22 = .ok (.goto 5, 3) := by decide +kernel
theorem dX10_wrongOpen_25 : decode cX10_wrongOpen 25 = .ok (.bipush (-3), 2) := by decide +kernel
theorem dX10_wrongOpen_27 : decode cX10_wrongOpen 27 = .ok (.ireturn, 1) := by decide +kernel
theorem dX10_force_0 : decode cX10_force 0 = .ok (.aload_n 0, 1) := by decide +kernel
theorem dX10_force_1 : decode cX10_force 1 = .ok (.iload_n 1, 1) := by decide +kernel
theorem dX10_force_2 : decode cX10_force 2 = .ok (.invokevirtual 206, 3) := by decide +kernel
theorem dX10_force_5 : decode cX10_force 5 = .ok (.istore_n 2, 1) := by decide +kernel
theorem dX10_force_6 : decode cX10_force 6 = .ok (.iload_n 2, 1) := by decide +kernel
theorem dX10_force_7 : decode cX10_force 7 = .ok (.ifCond .eq 11, 3) := by decide +kernel
theorem dX10_force_10 : decode cX10_force 10 = .ok (.aload_n 0, 1) := by decide +kernel
theorem dX10_force_11 : decode cX10_force 11 = .ok (.iload_n 2, 1) := by decide +kernel
theorem dX10_force_12 : decode cX10_force 12 = .ok (.invokevirtual 149, 3) := by decide +kernel
theorem dX10_force_15 : decode cX10_force 15 = .ok (.goto 8, 3) := by decide +kernel
theorem dX10_force_18 : decode cX10_force 18 = .ok (.aload_n 0, 1) := by decide +kernel
theorem dX10_force_19 : decode cX10_force 19 = .ok (.iload_n 1, 1) := by decide +kernel
theorem dX10_force_20 : decode cX10_force 20 = .ok (.invokevirtual 194, 3) := by decide +kernel
theorem dX10_force_23 : decode cX10_force 23 = .ok (.ireturn, 1) := by decide +kernel
theorem dX10_dueOf_0 : decode cX10_dueOf 0 = .ok (.aload_n 0, 1) := by decide +kernel
theorem dX10_dueOf_1 : decode cX10_dueOf 1 = .ok (.iload_n 1, 1) := by decide +kernel
theorem dX10_dueOf_2 : decode cX10_dueOf 2 = .ok (.invokevirtual 194, 3) := by decide +kernel
theorem dX10_dueOf_5 : decode cX10_dueOf 5 = .ok (.istore_n 2, 1) := by decide +kernel
theorem dX10_dueOf_6 : decode cX10_dueOf 6 = .ok (.iload_n 2, 1) := by decide +kernel
theorem dX10_dueOf_7 : decode cX10_dueOf 7 = .ok (.ifCond .ge 6, 3) := by decide +kernel
theorem dX10_dueOf_10 : decode cX10_dueOf 10 = .ok (.bipush (-9), 2) := by decide +kernel
theorem dX10_dueOf_12 : decode cX10_dueOf 12 = .ok (.ireturn, 1) := by decide +kernel
theorem dX10_dueOf_13 : decode cX10_dueOf 13 = .ok (.aload_n 0, 1) := by decide +kernel
theorem dX10_dueOf_14 : decode cX10_dueOf 14 = .ok (.getfield 157, 3) := by decide +kernel
theorem dX10_dueOf_17 : decode cX10_dueOf 17 = .ok (.istore_n 3, 1) := by decide +kernel
theorem dX10_dueOf_18 : decode cX10_dueOf 18 = .ok (.iconst 1, 1) := by decide +kernel
theorem dX10_dueOf_19 : decode cX10_dueOf 19 = .ok (.istore 4, 2) := by decide +kernel
theorem dX10_dueOf_21 : decode cX10_dueOf 21 = .ok (.aload_n 0, 1) := by decide +kernel
theorem dX10_dueOf_22 : decode cX10_dueOf 22 = .ok (.getfield 183, 3) := by decide +kernel
theorem dX10_dueOf_25 : decode cX10_dueOf 25 = .ok (.iconst 1, 1) := by decide +kernel
theorem dX10_dueOf_26 : decode cX10_dueOf 26 = .ok (.isub, 1) := by decide +kernel
theorem dX10_dueOf_27 : decode cX10_dueOf 27 = .ok (.istore 5, 2) := by decide +kernel
theorem dX10_dueOf_29 : decode cX10_dueOf 29 = .ok (.iload 5, 2) := by decide +kernel
theorem dX10_dueOf_31 : decode cX10_dueOf 31 = .ok (.ifCond .lt 59, 3) := by decide +kernel
theorem dX10_dueOf_34 : decode cX10_dueOf 34 = .ok (.iload 4, 2) := by decide +kernel
theorem dX10_dueOf_36 : decode cX10_dueOf 36 = .ok (.ifCond .eq 54, 3) := by decide +kernel
theorem dX10_dueOf_39 : decode cX10_dueOf 39 = .ok (.aload_n 0, 1) := by decide +kernel
theorem dX10_dueOf_40 : decode cX10_dueOf 40 = .ok (.getfield 60, 3) := by decide +kernel
theorem dX10_dueOf_43 : decode cX10_dueOf 43 = .ok (.iload 5, 2) := by decide +kernel
theorem dX10_dueOf_45 : decode cX10_dueOf 45 = .ok (.iaload, 1) := by decide +kernel
theorem dX10_dueOf_46 : decode cX10_dueOf 46 = .ok (.iload_n 1, 1) := by decide +kernel
theorem dX10_dueOf_47 : decode cX10_dueOf 47 = .ok (.if_icmp .eq 6, 3) := by decide +kernel
theorem dX10_dueOf_50 : decode cX10_dueOf 50 = .ok (.goto 34, 3) := by decide +kernel
theorem dX10_dueOf_53 : decode cX10_dueOf 53 = .ok (.aload_n 0, 1) := by decide +kernel
theorem dX10_dueOf_54 : decode cX10_dueOf 54 = .ok (.getfield 66, 3) := by decide +kernel
theorem dX10_dueOf_57 : decode cX10_dueOf 57 = .ok (.iload 5, 2) := by decide +kernel
theorem dX10_dueOf_59 : decode cX10_dueOf 59 = .ok (.iaload, 1) := by decide +kernel
theorem dX10_dueOf_60 : decode cX10_dueOf 60 = .ok (.iload_n 2, 1) := by decide +kernel
theorem dX10_dueOf_61 : decode cX10_dueOf 61 = .ok (.if_icmp .ne 7, 3) := by decide +kernel
theorem dX10_dueOf_64 : decode cX10_dueOf 64 = .ok (.iconst 1, 1) := by decide +kernel
theorem dX10_dueOf_65 : decode cX10_dueOf 65 = .ok (.goto 4, 3) := by decide +kernel
theorem dX10_dueOf_68 : decode cX10_dueOf 68 = .ok (.iconst 0, 1) := by decide +kernel
theorem dX10_dueOf_69 : decode cX10_dueOf 69 = .ok (.istore 4, 2) := by decide +kernel
theorem dX10_dueOf_71 : decode cX10_dueOf 71 = .ok (.iload 4, 2) := by decide +kernel
theorem dX10_dueOf_73 : decode cX10_dueOf 73 = .ok (.ifCond .eq 11, 3) := by decide +kernel
theorem dX10_dueOf_76 : decode cX10_dueOf 76 = .ok (.aload_n 0, 1) := by decide +kernel
theorem dX10_dueOf_77 : decode cX10_dueOf 77 = .ok (.getfield 63, 3) := by decide +kernel
theorem dX10_dueOf_80 : decode cX10_dueOf 80 = .ok (.iload 5, 2) := by decide +kernel
theorem dX10_dueOf_82 : decode cX10_dueOf 82 = .ok (.iaload, 1) := by decide +kernel
theorem dX10_dueOf_83 : decode cX10_dueOf 83 = .ok (.istore_n 3, 1) := by decide +kernel
theorem dX10_dueOf_84 : decode cX10_dueOf 84 = .ok (.iinc 5 (-1), 3) := by decide +kernel
theorem dX10_dueOf_87 : decode cX10_dueOf 87 = .ok (.goto (-58), 3) := by decide +kernel
theorem dX10_dueOf_90 : decode cX10_dueOf 90 = .ok (.iload_n 3, 1) := by decide +kernel
theorem dX10_dueOf_91 : decode cX10_dueOf 91 = .ok (.aload_n 0, 1) := by decide +kernel
theorem dX10_dueOf_92 : decode cX10_dueOf 92 = .ok (.getfield 81, 3) := by decide +kernel
theorem dX10_dueOf_95 : decode cX10_dueOf 95 = .ok (.iload_n 2, 1) := by decide +kernel
theorem dX10_dueOf_96 : decode cX10_dueOf 96 = .ok (.iaload, 1) := by decide +kernel
theorem dX10_dueOf_97 : decode cX10_dueOf 97 = .ok (.iadd, 1) := by decide +kernel
theorem dX10_dueOf_98 : decode cX10_dueOf 98 = .ok (.ireturn, 1) := by decide +kernel
theorem dX10_due_0 : decode cX10_due 0 = .ok (.aload_n 0, 1) := by decide +kernel
theorem dX10_due_1 : decode cX10_due 1 = .ok (.iload_n 1, 1) := by decide +kernel
theorem dX10_due_2 : decode cX10_due 2 = .ok (.invokevirtual 206, 3) := by decide +kernel
theorem dX10_due_5 : decode cX10_due 5 = .ok (.istore_n 2, 1) := by decide +kernel
theorem dX10_due_6 : decode cX10_due 6 = .ok (.iload_n 2, 1) := by decide +kernel
theorem dX10_due_7 : decode cX10_due 7 = .ok (.ifCond .eq 11, 3) := by decide +kernel
theorem dX10_due_10 : decode cX10_due 10 = .ok (.aload_n 0, 1) := by decide +kernel
theorem dX10_due_11 : decode cX10_due 11 = .ok (.iload_n 2, 1) := by decide +kernel
theorem dX10_due_12 : decode cX10_due 12 = .ok (.invokevirtual 149, 3) := by decide +kernel
theorem dX10_due_15 : decode cX10_due 15 = .ok (.goto 8, 3) := by decide +kernel
theorem dX10_due_18 : decode cX10_due 18 = .ok (.aload_n 0, 1) := by decide +kernel
theorem dX10_due_19 : decode cX10_due 19 = .ok (.iload_n 1, 1) := by decide +kernel
theorem dX10_due_20 : decode cX10_due 20 = .ok (.invokevirtual 209, 3) := by decide +kernel
theorem dX10_due_23 : decode cX10_due 23 = .ok (.ireturn, 1) := by decide +kernel
theorem dX10_overdue_0 : decode cX10_overdue 0 = .ok (.iconst 0, 1) := by decide +kernel
theorem dX10_overdue_1 : decode cX10_overdue 1 = .ok (.istore_n 1, 1) := by decide +kernel
theorem dX10_overdue_2 : decode cX10_overdue 2 = .ok (.iconst 0, 1) := by decide +kernel
theorem dX10_overdue_3 : decode cX10_overdue 3 = .ok (.istore_n 2, 1) := by decide +kernel
theorem dX10_overdue_4 : decode cX10_overdue 4 = .ok (.iload_n 2, 1) := by decide +kernel
theorem dX10_overdue_5 : decode cX10_overdue 5 = .ok (.aload_n 0, 1) := by decide +kernel
theorem dX10_overdue_6 : decode cX10_overdue 6 = .ok (.getfield 176, 3) := by decide +kernel
theorem dX10_overdue_9 : decode cX10_overdue 9 = .ok (.if_icmp .ge 46, 3) := by decide +kernel
theorem dX10_overdue_12 : decode cX10_overdue 12 = .ok (.iload_n 1, 1) := by decide +kernel
theorem dX10_overdue_13 : decode cX10_overdue 13 = .ok (.aload_n 0, 1) := by decide +kernel
theorem dX10_overdue_14 : decode cX10_overdue 14 = .ok (.getfield 56, 3) := by decide +kernel
theorem dX10_overdue_17 : decode cX10_overdue 17 = .ok (.iload_n 2, 1) := by decide +kernel
theorem dX10_overdue_18 : decode cX10_overdue 18 = .ok (.baload, 1) := by decide +kernel
theorem dX10_overdue_19 : decode cX10_overdue 19 = .ok (.ifCond .eq 27, 3) := by decide +kernel
theorem dX10_overdue_22 : decode cX10_overdue 22 = .ok (.aload_n 0, 1) := by decide +kernel
theorem dX10_overdue_23 : decode cX10_overdue 23 = .ok (.iload_n 2, 1) := by decide +kernel
theorem dX10_overdue_24 : decode cX10_overdue 24 = .ok (.invokevirtual 209, 3) := by decide +kernel
theorem dX10_overdue_27 : decode cX10_overdue 27 = .ok (.ifCond .lt 19, 3) := by decide +kernel
theorem dX10_overdue_30 : decode cX10_overdue 30 = .ok (.aload_n 0, 1) := by decide +kernel
theorem dX10_overdue_31 : decode cX10_overdue 31 = .ok (.iload_n 2, 1) := by decide +kernel
theorem dX10_overdue_32 : decode cX10_overdue 32 = .ok (.invokevirtual 209, 3) := by decide +kernel
theorem dX10_overdue_35 : decode cX10_overdue 35 = .ok (.aload_n 0, 1) := by decide +kernel
theorem dX10_overdue_36 : decode cX10_overdue 36 = .ok (.getfield 157, 3) := by decide +kernel
theorem dX10_overdue_39 : decode cX10_overdue 39 = .ok (.if_icmp .ge 7, 3) := by decide +kernel
theorem dX10_overdue_42 : decode cX10_overdue 42 = .ok (.iconst 1, 1) := by decide +kernel
theorem dX10_overdue_43 : decode cX10_overdue 43 = .ok (.goto 4, 3) := by decide +kernel
theorem dX10_overdue_46 : decode cX10_overdue 46 = .ok (.iconst 0, 1) := by decide +kernel
theorem dX10_overdue_47 : decode cX10_overdue 47 = .ok (.iadd, 1) := by decide +kernel
theorem dX10_overdue_48 : decode cX10_overdue 48 = .ok (.istore_n 1, 1) := by decide +kernel
theorem dX10_overdue_49 : decode cX10_overdue 49 = .ok (.iinc 2 1, 3) := by decide +kernel
theorem dX10_overdue_52 : decode cX10_overdue 52 = .ok (.goto (-48), 3) := by decide +kernel
theorem dX10_overdue_55 : decode cX10_overdue 55 = .ok (.iload_n 1, 1) := by decide +kernel
theorem dX10_overdue_56 : decode cX10_overdue 56 = .ok (.ireturn, 1) := by decide +kernel
theorem dX10_close_0 : decode cX10_close 0 = .ok (.aload_n 0, 1) := by decide +kernel
theorem dX10_close_1 : decode cX10_close 1 = .ok (.iload_n 1, 1) := by decide +kernel
theorem dX10_close_2 : decode cX10_close 2 = .ok (.invokevirtual 200, 3) := by decide +kernel
theorem dX10_close_5 : decode cX10_close 5 = .ok (.ifCond .ne 7, 3) := by decide +kernel
theorem dX10_close_8 : decode cX10_close 8 = .ok (.iconst (-1), 1) := by decide +kernel
theorem dX10_close_9 : decode cX10_close 9 = .ok (.goto 33, 3) := by decide +kernel
theorem dX10_close_12 : decode cX10_close 12 = .ok (.iload_n 2, 1) := by decide +kernel
theorem dX10_close_13 : decode cX10_close 13 = .ok (.iconst 2, 1) := by decide +kernel
theorem dX10_close_14 : decode cX10_close 14 = .ok (.if_icmp .eq 13, 3) := by decide +kernel
theorem dX10_close_17 : decode cX10_close 17 = .ok (.iload_n 2, 1) := by decide +kernel
theorem dX10_close_18 : decode cX10_close 18 = .ok (.iconst 3, 1) := by decide +kernel
theorem dX10_close_19 : decode cX10_close 19 = .ok (.if_icmp .eq 8, 3) := by decide +kernel
theorem dX10_close_22 : decode cX10_close 22 = .ok (.bipush (-2), 2) := by decide +kernel
theorem dX10_close_24 : decode cX10_close 24 = .ok (.goto 18, 3) := by decide +kernel
theorem dX10_close_27 : decode cX10_close 27 = .ok (.aload_n 0, 1) := by decide +kernel
theorem dX10_close_28 : decode cX10_close 28 = .ok (.getfield 56, 3) := by decide +kernel
theorem dX10_close_31 : decode cX10_close 31 = .ok (.iload_n 1, 1) := by decide +kernel
theorem dX10_close_32 : decode cX10_close 32 = .ok (.baload, 1) := by decide +kernel
theorem dX10_close_33 : decode cX10_close 33 = .ok (.ifCond .eq 7, 3) := by decide +kernel
theorem dX10_close_36 : decode cX10_close 36 = .ok (.iconst 0, 1) := by decide +kernel
theorem dX10_close_37 : decode cX10_close 37 = .ok (.goto 5, 3) := by decide +kernel
theorem dX10_close_40 : decode cX10_close 40 = .ok (.bipush (-3), 2) := by decide +kernel
theorem dX10_close_42 : decode cX10_close 42 = .ok (.istore_n 3, 1) := by decide +kernel
theorem dX10_close_43 : decode cX10_close 43 = .ok (.iload_n 3, 1) := by decide +kernel
theorem dX10_close_44 : decode cX10_close 44 = .ok (.ifCond .eq 9, 3) := by decide +kernel
theorem dX10_close_47 : decode cX10_close 47 = .ok (.aload_n 0, 1) := by decide +kernel
theorem dX10_close_48 : decode cX10_close 48 = .ok (.iload_n 3, 1) := by decide +kernel
theorem dX10_close_49 : decode cX10_close 49 = .ok (.invokevirtual 149, 3) := by decide +kernel
theorem dX10_close_52 : decode cX10_close 52 = .ok (.ireturn, 1) := by decide +kernel
theorem dX10_close_53 : decode cX10_close 53 = .ok (.aload_n 0, 1) := by decide +kernel
theorem dX10_close_54 : decode cX10_close 54 = .ok (.getfield 56, 3) := by decide +kernel
theorem dX10_close_57 : decode cX10_close 57 = .ok (.iload_n 1, 1) := by decide +kernel
theorem dX10_close_58 : decode cX10_close 58 = .ok (.iconst 0, 1) := by decide +kernel
theorem dX10_close_59 : decode cX10_close 59 = .ok (.bastore, 1) := by decide +kernel
theorem dX10_close_60 : decode cX10_close 60 = .ok (.iload_n 2, 1) := by decide +kernel
theorem dX10_close_61 : decode cX10_close 61 = .ok (.iconst 3, 1) := by decide +kernel
theorem dX10_close_62 : decode cX10_close 62 = .ok (.if_icmp .ne 18, 3) := by decide +kernel
theorem dX10_close_65 : decode cX10_close 65 = .ok (.aload_n 0, 1) := by decide +kernel
theorem dX10_close_66 : decode cX10_close 66 = .ok (.getfield 99, 3) := by decide +kernel
theorem dX10_close_69 : decode cX10_close 69 = .ok (.aload_n 0, 1) := by decide +kernel
theorem dX10_close_70 : decode cX10_close 70 = .ok (.getfield 35, 3) := by decide +kernel
theorem dX10_close_73 : decode cX10_close 73 = .ok (.iload_n 1, 1) := by decide +kernel
theorem dX10_close_74 : decode cX10_close 74 = .ok (.iaload, 1) := by decide +kernel
theorem dX10_close_75 : decode cX10_close 75 = .ok (.aload_n 0, 1) := by decide +kernel
theorem dX10_close_76 : decode cX10_close 76 = .ok (.getfield 32, 3) := by decide +kernel
theorem dX10_close_79 : decode cX10_close 79 = .ok (.iastore, 1) := by decide +kernel
theorem dX10_close_80 : decode cX10_close 80 = .ok (.iconst 1, 1) := by decide +kernel
theorem dX10_close_81 : decode cX10_close 81 = .ok (.ireturn, 1) := by decide +kernel
theorem dX10_slow_0 : decode cX10_slow 0 = .ok (.iload_n 1, 1) := by decide +kernel
theorem dX10_slow_1 : decode cX10_slow 1 = .ok (.invokestatic 179, 3) := by decide +kernel
theorem dX10_slow_4 : decode cX10_slow 4 = .ok (.ifCond .ne 7, 3) := by decide +kernel
theorem dX10_slow_7 : decode cX10_slow 7 = .ok (.iconst (-1), 1) := by decide +kernel
theorem dX10_slow_8 : decode cX10_slow 8 = .ok (.goto 24, 3) := by decide +kernel
theorem dX10_slow_11 : decode cX10_slow 11 = .ok (.aload_n 0, 1) := by decide +kernel
theorem dX10_slow_12 : decode cX10_slow 12 = .ok (.getfield 84, 3) := by decide +kernel
theorem dX10_slow_15 : decode cX10_slow 15 = .ok (.iload_n 1, 1) := by decide +kernel
theorem dX10_slow_16 : decode cX10_slow 16 = .ok (.iaload, 1) := by decide +kernel
theorem dX10_slow_17 : decode cX10_slow 17 = .ok (.ifCond .le 8, 3) := by decide +kernel
theorem dX10_slow_20 : decode cX10_slow 20 = .ok (.bipush (-3), 2) := by decide +kernel
theorem dX10_slow_22 : decode cX10_slow 22 = .ok (.goto 10, 3) := by decide +kernel
theorem dX10_slow_25 : decode cX10_slow 25 = .ok (.iload_n 2, 1) := by decide +kernel
theorem dX10_slow_26 : decode cX10_slow 26 = .ok (.iconst 1, 1) := by decide +kernel
theorem dX10_slow_27 : decode cX10_slow 27 = .ok (.bipush 30, 2) := by decide +kernel
theorem dX10_slow_29 : decode cX10_slow 29 = .ok (.invokestatic 160, 3) := by decide +kernel
theorem dX10_slow_32 : decode cX10_slow 32 = .ok (.istore_n 3, 1) := by decide +kernel
theorem dX10_slow_33 : decode cX10_slow 33 = .ok (.iload_n 3, 1) := by decide +kernel
theorem dX10_slow_34 : decode cX10_slow 34 = .ok (.ifCond .eq 9, 3) := by decide +kernel
theorem dX10_slow_37 : decode cX10_slow 37 = .ok (.aload_n 0, 1) := by decide +kernel
theorem dX10_slow_38 : decode cX10_slow 38 = .ok (.iload_n 3, 1) := by decide +kernel
theorem dX10_slow_39 : decode cX10_slow 39 = .ok (.invokevirtual 149, 3) := by decide +kernel
theorem dX10_slow_42 : decode cX10_slow 42 = .ok (.ireturn, 1) := by decide +kernel
theorem dX10_slow_43 : decode cX10_slow 43 = .ok (.aload_n 0, 1) := by decide +kernel
theorem dX10_slow_44 : decode cX10_slow 44 = .ok (.getfield 84, 3) := by decide +kernel
theorem dX10_slow_47 : decode cX10_slow 47 = .ok (.iload_n 1, 1) := by decide +kernel
theorem dX10_slow_48 : decode cX10_slow 48 = .ok (.iload_n 2, 1) := by decide +kernel
theorem dX10_slow_49 : decode cX10_slow 49 = .ok (.iastore, 1) := by decide +kernel
theorem dX10_slow_50 : decode cX10_slow 50 = .ok (.iconst 1, 1) := by decide +kernel
theorem dX10_slow_51 : decode cX10_slow 51 = .ok (.ireturn, 1) := by decide +kernel
theorem dX10_heatOf_0 : decode cX10_heatOf 0 = .ok (.aload_n 0, 1) := by decide +kernel
theorem dX10_heatOf_1 : decode cX10_heatOf 1 = .ok (.getfield 32, 3) := by decide +kernel
theorem dX10_heatOf_4 : decode cX10_heatOf 4 = .ok (.aload_n 0, 1) := by decide +kernel
theorem dX10_heatOf_5 : decode cX10_heatOf 5 = .ok (.getfield 99, 3) := by decide +kernel
theorem dX10_heatOf_8 : decode cX10_heatOf 8 = .ok (.iload_n 1, 1) := by decide +kernel
theorem dX10_heatOf_9 : decode cX10_heatOf 9 = .ok (.iaload, 1) := by decide +kernel
theorem dX10_heatOf_10 : decode cX10_heatOf 10 = .ok (.isub, 1) := by decide +kernel
theorem dX10_heatOf_11 : decode cX10_heatOf 11 = .ok (.invokestatic 212, 3) := by decide +kernel
theorem dX10_heatOf_14 : decode cX10_heatOf 14 = .ok (.ireturn, 1) := by decide +kernel
theorem dX10_lift_0 : decode cX10_lift 0 = .ok (.iload_n 1, 1) := by decide +kernel
theorem dX10_lift_1 : decode cX10_lift 1 = .ok (.invokestatic 179, 3) := by decide +kernel
theorem dX10_lift_4 : decode cX10_lift 4 = .ok (.ifCond .ne 7, 3) := by decide +kernel
theorem dX10_lift_7 : decode cX10_lift 7 = .ok (.iconst (-1), 1) := by decide +kernel
theorem dX10_lift_8 : decode cX10_lift 8 = .ok (.goto 18, 3) := by decide +kernel
theorem dX10_lift_11 : decode cX10_lift 11 = .ok (.aload_n 0, 1) := by decide +kernel
theorem dX10_lift_12 : decode cX10_lift 12 = .ok (.getfield 84, 3) := by decide +kernel
theorem dX10_lift_15 : decode cX10_lift 15 = .ok (.iload_n 1, 1) := by decide +kernel
theorem dX10_lift_16 : decode cX10_lift 16 = .ok (.iaload, 1) := by decide +kernel
theorem dX10_lift_17 : decode cX10_lift 17 = .ok (.ifCond .ne 8, 3) := by decide +kernel
theorem dX10_lift_20 : decode cX10_lift 20 = .ok (.bipush (-3), 2) := by decide +kernel
theorem dX10_lift_22 : decode cX10_lift 22 = .ok (.goto 4, 3) := by decide +kernel
theorem dX10_lift_25 : decode cX10_lift 25 = .ok (.iconst 0, 1) := by decide +kernel
theorem dX10_lift_26 : decode cX10_lift 26 = .ok (.istore_n 2, 1) := by decide +kernel
theorem dX10_lift_27 : decode cX10_lift 27 = .ok (.iload_n 2, 1) := by decide +kernel
theorem dX10_lift_28 : decode cX10_lift 28 = .ok (.ifCond .eq 9, 3) := by decide +kernel
theorem dX10_lift_31 : decode cX10_lift 31 = .ok (.aload_n 0, 1) := by decide +kernel
theorem dX10_lift_32 : decode cX10_lift 32 = .ok (.iload_n 2, 1) := by decide +kernel
theorem dX10_lift_33 : decode cX10_lift 33 = .ok (.invokevirtual 149, 3) := by decide +kernel
theorem dX10_lift_36 : decode cX10_lift 36 = .ok (.ireturn, 1) := by decide +kernel
theorem dX10_lift_37 : decode cX10_lift 37 = .ok (.aload_n 0, 1) := by decide +kernel
theorem dX10_lift_38 : decode cX10_lift 38 = .ok (.iload_n 1, 1) := by decide +kernel
theorem dX10_lift_39 : decode cX10_lift 39 = .ok (.invokevirtual 215, 3) := by decide +kernel
theorem dX10_lift_42 : decode cX10_lift 42 = .ok (.bipush 20, 2) := by decide +kernel
theorem dX10_lift_44 : decode cX10_lift 44 = .ok (.if_icmp .gt 7, 3) := by decide +kernel
theorem dX10_lift_47 : decode cX10_lift 47 = .ok (.iconst 1, 1) := by decide +kernel
theorem dX10_lift_48 : decode cX10_lift 48 = .ok (.goto 4, 3) := by decide +kernel
theorem dX10_lift_51 : decode cX10_lift 51 = .ok (.iconst 0, 1) := by decide +kernel
theorem dX10_lift_52 : decode cX10_lift 52 = .ok (.istore_n 3, 1) := by decide +kernel
theorem dX10_lift_53 : decode cX10_lift 53 = .ok (.iconst 0, 1) := by decide +kernel
theorem dX10_lift_54 : decode cX10_lift 54 = .ok (.istore 4, 2) := by decide +kernel
theorem dX10_lift_56 : decode cX10_lift 56 = .ok (.iload 4, 2) := by decide +kernel
theorem dX10_lift_58 : decode cX10_lift 58 = .ok (.aload_n 0, 1) := by decide +kernel
theorem dX10_lift_59 : decode cX10_lift 59 = .ok (.getfield 176, 3) := by decide +kernel
theorem dX10_lift_62 : decode cX10_lift 62 = .ok (.if_icmp .ge 63, 3) := by decide +kernel
theorem dX10_lift_65 : decode cX10_lift 65 = .ok (.iload_n 3, 1) := by decide +kernel
theorem dX10_lift_66 : decode cX10_lift 66 = .ok (.ifCond .eq 51, 3) := by decide +kernel
theorem dX10_lift_69 : decode cX10_lift 69 = .ok (.aload_n 0, 1) := by decide +kernel
theorem dX10_lift_70 : decode cX10_lift 70 = .ok (.getfield 56, 3) := by decide +kernel
theorem dX10_lift_73 : decode cX10_lift 73 = .ok (.iload 4, 2) := by decide +kernel
theorem dX10_lift_75 : decode cX10_lift 75 = .ok (.baload, 1) := by decide +kernel
theorem dX10_lift_76 : decode cX10_lift 76 = .ok (.ifCond .eq 37, 3) := by decide +kernel
theorem dX10_lift_79 : decode cX10_lift 79 = .ok (.aload_n 0, 1) := by decide +kernel
theorem dX10_lift_80 : decode cX10_lift 80 = .ok (.getfield 35, 3) := by decide +kernel
theorem dX10_lift_83 : decode cX10_lift 83 = .ok (.iload 4, 2) := by decide +kernel
theorem dX10_lift_85 : decode cX10_lift 85 = .ok (.iaload, 1) := by decide +kernel
theorem dX10_lift_86 : decode cX10_lift 86 = .ok (.iload_n 1, 1) := by decide +kernel
theorem dX10_lift_87 : decode cX10_lift 87 = .ok (.if_icmp .ne 26, 3) := by decide +kernel
theorem dX10_lift_90 : decode cX10_lift 90 = .ok (.aload_n 0, 1) := by decide +kernel
theorem dX10_lift_91 : decode cX10_lift 91 = .ok (.iload 4, 2) := by decide +kernel
theorem dX10_lift_93 : decode cX10_lift 93 = .ok (.invokevirtual 194, 3) := by decide +kernel
theorem dX10_lift_96 : decode cX10_lift 96 = .ok (.ifCond .lt 17, 3) := by decide +kernel
theorem dX10_lift_99 : decode cX10_lift 99 = .ok (.aload_n 0, 1) := by decide +kernel
theorem dX10_lift_100 : decode cX10_lift 100 = .ok (.getfield 78, 3) := by decide +kernel
theorem dX10_lift_103 : decode cX10_lift 103 = .ok (.aload_n 0, 1) := by decide +kernel
theorem dX10_lift_104 : decode cX10_lift 104 = .ok (.iload 4, 2) := by decide +kernel
theorem dX10_lift_106 : decode cX10_lift 106 = .ok (.invokevirtual 194, 3) := by decide +kernel
theorem dX10_lift_109 : decode cX10_lift 109 = .ok (.iaload, 1) := by decide +kernel
theorem dX10_lift_110 : decode cX10_lift 110 = .ok (.ifCond .ne 7, 3) := by decide +kernel
theorem dX10_lift_113 : decode cX10_lift 113 = .ok (.iconst 1, 1) := by decide +kernel
theorem dX10_lift_114 : decode cX10_lift 114 = .ok (.goto 4, 3) := by decide +kernel
theorem dX10_lift_117 : decode cX10_lift 117 = .ok (.iconst 0, 1) := by decide +kernel
theorem dX10_lift_118 : decode cX10_lift 118 = .ok (.istore_n 3, 1) := by decide +kernel
theorem dX10_lift_119 : decode cX10_lift 119 = .ok (.iinc 4 1, 3) := by decide +kernel
theorem dX10_lift_122 : decode cX10_lift 122 = .ok (.goto (-66), 3) := by decide +kernel
theorem dX10_lift_125 : decode cX10_lift 125 = .ok (.iload_n 3, 1) := by decide +kernel
theorem dX10_lift_126 : decode cX10_lift 126 = .ok (.ifCond .ne 5, 3) := by decide +kernel
theorem dX10_lift_129 : decode cX10_lift 129 = .ok (.iconst 0, 1) := by decide +kernel
theorem dX10_lift_130 : decode cX10_lift 130 = .ok (.ireturn, 1) := by decide +kernel
theorem dX10_lift_131 : decode cX10_lift 131 = .ok (.aload_n 0, 1) := by decide +kernel
theorem dX10_lift_132 : decode cX10_lift 132 = .ok (.getfield 84, 3) := by decide +kernel
theorem dX10_lift_135 : decode cX10_lift 135 = .ok (.iload_n 1, 1) := by decide +kernel
theorem dX10_lift_136 : decode cX10_lift 136 = .ok (.iconst 0, 1) := by decide +kernel
theorem dX10_lift_137 : decode cX10_lift 137 = .ok (.iastore, 1) := by decide +kernel
theorem dX10_lift_138 : decode cX10_lift 138 = .ok (.iconst 1, 1) := by decide +kernel
theorem dX10_lift_139 : decode cX10_lift 139 = .ok (.ireturn, 1) := by decide +kernel
theorem dX10_lost_0 : decode cX10_lost 0 = .ok (.aload_n 0, 1) := by decide +kernel
theorem dX10_lost_1 : decode cX10_lost 1 = .ok (.getfield 218, 3) := by decide +kernel
theorem dX10_lost_4 : decode cX10_lost 4 = .ok (.ireturn, 1) := by decide +kernel
theorem dX10_set_0 : decode cX10_set 0 = .ok (.iload_n 1, 1) := by decide +kernel
theorem dX10_set_1 : decode cX10_set 1 = .ok (.iconst 4, 1) := by decide +kernel
theorem dX10_set_2 : decode cX10_set 2 = .ok (.invokestatic 153, 3) := by decide +kernel
theorem dX10_set_5 : decode cX10_set 5 = .ok (.ifCond .ne 8, 3) := by decide +kernel
theorem dX10_set_8 : decode cX10_set 8 = .ok (.bipush (-2), 2) := by decide +kernel
theorem dX10_set_10 : decode cX10_set 10 = .ok (.goto 60, 3) := by decide +kernel
theorem dX10_set_13 : decode cX10_set 13 = .ok (.iload_n 2, 1) := by decide +kernel
theorem dX10_set_14 : decode cX10_set 14 = .ok (.iload_n 1, 1) := by decide +kernel
theorem dX10_set_15 : decode cX10_set 15 = .ok (.iconst 1, 1) := by decide +kernel
theorem dX10_set_16 : decode cX10_set 16 = .ok (.if_icmp .ne 8, 3) := by decide +kernel
theorem dX10_set_19 : decode cX10_set 19 = .ok (.bipush 10, 2) := by decide +kernel
theorem dX10_set_21 : decode cX10_set 21 = .ok (.goto 14, 3) := by decide +kernel
theorem dX10_set_24 : decode cX10_set 24 = .ok (.iload_n 1, 1) := by decide +kernel
theorem dX10_set_25 : decode cX10_set 25 = .ok (.iconst 3, 1) := by decide +kernel
theorem dX10_set_26 : decode cX10_set 26 = .ok (.if_icmp .ne 8, 3) := by decide +kernel
theorem dX10_set_29 : decode cX10_set 29 = .ok (.bipush (-30), 2) := by decide +kernel
theorem dX10_set_31 : decode cX10_set 31 = .ok (.goto 4, 3) := by decide +kernel
theorem dX10_set_34 : decode cX10_set 34 = .ok (.iconst 0, 1) := by decide +kernel
theorem dX10_set_35 : decode cX10_set 35 = .ok (.iload_n 1, 1) := by decide +kernel
theorem dX10_set_36 : decode cX10_set 36 = .ok (.ifCond .ne 8, 3) := by decide +kernel
theorem dX10_set_39 : decode cX10_set 39 = .ok (.bipush 99, 2) := by decide +kernel
theorem dX10_set_41 : decode cX10_set 41 = .ok (.goto 26, 3) := by decide +kernel
theorem dX10_set_44 : decode cX10_set 44 = .ok (.iload_n 1, 1) := by decide +kernel
theorem dX10_set_45 : decode cX10_set 45 = .ok (.iconst 1, 1) := by decide +kernel
theorem dX10_set_46 : decode cX10_set 46 = .ok (.if_icmp .ne 8, 3) := by decide +kernel
theorem dX10_set_49 : decode cX10_set 49 = .ok (.bipush 60, 2) := by decide +kernel
theorem dX10_set_51 : decode cX10_set 51 = .ok (.goto 16, 3) := by decide +kernel
theorem dX10_set_54 : decode cX10_set 54 = .ok (.iload_n 1, 1) := by decide +kernel
theorem dX10_set_55 : decode cX10_set 55 = .ok (.iconst 2, 1) := by decide +kernel
theorem dX10_set_56 : decode cX10_set 56 = .ok (.if_icmp .ne 9, 3) := by decide +kernel
theorem dX10_set_59 : decode cX10_set 59 = .ok (.sipush 200, 3) := by decide +kernel
theorem dX10_set_62 : decode cX10_set 62 = .ok (.goto 5, 3) := by decide +kernel
theorem dX10_set_65 : decode cX10_set 65 = .ok (.bipush 50, 2) := by decide +kernel
theorem dX10_set_67 : decode cX10_set 67 = .ok (.invokestatic 160, 3) := by decide +kernel
theorem dX10_set_70 : decode cX10_set 70 = .ok (.istore_n 3, 1) := by decide +kernel
theorem dX10_set_71 : decode cX10_set 71 = .ok (.iload_n 3, 1) := by decide +kernel
theorem dX10_set_72 : decode cX10_set 72 = .ok (.ifCond .eq 9, 3) := by decide +kernel
theorem dX10_set_75 : decode cX10_set 75 = .ok (.aload_n 0, 1) := by decide +kernel
theorem dX10_set_76 : decode cX10_set 76 = .ok (.iload_n 3, 1) := by decide +kernel
theorem dX10_set_77 : decode cX10_set 77 = .ok (.invokevirtual 164, 3) := by decide +kernel
theorem dX10_set_80 : decode cX10_set 80 = .ok (.ireturn, 1) := by decide +kernel
theorem dX10_set_81 : decode cX10_set 81 = .ok (.iload_n 1, 1) := by decide +kernel
theorem dX10_set_82 : decode cX10_set 82 = .ok (.ifCond .ne 10, 3) := by decide +kernel
theorem dX10_set_85 : decode cX10_set 85 = .ok (.aload_n 0, 1) := by decide +kernel
theorem dX10_set_86 : decode cX10_set 86 = .ok (.getfield 22, 3) := by decide +kernel
theorem dX10_set_89 : decode cX10_set 89 = .ok (.goto 31, 3) := by decide +kernel
theorem dX10_set_92 : decode cX10_set 92 = .ok (.iload_n 1, 1) := by decide +kernel
theorem dX10_set_93 : decode cX10_set 93 = .ok (.iconst 1, 1) := by decide +kernel
theorem dX10_set_94 : decode cX10_set 94 = .ok (.if_icmp .ne 10, 3) := by decide +kernel
theorem dX10_set_97 : decode cX10_set 97 = .ok (.aload_n 0, 1) := by decide +kernel
theorem dX10_set_98 : decode cX10_set 98 = .ok (.getfield 26, 3) := by decide +kernel
theorem dX10_set_101 : decode cX10_set 101 = .ok (.goto 19, 3) := by decide +kernel
theorem dX10_set_104 : decode cX10_set 104 = .ok (.iload_n 1, 1) := by decide +kernel
theorem dX10_set_105 : decode cX10_set 105 = .ok (.iconst 2, 1) := by decide +kernel
theorem dX10_set_106 : decode cX10_set 106 = .ok (.if_icmp .ne 10, 3) := by decide +kernel
theorem dX10_set_109 : decode cX10_set 109 = .ok (.aload_n 0, 1) := by decide +kernel
theorem dX10_set_110 : decode cX10_set 110 = .ok (.getfield 29, 3) := by decide +kernel
theorem dX10_set_113 : decode cX10_set 113 = .ok (.goto 7, 3) := by decide +kernel
theorem dX10_set_116 : decode cX10_set 116 = .ok (.aload_n 0, 1) := by decide +kernel
theorem dX10_set_117 : decode cX10_set 117 = .ok (.getfield 32, 3) := by decide +kernel
theorem dX10_set_120 : decode cX10_set 120 = .ok (.istore 4, 2) := by decide +kernel
theorem dX10_set_122 : decode cX10_set 122 = .ok (.iload_n 1, 1) := by decide +kernel
theorem dX10_set_123 : decode cX10_set 123 = .ok (.ifCond .ne 11, 3) := by decide +kernel
theorem dX10_set_126 : decode cX10_set 126 = .ok (.aload_n 0, 1) := by decide +kernel
theorem dX10_set_127 : decode cX10_set 127 = .ok (.iload_n 2, 1) := by decide +kernel
theorem dX10_set_128 : decode cX10_set 128 = .ok (.putfield 22, 3) := by decide +kernel
theorem dX10_set_131 : decode cX10_set 131 = .ok (.goto 34, 3) := by decide +kernel
theorem dX10_set_134 : decode cX10_set 134 = .ok (.iload_n 1, 1) := by decide +kernel
theorem dX10_set_135 : decode cX10_set 135 = .ok (.iconst 1, 1) := by decide +kernel
theorem dX10_set_136 : decode cX10_set 136 = .ok (.if_icmp .ne 11, 3) := by decide +kernel
theorem dX10_set_139 : decode cX10_set 139 = .ok (.aload_n 0, 1) := by decide +kernel
theorem dX10_set_140 : decode cX10_set 140 = .ok (.iload_n 2, 1) := by decide +kernel
theorem dX10_set_141 : decode cX10_set 141 = .ok (.putfield 26, 3) := by decide +kernel
theorem dX10_set_144 : decode cX10_set 144 = .ok (.goto 21, 3) := by decide +kernel
theorem dX10_set_147 : decode cX10_set 147 = .ok (.iload_n 1, 1) := by decide +kernel
theorem dX10_set_148 : decode cX10_set 148 = .ok (.iconst 2, 1) := by decide +kernel
theorem dX10_set_149 : decode cX10_set 149 = .ok (.if_icmp .ne 11, 3) := by decide +kernel
theorem dX10_set_152 : decode cX10_set 152 = .ok (.aload_n 0, 1) := by decide +kernel
theorem dX10_set_153 : decode cX10_set 153 = .ok (.iload_n 2, 1) := by decide +kernel
theorem dX10_set_154 : decode cX10_set 154 = .ok (.putfield 29, 3) := by decide +kernel
theorem dX10_set_157 : decode cX10_set 157 = .ok (.goto 8, 3) := by decide +kernel
theorem dX10_set_160 : decode cX10_set 160 = .ok (.aload_n 0, 1) := by decide +kernel
theorem dX10_set_161 : decode cX10_set 161 = .ok (.iload_n 2, 1) := by decide +kernel
theorem dX10_set_162 : decode cX10_set 162 = .ok (.putfield 32, 3) := by decide +kernel
theorem dX10_set_165 : decode cX10_set 165 = .ok (.iload 4, 2) := by decide +kernel
theorem dX10_set_167 : decode cX10_set 167 = .ok (.ireturn, 1) := by decide +kernel
theorem dX10_days_0 : decode cX10_days 0 = .ok (.iload_n 1, 1) := by decide +kernel
theorem dX10_days_1 : decode cX10_days 1 = .ok (.iconst 1, 1) := by decide +kernel
theorem dX10_days_2 : decode cX10_days 2 = .ok (.sipush 1000, 3) := by decide +kernel
theorem dX10_days_5 : decode cX10_days 5 = .ok (.aload_n 0, 1) := by decide +kernel
theorem dX10_days_6 : decode cX10_days 6 = .ok (.getfield 157, 3) := by decide +kernel
theorem dX10_days_9 : decode cX10_days 9 = .ok (.isub, 1) := by decide +kernel
theorem dX10_days_10 : decode cX10_days 10 = .ok (.invokestatic 160, 3) := by decide +kernel
theorem dX10_days_13 : decode cX10_days 13 = .ok (.istore_n 2, 1) := by decide +kernel
theorem dX10_days_14 : decode cX10_days 14 = .ok (.iload_n 2, 1) := by decide +kernel
theorem dX10_days_15 : decode cX10_days 15 = .ok (.ifCond .eq 9, 3) := by decide +kernel
theorem dX10_days_18 : decode cX10_days 18 = .ok (.aload_n 0, 1) := by decide +kernel
theorem dX10_days_19 : decode cX10_days 19 = .ok (.iload_n 2, 1) := by decide +kernel
theorem dX10_days_20 : decode cX10_days 20 = .ok (.invokevirtual 149, 3) := by decide +kernel
theorem dX10_days_23 : decode cX10_days 23 = .ok (.ireturn, 1) := by decide +kernel
theorem dX10_days_24 : decode cX10_days 24 = .ok (.iconst 0, 1) := by decide +kernel
theorem dX10_days_25 : decode cX10_days 25 = .ok (.istore_n 3, 1) := by decide +kernel
theorem dX10_days_26 : decode cX10_days 26 = .ok (.iload_n 3, 1) := by decide +kernel
theorem dX10_days_27 : decode cX10_days 27 = .ok (.iload_n 1, 1) := by decide +kernel
theorem dX10_days_28 : decode cX10_days 28 = .ok (.if_icmp .ge 105, 3) := by decide +kernel
theorem dX10_days_31 : decode cX10_days 31 = .ok (.iconst 0, 1) := by decide +kernel
theorem dX10_days_32 : decode cX10_days 32 = .ok (.istore 4, 2) := by decide +kernel
theorem dX10_days_34 : decode cX10_days 34 = .ok (.iload 4, 2) := by decide +kernel
theorem dX10_days_36 : decode cX10_days 36 = .ok (.aload_n 0, 1) := by decide +kernel
theorem dX10_days_37 : decode cX10_days 37 = .ok (.getfield 176, 3) := by decide +kernel
theorem dX10_days_40 : decode cX10_days 40 = .ok (.if_icmp .ge 40, 3) := by decide +kernel
theorem dX10_days_43 : decode cX10_days 43 = .ok (.aload_n 0, 1) := by decide +kernel
theorem dX10_days_44 : decode cX10_days 44 = .ok (.getfield 56, 3) := by decide +kernel
theorem dX10_days_47 : decode cX10_days 47 = .ok (.iload 4, 2) := by decide +kernel
theorem dX10_days_49 : decode cX10_days 49 = .ok (.baload, 1) := by decide +kernel
theorem dX10_days_50 : decode cX10_days 50 = .ok (.ifCond .eq 24, 3) := by decide +kernel
theorem dX10_days_53 : decode cX10_days 53 = .ok (.aload_n 0, 1) := by decide +kernel
theorem dX10_days_54 : decode cX10_days 54 = .ok (.getfield 53, 3) := by decide +kernel
theorem dX10_days_57 : decode cX10_days 57 = .ok (.iload 4, 2) := by decide +kernel
theorem dX10_days_59 : decode cX10_days 59 = .ok (.dup2, 1) := by decide +kernel
theorem dX10_days_60 : decode cX10_days 60 = .ok (.iaload, 1) := by decide +kernel
theorem dX10_days_61 : decode cX10_days 61 = .ok (.aload_n 0, 1) := by decide +kernel
theorem dX10_days_62 : decode cX10_days 62 = .ok (.aload_n 0, 1) := by decide +kernel
theorem dX10_days_63 : decode cX10_days 63 = .ok (.getfield 44, 3) := by decide +kernel
theorem dX10_days_66 : decode cX10_days 66 = .ok (.iload 4, 2) := by decide +kernel
theorem dX10_days_68 : decode cX10_days 68 = .ok (.iaload, 1) := by decide +kernel
theorem dX10_days_69 : decode cX10_days 69 = .ok (.invokevirtual 221, 3) := by decide +kernel
theorem dX10_days_72 : decode cX10_days 72 = .ok (.iadd, 1) := by decide +kernel
theorem dX10_days_73 : decode cX10_days 73 = .ok (.iastore, 1) := by decide +kernel
theorem dX10_days_74 : decode cX10_days 74 = .ok (.iinc 4 1, 3) := by decide +kernel
theorem dX10_days_77 : decode cX10_days 77 = .ok (.goto (-43), 3) := by decide +kernel
theorem dX10_days_80 : decode cX10_days 80 = .ok (.iconst 0, 1) := by decide +kernel
theorem dX10_days_81 : decode cX10_days 81 = .ok (.istore 4, 2) := by decide +kernel
theorem dX10_days_83 : decode cX10_days 83 = .ok (.iload 4, 2) := by decide +kernel
theorem dX10_days_85 : decode cX10_days 85 = .ok (.bipush 20, 2) := by decide +kernel
theorem dX10_days_87 : decode cX10_days 87 = .ok (.if_icmp .ge 30, 3) := by decide +kernel
theorem dX10_days_90 : decode cX10_days 90 = .ok (.aload_n 0, 1) := by decide +kernel
theorem dX10_days_91 : decode cX10_days 91 = .ok (.dup, 1) := by decide +kernel
theorem dX10_days_92 : decode cX10_days 92 = .ok (.getfield 218, 3) := by decide +kernel
theorem dX10_days_95 : decode cX10_days 95 = .ok (.aload_n 0, 1) := by decide +kernel
theorem dX10_days_96 : decode cX10_days 96 = .ok (.getfield 84, 3) := by decide +kernel
theorem dX10_days_99 : decode cX10_days 99 = .ok (.iload 4, 2) := by decide +kernel
theorem dX10_days_101 : decode cX10_days 101 = .ok (.iaload, 1) := by decide +kernel
theorem dX10_days_102 : decode cX10_days 102 = .ok (.aload_n 0, 1) := by decide +kernel
theorem dX10_days_103 : decode cX10_days 103 = .ok (.getfield 22, 3) := by decide +kernel
theorem dX10_days_106 : decode cX10_days 106 = .ok (.imul, 1) := by decide +kernel
theorem dX10_days_107 : decode cX10_days 107 = .ok (.iadd, 1) := by decide +kernel
theorem dX10_days_108 : decode cX10_days 108 = .ok (.putfield 218, 3) := by decide +kernel
theorem dX10_days_111 : decode cX10_days 111 = .ok (.iinc 4 1, 3) := by decide +kernel
theorem dX10_days_114 : decode cX10_days 114 = .ok (.goto (-31), 3) := by decide +kernel
theorem dX10_days_117 : decode cX10_days 117 = .ok (.aload_n 0, 1) := by decide +kernel
theorem dX10_days_118 : decode cX10_days 118 = .ok (.dup, 1) := by decide +kernel
theorem dX10_days_119 : decode cX10_days 119 = .ok (.getfield 157, 3) := by decide +kernel
theorem dX10_days_122 : decode cX10_days 122 = .ok (.iconst 1, 1) := by decide +kernel
theorem dX10_days_123 : decode cX10_days 123 = .ok (.iadd, 1) := by decide +kernel
theorem dX10_days_124 : decode cX10_days 124 = .ok (.putfield 157, 3) := by decide +kernel
theorem dX10_days_127 : decode cX10_days 127 = .ok (.iinc 3 1, 3) := by decide +kernel
theorem dX10_days_130 : decode cX10_days 130 = .ok (.goto (-104), 3) := by decide +kernel
theorem dX10_days_133 : decode cX10_days 133 = .ok (.aload_n 0, 1) := by decide +kernel
theorem dX10_days_134 : decode cX10_days 134 = .ok (.getfield 157, 3) := by decide +kernel
theorem dX10_days_137 : decode cX10_days 137 = .ok (.ireturn, 1) := by decide +kernel
theorem dX10_grows_0 : decode cX10_grows 0 = .ok (.aload_n 0, 1) := by decide +kernel
theorem dX10_grows_1 : decode cX10_grows 1 = .ok (.aload_n 0, 1) := by decide +kernel
theorem dX10_grows_2 : decode cX10_grows 2 = .ok (.getfield 157, 3) := by decide +kernel
theorem dX10_grows_5 : decode cX10_grows 5 = .ok (.iconst 0, 1) := by decide +kernel
theorem dX10_grows_6 : decode cX10_grows 6 = .ok (.invokevirtual 173, 3) := by decide +kernel
theorem dX10_grows_9 : decode cX10_grows 9 = .ok (.aload_n 0, 1) := by decide +kernel
theorem dX10_grows_10 : decode cX10_grows 10 = .ok (.getfield 19, 3) := by decide +kernel
theorem dX10_grows_13 : decode cX10_grows 13 = .ok (.iload_n 1, 1) := by decide +kernel
theorem dX10_grows_14 : decode cX10_grows 14 = .ok (.iaload, 1) := by decide +kernel
theorem dX10_grows_15 : decode cX10_grows 15 = .ok (.imul, 1) := by decide +kernel
theorem dX10_grows_16 : decode cX10_grows 16 = .ok (.istore_n 2, 1) := by decide +kernel
theorem dX10_grows_17 : decode cX10_grows 17 = .ok (.iconst 1, 1) := by decide +kernel
theorem dX10_grows_18 : decode cX10_grows 18 = .ok (.aload_n 0, 1) := by decide +kernel
theorem dX10_grows_19 : decode cX10_grows 19 = .ok (.aload_n 0, 1) := by decide +kernel
theorem dX10_grows_20 : decode cX10_grows 20 = .ok (.getfield 157, 3) := by decide +kernel
theorem dX10_grows_23 : decode cX10_grows 23 = .ok (.iconst 1, 1) := by decide +kernel
theorem dX10_grows_24 : decode cX10_grows 24 = .ok (.invokevirtual 173, 3) := by decide +kernel
theorem dX10_grows_27 : decode cX10_grows 27 = .ok (.bipush 15, 2) := by decide +kernel
theorem dX10_grows_29 : decode cX10_grows 29 = .ok (.if_icmp .lt 11, 3) := by decide +kernel
theorem dX10_grows_32 : decode cX10_grows 32 = .ok (.iload_n 2, 1) := by decide +kernel
theorem dX10_grows_33 : decode cX10_grows 33 = .ok (.iload_n 2, 1) := by decide +kernel
theorem dX10_grows_34 : decode cX10_grows 34 = .ok (.iconst 2, 1) := by decide +kernel
theorem dX10_grows_35 : decode cX10_grows 35 = .ok (.idiv, 1) := by decide +kernel
theorem dX10_grows_36 : decode cX10_grows 36 = .ok (.iadd, 1) := by decide +kernel
theorem dX10_grows_37 : decode cX10_grows 37 = .ok (.goto 4, 3) := by decide +kernel
theorem dX10_grows_40 : decode cX10_grows 40 = .ok (.iload_n 2, 1) := by decide +kernel
theorem dX10_grows_41 : decode cX10_grows 41 = .ok (.bipush 100, 2) := by decide +kernel
theorem dX10_grows_43 : decode cX10_grows 43 = .ok (.idiv, 1) := by decide +kernel
theorem dX10_grows_44 : decode cX10_grows 44 = .ok (.iadd, 1) := by decide +kernel
theorem dX10_grows_45 : decode cX10_grows 45 = .ok (.ireturn, 1) := by decide +kernel
theorem dX10_train_0 : decode cX10_train 0 = .ok (.iload_n 1, 1) := by decide +kernel
theorem dX10_train_1 : decode cX10_train 1 = .ok (.ifCond .lt 8, 3) := by decide +kernel
theorem dX10_train_4 : decode cX10_train 4 = .ok (.iload_n 2, 1) := by decide +kernel
theorem dX10_train_5 : decode cX10_train 5 = .ok (.iconst 1, 1) := by decide +kernel
theorem dX10_train_6 : decode cX10_train 6 = .ok (.if_icmp .ge 10, 3) := by decide +kernel
theorem dX10_train_9 : decode cX10_train 9 = .ok (.aload_n 0, 1) := by decide +kernel
theorem dX10_train_10 : decode cX10_train 10 = .ok (.bipush (-4), 2) := by decide +kernel
theorem dX10_train_12 : decode cX10_train 12 = .ok (.invokevirtual 149, 3) := by decide +kernel
theorem dX10_train_15 : decode cX10_train 15 = .ok (.ireturn, 1) := by decide +kernel
theorem dX10_train_16 : decode cX10_train 16 = .ok (.iload_n 1, 1) := by decide +kernel
theorem dX10_train_17 : decode cX10_train 17 = .ok (.sipush 1440, 3) := by decide +kernel
theorem dX10_train_20 : decode cX10_train 20 = .ok (.if_icmp .ge 18, 3) := by decide +kernel
theorem dX10_train_23 : decode cX10_train 23 = .ok (.iload_n 2, 1) := by decide +kernel
theorem dX10_train_24 : decode cX10_train 24 = .ok (.bipush 9, 2) := by decide +kernel
theorem dX10_train_26 : decode cX10_train 26 = .ok (.if_icmp .gt 12, 3) := by decide +kernel
theorem dX10_train_29 : decode cX10_train 29 = .ok (.aload_n 0, 1) := by decide +kernel
theorem dX10_train_30 : decode cX10_train 30 = .ok (.getfield 224, 3) := by decide +kernel
theorem dX10_train_33 : decode cX10_train 33 = .ok (.bipush 24, 2) := by decide +kernel
theorem dX10_train_35 : decode cX10_train 35 = .ok (.if_icmp .ne 10, 3) := by decide +kernel
theorem dX10_train_38 : decode cX10_train 38 = .ok (.aload_n 0, 1) := by decide +kernel
theorem dX10_train_39 : decode cX10_train 39 = .ok (.bipush (-6), 2) := by decide +kernel
theorem dX10_train_41 : decode cX10_train 41 = .ok (.invokevirtual 149, 3) := by decide +kernel
theorem dX10_train_44 : decode cX10_train 44 = .ok (.ireturn, 1) := by decide +kernel
theorem dX10_train_45 : decode cX10_train 45 = .ok (.aload_n 0, 1) := by decide +kernel
theorem dX10_train_46 : decode cX10_train 46 = .ok (.getfield 105, 3) := by decide +kernel
theorem dX10_train_49 : decode cX10_train 49 = .ok (.aload_n 0, 1) := by decide +kernel
theorem dX10_train_50 : decode cX10_train 50 = .ok (.getfield 224, 3) := by decide +kernel
theorem dX10_train_53 : decode cX10_train 53 = .ok (.iload_n 1, 1) := by decide +kernel
theorem dX10_train_54 : decode cX10_train 54 = .ok (.iastore, 1) := by decide +kernel
theorem dX10_train_55 : decode cX10_train 55 = .ok (.aload_n 0, 1) := by decide +kernel
theorem dX10_train_56 : decode cX10_train 56 = .ok (.getfield 108, 3) := by decide +kernel
theorem dX10_train_59 : decode cX10_train 59 = .ok (.aload_n 0, 1) := by decide +kernel
theorem dX10_train_60 : decode cX10_train 60 = .ok (.getfield 224, 3) := by decide +kernel
theorem dX10_train_63 : decode cX10_train 63 = .ok (.iload_n 2, 1) := by decide +kernel
theorem dX10_train_64 : decode cX10_train 64 = .ok (.iastore, 1) := by decide +kernel
theorem dX10_train_65 : decode cX10_train 65 = .ok (.aload_n 0, 1) := by decide +kernel
theorem dX10_train_66 : decode cX10_train 66 = .ok (.dup, 1) := by decide +kernel
theorem dX10_train_67 : decode cX10_train 67 = .ok (.getfield 224, 3) := by decide +kernel
theorem dX10_train_70 : decode cX10_train 70 = .ok (.iconst 1, 1) := by decide +kernel
theorem dX10_train_71 : decode cX10_train 71 = .ok (.iadd, 1) := by decide +kernel
theorem dX10_train_72 : decode cX10_train 72 = .ok (.putfield 224, 3) := by decide +kernel
theorem dX10_train_75 : decode cX10_train 75 = .ok (.aload_n 0, 1) := by decide +kernel
theorem dX10_train_76 : decode cX10_train 76 = .ok (.getfield 224, 3) := by decide +kernel
theorem dX10_train_79 : decode cX10_train 79 = .ok (.iconst 1, 1) := by decide +kernel
theorem dX10_train_80 : decode cX10_train 80 = .ok (.isub, 1) := by decide +kernel
theorem dX10_train_81 : decode cX10_train 81 = .ok (.ireturn, 1) := by decide +kernel
theorem dX10_isSafe_0 : decode cX10_isSafe 0 = .ok (.iload_n 1, 1) := by decide +kernel
theorem dX10_isSafe_1 : decode cX10_isSafe 1 = .ok (.istore 4, 2) := by decide +kernel
theorem dX10_isSafe_3 : decode cX10_isSafe 3 = .ok (.iload 4, 2) := by decide +kernel
theorem dX10_isSafe_5 : decode cX10_isSafe 5 = .ok (.iload_n 2, 1) := by decide +kernel
theorem dX10_isSafe_6 : decode cX10_isSafe 6 = .ok (.if_icmp .gt 85, 3) := by decide +kernel
theorem dX10_isSafe_9 : decode cX10_isSafe 9 = .ok (.iload_n 3, 1) := by decide +kernel
theorem dX10_isSafe_10 : decode cX10_isSafe 10 = .ok (.iload 4, 2) := by decide +kernel
theorem dX10_isSafe_12 : decode cX10_isSafe 12 = .ok (.iload_n 1, 1) := by decide +kernel
theorem dX10_isSafe_13 : decode cX10_isSafe 13 = .ok (.isub, 1) := by decide +kernel
theorem dX10_isSafe_14 : decode cX10_isSafe 14 = .ok (.aload_n 0, 1) := by decide +kernel
theorem dX10_isSafe_15 : decode cX10_isSafe 15 = .ok (.getfield 26, 3) := by decide +kernel
theorem dX10_isSafe_18 : decode cX10_isSafe 18 = .ok (.imul, 1) := by decide +kernel
theorem dX10_isSafe_19 : decode cX10_isSafe 19 = .ok (.iadd, 1) := by decide +kernel
theorem dX10_isSafe_20 : decode cX10_isSafe 20 = .ok (.istore 5, 2) := by decide +kernel
theorem dX10_isSafe_22 : decode cX10_isSafe 22 = .ok (.iconst 0, 1) := by decide +kernel
theorem dX10_isSafe_23 : decode cX10_isSafe 23 = .ok (.istore 6, 2) := by decide +kernel
theorem dX10_isSafe_25 : decode cX10_isSafe 25 = .ok (.iload 6, 2) := by decide +kernel
theorem dX10_isSafe_27 : decode cX10_isSafe 27 = .ok (.aload_n 0, 1) := by decide +kernel
theorem dX10_isSafe_28 : decode cX10_isSafe 28 = .ok (.getfield 224, 3) := by decide +kernel
theorem dX10_isSafe_31 : decode cX10_isSafe 31 = .ok (.if_icmp .ge 54, 3) := by decide +kernel
theorem dX10_isSafe_34 : decode cX10_isSafe 34 = .ok (.aload_n 0, 1) := by decide +kernel
theorem dX10_isSafe_35 : decode cX10_isSafe 35 = .ok (.getfield 105, 3) := by decide +kernel
theorem dX10_isSafe_38 : decode cX10_isSafe 38 = .ok (.iload 6, 2) := by decide +kernel
theorem dX10_isSafe_40 : decode cX10_isSafe 40 = .ok (.iaload, 1) := by decide +kernel
theorem dX10_isSafe_41 : decode cX10_isSafe 41 = .ok (.aload_n 0, 1) := by decide +kernel
theorem dX10_isSafe_42 : decode cX10_isSafe 42 = .ok (.getfield 108, 3) := by decide +kernel
theorem dX10_isSafe_45 : decode cX10_isSafe 45 = .ok (.iload 6, 2) := by decide +kernel
theorem dX10_isSafe_47 : decode cX10_isSafe 47 = .ok (.iaload, 1) := by decide +kernel
theorem dX10_isSafe_48 : decode cX10_isSafe 48 = .ok (.iload 4, 2) := by decide +kernel
theorem dX10_isSafe_50 : decode cX10_isSafe 50 = .ok (.imul, 1) := by decide +kernel
theorem dX10_isSafe_51 : decode cX10_isSafe 51 = .ok (.iadd, 1) := by decide +kernel
theorem dX10_isSafe_52 : decode cX10_isSafe 52 = .ok (.istore 7, 2) := by decide +kernel
theorem dX10_isSafe_54 : decode cX10_isSafe 54 = .ok (.iload 7, 2) := by decide +kernel
theorem dX10_isSafe_56 : decode cX10_isSafe 56 = .ok (.iload 5, 2) := by decide +kernel
theorem dX10_isSafe_58 : decode cX10_isSafe 58 = .ok (.iconst 5, 1) := by decide +kernel
theorem dX10_isSafe_59 : decode cX10_isSafe 59 = .ok (.isub, 1) := by decide +kernel
theorem dX10_isSafe_60 : decode cX10_isSafe 60 = .ok (.if_icmp .lt 19, 3) := by decide +kernel
theorem dX10_isSafe_63 : decode cX10_isSafe 63 = .ok (.iload 7, 2) := by decide +kernel
theorem dX10_isSafe_65 : decode cX10_isSafe 65 = .ok (.iload 5, 2) := by decide +kernel
theorem dX10_isSafe_67 : decode cX10_isSafe 67 = .ok (.aload_n 0, 1) := by decide +kernel
theorem dX10_isSafe_68 : decode cX10_isSafe 68 = .ok (.getfield 26, 3) := by decide +kernel
theorem dX10_isSafe_71 : decode cX10_isSafe 71 = .ok (.iadd, 1) := by decide +kernel
theorem dX10_isSafe_72 : decode cX10_isSafe 72 = .ok (.iconst 4, 1) := by decide +kernel
theorem dX10_isSafe_73 : decode cX10_isSafe 73 = .ok (.iadd, 1) := by decide +kernel
theorem dX10_isSafe_74 : decode cX10_isSafe 74 = .ok (.if_icmp .gt 5, 3) := by decide +kernel
theorem dX10_isSafe_77 : decode cX10_isSafe 77 = .ok (.iconst 0, 1) := by decide +kernel
theorem dX10_isSafe_78 : decode cX10_isSafe 78 = .ok (.ireturn, 1) := by decide +kernel
theorem dX10_isSafe_79 : decode cX10_isSafe 79 = .ok (.iinc 6 1, 3) := by decide +kernel
theorem dX10_isSafe_82 : decode cX10_isSafe 82 = .ok (.goto (-57), 3) := by decide +kernel
theorem dX10_isSafe_85 : decode cX10_isSafe 85 = .ok (.iinc 4 1, 3) := by decide +kernel
theorem dX10_isSafe_88 : decode cX10_isSafe 88 = .ok (.goto (-85), 3) := by decide +kernel
theorem dX10_isSafe_91 : decode cX10_isSafe 91 = .ok (.iconst 1, 1) := by decide +kernel
theorem dX10_isSafe_92 : decode cX10_isSafe 92 = .ok (.ireturn, 1) := by decide +kernel
theorem dX10_wrongWalk_0 : decode cX10_wrongWalk 0 = .ok (.iload_n 0, 1) := by decide +kernel
theorem dX10_wrongWalk_1 : decode cX10_wrongWalk 1 = .ok (.invokestatic 179, 3) := by decide +kernel
theorem dX10_wrongWalk_4 : decode cX10_wrongWalk 4 = .ok (.ifCond .eq 15, 3) := by decide +kernel
theorem dX10_wrongWalk_7 : decode cX10_wrongWalk 7 = .ok (.iload_n 1, 1) := by decide +kernel
theorem dX10_wrongWalk_8 : decode cX10_wrongWalk 8 = .ok (.invokestatic 179, 3) := by decide +kernel
theorem dX10_wrongWalk_11 : decode cX10_wrongWalk 11 = .ok (.ifCond .eq 8, 3) := by decide +kernel
theorem dX10_wrongWalk_14 : decode cX10_wrongWalk 14 = .ok (.iload_n 0, 1) := by decide +kernel
theorem dX10_wrongWalk_15 : decode cX10_wrongWalk 15 = .ok (.iload_n 1, 1) := by decide +kernel
theorem dX10_wrongWalk_16 : decode cX10_wrongWalk 16 = .ok (.if_icmp .le 7, 3) := by decide +kernel
theorem dX10_wrongWalk_19 : decode cX10_wrongWalk 19 = .ok (.iconst (-1), 1) := by decide +kernel
theorem dX10_wrongWalk_20 : decode cX10_wrongWalk 20 = .ok (.goto 11, 3) := by decide +kernel
theorem dX10_wrongWalk_23 : decode cX10_wrongWalk 23 = .ok (.iload_n 2, 1) := by decide +kernel
theorem dX10_wrongWalk_24 : decode cX10_wrongWalk 24 = .ok (.iconst 0, 1) := by decide +kernel
theorem dX10_wrongWalk_25 : decode cX10_wrongWalk 25 = .ok (.sipush 1439, 3) := by decide +kernel
theorem dX10_wrongWalk_28 : decode cX10_wrongWalk 28 = .ok (.invokestatic 160, 3) := by decide +kernel
theorem dX10_wrongWalk_31 : decode cX10_wrongWalk 31 = .ok (.ireturn, 1) := by decide +kernel
theorem dX10_safe_0 : decode cX10_safe 0 = .ok (.iload_n 1, 1) := by decide +kernel
theorem dX10_safe_1 : decode cX10_safe 1 = .ok (.iload_n 2, 1) := by decide +kernel
theorem dX10_safe_2 : decode cX10_safe 2 = .ok (.iload_n 3, 1) := by decide +kernel
theorem dX10_safe_3 : decode cX10_safe 3 = .ok (.invokestatic 227, 3) := by decide +kernel
theorem dX10_safe_6 : decode cX10_safe 6 = .ok (.istore 4, 2) := by decide +kernel
theorem dX10_safe_8 : decode cX10_safe 8 = .ok (.iload 4, 2) := by decide +kernel
theorem dX10_safe_10 : decode cX10_safe 10 = .ok (.ifCond .eq 12, 3) := by decide +kernel
theorem dX10_safe_13 : decode cX10_safe 13 = .ok (.aload_n 0, 1) := by decide +kernel
theorem dX10_safe_14 : decode cX10_safe 14 = .ok (.iload 4, 2) := by decide +kernel
theorem dX10_safe_16 : decode cX10_safe 16 = .ok (.invokevirtual 149, 3) := by decide +kernel
theorem dX10_safe_19 : decode cX10_safe 19 = .ok (.goto 18, 3) := by decide +kernel
theorem dX10_safe_22 : decode cX10_safe 22 = .ok (.aload_n 0, 1) := by decide +kernel
theorem dX10_safe_23 : decode cX10_safe 23 = .ok (.iload_n 1, 1) := by decide +kernel
theorem dX10_safe_24 : decode cX10_safe 24 = .ok (.iload_n 2, 1) := by decide +kernel
theorem dX10_safe_25 : decode cX10_safe 25 = .ok (.iload_n 3, 1) := by decide +kernel
theorem dX10_safe_26 : decode cX10_safe 26 = .ok (.invokevirtual 230, 3) := by decide +kernel
theorem dX10_safe_29 : decode cX10_safe 29 = .ok (.ifCond .eq 7, 3) := by decide +kernel
theorem dX10_safe_32 : decode cX10_safe 32 = .ok (.iconst 1, 1) := by decide +kernel
theorem dX10_safe_33 : decode cX10_safe 33 = .ok (.goto 4, 3) := by decide +kernel
theorem dX10_safe_36 : decode cX10_safe 36 = .ok (.iconst 0, 1) := by decide +kernel
theorem dX10_safe_37 : decode cX10_safe 37 = .ok (.ireturn, 1) := by decide +kernel
theorem dX10_first_0 : decode cX10_first 0 = .ok (.iload_n 1, 1) := by decide +kernel
theorem dX10_first_1 : decode cX10_first 1 = .ok (.iload_n 2, 1) := by decide +kernel
theorem dX10_first_2 : decode cX10_first 2 = .ok (.iload_n 3, 1) := by decide +kernel
theorem dX10_first_3 : decode cX10_first 3 = .ok (.invokestatic 227, 3) := by decide +kernel
theorem dX10_first_6 : decode cX10_first 6 = .ok (.istore 4, 2) := by decide +kernel
theorem dX10_first_8 : decode cX10_first 8 = .ok (.iload 4, 2) := by decide +kernel
theorem dX10_first_10 : decode cX10_first 10 = .ok (.ifCond .eq 10, 3) := by decide +kernel
theorem dX10_first_13 : decode cX10_first 13 = .ok (.aload_n 0, 1) := by decide +kernel
theorem dX10_first_14 : decode cX10_first 14 = .ok (.iload 4, 2) := by decide +kernel
theorem dX10_first_16 : decode cX10_first 16 = .ok (.invokevirtual 149, 3) := by decide +kernel
theorem dX10_first_19 : decode cX10_first 19 = .ok (.ireturn, 1) := by decide +kernel
theorem dX10_first_20 : decode cX10_first 20 = .ok (.iload_n 3, 1) := by decide +kernel
theorem dX10_first_21 : decode cX10_first 21 = .ok (.istore 5, 2) := by decide +kernel
theorem dX10_first_23 : decode cX10_first 23 = .ok (.iload 5, 2) := by decide +kernel
theorem dX10_first_25 : decode cX10_first 25 = .ok (.iload_n 2, 1) := by decide +kernel
theorem dX10_first_26 : decode cX10_first 26 = .ok (.iload_n 1, 1) := by decide +kernel
theorem dX10_first_27 : decode cX10_first 27 = .ok (.isub, 1) := by decide +kernel
theorem dX10_first_28 : decode cX10_first 28 = .ok (.iconst 1, 1) := by decide +kernel
theorem dX10_first_29 : decode cX10_first 29 = .ok (.iadd, 1) := by decide +kernel
theorem dX10_first_30 : decode cX10_first 30 = .ok (.aload_n 0, 1) := by decide +kernel
theorem dX10_first_31 : decode cX10_first 31 = .ok (.getfield 26, 3) := by decide +kernel
theorem dX10_first_34 : decode cX10_first 34 = .ok (.imul, 1) := by decide +kernel
theorem dX10_first_35 : decode cX10_first 35 = .ok (.iadd, 1) := by decide +kernel
theorem dX10_first_36 : decode cX10_first 36 = .ok (.sipush 1440, 3) := by decide +kernel
theorem dX10_first_39 : decode cX10_first 39 = .ok (.if_icmp .gt 23, 3) := by decide +kernel
theorem dX10_first_42 : decode cX10_first 42 = .ok (.aload_n 0, 1) := by decide +kernel
theorem dX10_first_43 : decode cX10_first 43 = .ok (.iload_n 1, 1) := by decide +kernel
theorem dX10_first_44 : decode cX10_first 44 = .ok (.iload_n 2, 1) := by decide +kernel
theorem dX10_first_45 : decode cX10_first 45 = .ok (.iload 5, 2) := by decide +kernel
theorem dX10_first_47 : decode cX10_first 47 = .ok (.invokevirtual 230, 3) := by decide +kernel
theorem dX10_first_50 : decode cX10_first 50 = .ok (.ifCond .eq 6, 3) := by decide +kernel
theorem dX10_first_53 : decode cX10_first 53 = .ok (.iload 5, 2) := by decide +kernel
theorem dX10_first_55 : decode cX10_first 55 = .ok (.ireturn, 1) := by decide +kernel
theorem dX10_first_56 : decode cX10_first 56 = .ok (.iinc 5 1, 3) := by decide +kernel
theorem dX10_first_59 : decode cX10_first 59 = .ok (.goto (-36), 3) := by decide +kernel
theorem dX10_first_62 : decode cX10_first 62 = .ok (.bipush (-9), 2) := by decide +kernel
theorem dX10_first_64 : decode cX10_first 64 = .ok (.ireturn, 1) := by decide +kernel
theorem dX10_walked_0 : decode cX10_walked 0 = .ok (.iload_n 1, 1) := by decide +kernel
theorem dX10_walked_1 : decode cX10_walked 1 = .ok (.iload_n 2, 1) := by decide +kernel
theorem dX10_walked_2 : decode cX10_walked 2 = .ok (.iconst 0, 1) := by decide +kernel
theorem dX10_walked_3 : decode cX10_walked 3 = .ok (.invokestatic 227, 3) := by decide +kernel
theorem dX10_walked_6 : decode cX10_walked 6 = .ok (.istore_n 3, 1) := by decide +kernel
theorem dX10_walked_7 : decode cX10_walked 7 = .ok (.iload_n 3, 1) := by decide +kernel
theorem dX10_walked_8 : decode cX10_walked 8 = .ok (.ifCond .eq 9, 3) := by decide +kernel
theorem dX10_walked_11 : decode cX10_walked 11 = .ok (.aload_n 0, 1) := by decide +kernel
theorem dX10_walked_12 : decode cX10_walked 12 = .ok (.iload_n 3, 1) := by decide +kernel
theorem dX10_walked_13 : decode cX10_walked 13 = .ok (.invokevirtual 149, 3) := by decide +kernel
theorem dX10_walked_16 : decode cX10_walked 16 = .ok (.ireturn, 1) := by decide +kernel
theorem dX10_walked_17 : decode cX10_walked 17 = .ok (.iload_n 1, 1) := by decide +kernel
theorem dX10_walked_18 : decode cX10_walked 18 = .ok (.istore 4, 2) := by decide +kernel
theorem dX10_walked_20 : decode cX10_walked 20 = .ok (.iload 4, 2) := by decide +kernel
theorem dX10_walked_22 : decode cX10_walked 22 = .ok (.iload_n 2, 1) := by decide +kernel
theorem dX10_walked_23 : decode cX10_walked 23 = .ok (.if_icmp .gt 20, 3) := by decide +kernel
theorem dX10_walked_26 : decode cX10_walked 26 = .ok (.aload_n 0, 1) := by decide +kernel
theorem dX10_walked_27 : decode cX10_walked 27 = .ok (.getfield 87, 3) := by decide +kernel
theorem dX10_walked_30 : decode cX10_walked 30 = .ok (.iload 4, 2) := by decide +kernel
theorem dX10_walked_32 : decode cX10_walked 32 = .ok (.aload_n 0, 1) := by decide +kernel
theorem dX10_walked_33 : decode cX10_walked 33 = .ok (.getfield 157, 3) := by decide +kernel
theorem dX10_walked_36 : decode cX10_walked 36 = .ok (.iastore, 1) := by decide +kernel
theorem dX10_walked_37 : decode cX10_walked 37 = .ok (.iinc 4 1, 3) := by decide +kernel
theorem dX10_walked_40 : decode cX10_walked 40 = .ok (.goto (-20), 3) := by decide +kernel
theorem dX10_walked_43 : decode cX10_walked 43 = .ok (.iload_n 2, 1) := by decide +kernel
theorem dX10_walked_44 : decode cX10_walked 44 = .ok (.iload_n 1, 1) := by decide +kernel
theorem dX10_walked_45 : decode cX10_walked 45 = .ok (.isub, 1) := by decide +kernel
theorem dX10_walked_46 : decode cX10_walked 46 = .ok (.iconst 1, 1) := by decide +kernel
theorem dX10_walked_47 : decode cX10_walked 47 = .ok (.iadd, 1) := by decide +kernel
theorem dX10_walked_48 : decode cX10_walked 48 = .ok (.ireturn, 1) := by decide +kernel
theorem dX10_riskOf_0 : decode cX10_riskOf 0 = .ok (.iconst 0, 1) := by decide +kernel
theorem dX10_riskOf_1 : decode cX10_riskOf 1 = .ok (.istore_n 2, 1) := by decide +kernel
theorem dX10_riskOf_2 : decode cX10_riskOf 2 = .ok (.iconst 0, 1) := by decide +kernel
theorem dX10_riskOf_3 : decode cX10_riskOf 3 = .ok (.istore_n 3, 1) := by decide +kernel
theorem dX10_riskOf_4 : decode cX10_riskOf 4 = .ok (.iload_n 3, 1) := by decide +kernel
theorem dX10_riskOf_5 : decode cX10_riskOf 5 = .ok (.aload_n 0, 1) := by decide +kernel
theorem dX10_riskOf_6 : decode cX10_riskOf 6 = .ok (.getfield 176, 3) := by decide +kernel
theorem dX10_riskOf_9 : decode cX10_riskOf 9 = .ok (.if_icmp .ge 36, 3) := by decide +kernel
theorem dX10_riskOf_12 : decode cX10_riskOf 12 = .ok (.iload_n 2, 1) := by decide +kernel
theorem dX10_riskOf_13 : decode cX10_riskOf 13 = .ok (.aload_n 0, 1) := by decide +kernel
theorem dX10_riskOf_14 : decode cX10_riskOf 14 = .ok (.getfield 56, 3) := by decide +kernel
theorem dX10_riskOf_17 : decode cX10_riskOf 17 = .ok (.iload_n 3, 1) := by decide +kernel
theorem dX10_riskOf_18 : decode cX10_riskOf 18 = .ok (.baload, 1) := by decide +kernel
theorem dX10_riskOf_19 : decode cX10_riskOf 19 = .ok (.ifCond .eq 17, 3) := by decide +kernel
theorem dX10_riskOf_22 : decode cX10_riskOf 22 = .ok (.aload_n 0, 1) := by decide +kernel
theorem dX10_riskOf_23 : decode cX10_riskOf 23 = .ok (.getfield 35, 3) := by decide +kernel
theorem dX10_riskOf_26 : decode cX10_riskOf 26 = .ok (.iload_n 3, 1) := by decide +kernel
theorem dX10_riskOf_27 : decode cX10_riskOf 27 = .ok (.iaload, 1) := by decide +kernel
theorem dX10_riskOf_28 : decode cX10_riskOf 28 = .ok (.iload_n 1, 1) := by decide +kernel
theorem dX10_riskOf_29 : decode cX10_riskOf 29 = .ok (.if_icmp .ne 7, 3) := by decide +kernel
theorem dX10_riskOf_32 : decode cX10_riskOf 32 = .ok (.iconst 1, 1) := by decide +kernel
theorem dX10_riskOf_33 : decode cX10_riskOf 33 = .ok (.goto 4, 3) := by decide +kernel
theorem dX10_riskOf_36 : decode cX10_riskOf 36 = .ok (.iconst 0, 1) := by decide +kernel
theorem dX10_riskOf_37 : decode cX10_riskOf 37 = .ok (.iadd, 1) := by decide +kernel
theorem dX10_riskOf_38 : decode cX10_riskOf 38 = .ok (.istore_n 2, 1) := by decide +kernel
theorem dX10_riskOf_39 : decode cX10_riskOf 39 = .ok (.iinc 3 1, 3) := by decide +kernel
theorem dX10_riskOf_42 : decode cX10_riskOf 42 = .ok (.goto (-38), 3) := by decide +kernel
theorem dX10_riskOf_45 : decode cX10_riskOf 45 = .ok (.aload_n 0, 1) := by decide +kernel
theorem dX10_riskOf_46 : decode cX10_riskOf 46 = .ok (.getfield 157, 3) := by decide +kernel
theorem dX10_riskOf_49 : decode cX10_riskOf 49 = .ok (.aload_n 0, 1) := by decide +kernel
theorem dX10_riskOf_50 : decode cX10_riskOf 50 = .ok (.getfield 87, 3) := by decide +kernel
theorem dX10_riskOf_53 : decode cX10_riskOf 53 = .ok (.iload_n 1, 1) := by decide +kernel
theorem dX10_riskOf_54 : decode cX10_riskOf 54 = .ok (.iaload, 1) := by decide +kernel
theorem dX10_riskOf_55 : decode cX10_riskOf 55 = .ok (.isub, 1) := by decide +kernel
theorem dX10_riskOf_56 : decode cX10_riskOf 56 = .ok (.iconst 1, 1) := by decide +kernel
theorem dX10_riskOf_57 : decode cX10_riskOf 57 = .ok (.iload_n 2, 1) := by decide +kernel
theorem dX10_riskOf_58 : decode cX10_riskOf 58 = .ok (.iadd, 1) := by decide +kernel
theorem dX10_riskOf_59 : decode cX10_riskOf 59 = .ok (.imul, 1) := by decide +kernel
theorem dX10_riskOf_60 : decode cX10_riskOf 60 = .ok (.ireturn, 1) := by decide +kernel
theorem dX10_risk_0 : decode cX10_risk 0 = .ok (.iload_n 1, 1) := by decide +kernel
theorem dX10_risk_1 : decode cX10_risk 1 = .ok (.invokestatic 179, 3) := by decide +kernel
theorem dX10_risk_4 : decode cX10_risk 4 = .ok (.ifCond .eq 11, 3) := by decide +kernel
theorem dX10_risk_7 : decode cX10_risk 7 = .ok (.aload_n 0, 1) := by decide +kernel
theorem dX10_risk_8 : decode cX10_risk 8 = .ok (.iload_n 1, 1) := by decide +kernel
theorem dX10_risk_9 : decode cX10_risk 9 = .ok (.invokevirtual 233, 3) := by decide +kernel
theorem dX10_risk_12 : decode cX10_risk 12 = .ok (.goto 8, 3) := by decide +kernel
theorem dX10_risk_15 : decode cX10_risk 15 = .ok (.aload_n 0, 1) := by decide +kernel
theorem dX10_risk_16 : decode cX10_risk 16 = .ok (.iconst (-1), 1) := by decide +kernel
theorem dX10_risk_17 : decode cX10_risk 17 = .ok (.invokevirtual 149, 3) := by decide +kernel
theorem dX10_risk_20 : decode cX10_risk 20 = .ok (.ireturn, 1) := by decide +kernel
theorem dX10_riskFrom_0 : decode cX10_riskFrom 0 = .ok (.iconst 0, 1) := by decide +kernel
theorem dX10_riskFrom_1 : decode cX10_riskFrom 1 = .ok (.istore_n 3, 1) := by decide +kernel
theorem dX10_riskFrom_2 : decode cX10_riskFrom 2 = .ok (.iload_n 1, 1) := by decide +kernel
theorem dX10_riskFrom_3 : decode cX10_riskFrom 3 = .ok (.istore 4, 2) := by decide +kernel
theorem dX10_riskFrom_5 : decode cX10_riskFrom 5 = .ok (.iload 4, 2) := by decide +kernel
theorem dX10_riskFrom_7 : decode cX10_riskFrom 7 = .ok (.iload_n 1, 1) := by decide +kernel
theorem dX10_riskFrom_8 : decode cX10_riskFrom 8 = .ok (.iload_n 2, 1) := by decide +kernel
theorem dX10_riskFrom_9 : decode cX10_riskFrom 9 = .ok (.iadd, 1) := by decide +kernel
theorem dX10_riskFrom_10 : decode cX10_riskFrom 10 = .ok (.if_icmp .ge 18, 3) := by decide +kernel
theorem dX10_riskFrom_13 : decode cX10_riskFrom 13 = .ok (.iload_n 3, 1) := by decide +kernel
theorem dX10_riskFrom_14 : decode cX10_riskFrom 14 = .ok (.aload_n 0, 1) := by decide +kernel
theorem dX10_riskFrom_15 : decode cX10_riskFrom 15 = .ok (.iload 4, 2) := by decide +kernel
theorem dX10_riskFrom_17 : decode cX10_riskFrom 17 = .ok (.invokevirtual 233, 3) := by decide +kernel
theorem dX10_riskFrom_20 : decode cX10_riskFrom 20 = .ok (.iadd, 1) := by decide +kernel
theorem dX10_riskFrom_21 : decode cX10_riskFrom 21 = .ok (.istore_n 3, 1) := by decide +kernel
theorem dX10_riskFrom_22 : decode cX10_riskFrom 22 = .ok (.iinc 4 1, 3) := by decide +kernel
theorem dX10_riskFrom_25 : decode cX10_riskFrom 25 = .ok (.goto (-20), 3) := by decide +kernel
theorem dX10_riskFrom_28 : decode cX10_riskFrom 28 = .ok (.iload_n 3, 1) := by decide +kernel
theorem dX10_riskFrom_29 : decode cX10_riskFrom 29 = .ok (.ireturn, 1) := by decide +kernel
theorem dX10_walks_0 : decode cX10_walks 0 = .ok (.iload_n 2, 1) := by decide +kernel
theorem dX10_walks_1 : decode cX10_walks 1 = .ok (.iconst 3, 1) := by decide +kernel
theorem dX10_walks_2 : decode cX10_walks 2 = .ok (.invokestatic 153, 3) := by decide +kernel
theorem dX10_walks_5 : decode cX10_walks 5 = .ok (.ifCond .eq 13, 3) := by decide +kernel
theorem dX10_walks_8 : decode cX10_walks 8 = .ok (.iload_n 1, 1) := by decide +kernel
theorem dX10_walks_9 : decode cX10_walks 9 = .ok (.iconst 1, 1) := by decide +kernel
theorem dX10_walks_10 : decode cX10_walks 10 = .ok (.bipush 10, 2) := by decide +kernel
theorem dX10_walks_12 : decode cX10_walks 12 = .ok (.invokestatic 160, 3) := by decide +kernel
theorem dX10_walks_15 : decode cX10_walks 15 = .ok (.goto 5, 3) := by decide +kernel
theorem dX10_walks_18 : decode cX10_walks 18 = .ok (.bipush (-2), 2) := by decide +kernel
theorem dX10_walks_20 : decode cX10_walks 20 = .ok (.istore_n 3, 1) := by decide +kernel
theorem dX10_walks_21 : decode cX10_walks 21 = .ok (.iload_n 3, 1) := by decide +kernel
theorem dX10_walks_22 : decode cX10_walks 22 = .ok (.ifCond .eq 9, 3) := by decide +kernel
theorem dX10_walks_25 : decode cX10_walks 25 = .ok (.aload_n 0, 1) := by decide +kernel
theorem dX10_walks_26 : decode cX10_walks 26 = .ok (.iload_n 3, 1) := by decide +kernel
theorem dX10_walks_27 : decode cX10_walks 27 = .ok (.invokevirtual 149, 3) := by decide +kernel
theorem dX10_walks_30 : decode cX10_walks 30 = .ok (.ireturn, 1) := by decide +kernel
theorem dX10_walks_31 : decode cX10_walks 31 = .ok (.iconst (-1), 1) := by decide +kernel
theorem dX10_walks_32 : decode cX10_walks 32 = .ok (.istore 4, 2) := by decide +kernel
theorem dX10_walks_34 : decode cX10_walks 34 = .ok (.iconst 0, 1) := by decide +kernel
theorem dX10_walks_35 : decode cX10_walks 35 = .ok (.istore 5, 2) := by decide +kernel
theorem dX10_walks_37 : decode cX10_walks 37 = .ok (.iconst 0, 1) := by decide +kernel
theorem dX10_walks_38 : decode cX10_walks 38 = .ok (.istore 6, 2) := by decide +kernel
theorem dX10_walks_40 : decode cX10_walks 40 = .ok (.iconst 0, 1) := by decide +kernel
theorem dX10_walks_41 : decode cX10_walks 41 = .ok (.istore 7, 2) := by decide +kernel
theorem dX10_walks_43 : decode cX10_walks 43 = .ok (.iload 7, 2) := by decide +kernel
theorem dX10_walks_45 : decode cX10_walks 45 = .ok (.iconst 2, 1) := by decide +kernel
theorem dX10_walks_46 : decode cX10_walks 46 = .ok (.iload_n 1, 1) := by decide +kernel
theorem dX10_walks_47 : decode cX10_walks 47 = .ok (.imul, 1) := by decide +kernel
theorem dX10_walks_48 : decode cX10_walks 48 = .ok (.iadd, 1) := by decide +kernel
theorem dX10_walks_49 : decode cX10_walks 49 = .ok (.bipush 20, 2) := by decide +kernel
theorem dX10_walks_51 : decode cX10_walks 51 = .ok (.if_icmp .gt 69, 3) := by decide +kernel
theorem dX10_walks_54 : decode cX10_walks 54 = .ok (.iload 7, 2) := by decide +kernel
theorem dX10_walks_56 : decode cX10_walks 56 = .ok (.iload_n 1, 1) := by decide +kernel
theorem dX10_walks_57 : decode cX10_walks 57 = .ok (.iadd, 1) := by decide +kernel
theorem dX10_walks_58 : decode cX10_walks 58 = .ok (.istore 8, 2) := by decide +kernel
theorem dX10_walks_60 : decode cX10_walks 60 = .ok (.iload 8, 2) := by decide +kernel
theorem dX10_walks_62 : decode cX10_walks 62 = .ok (.iload_n 1, 1) := by decide +kernel
theorem dX10_walks_63 : decode cX10_walks 63 = .ok (.iadd, 1) := by decide +kernel
theorem dX10_walks_64 : decode cX10_walks 64 = .ok (.bipush 20, 2) := by decide +kernel
theorem dX10_walks_66 : decode cX10_walks 66 = .ok (.if_icmp .gt 48, 3) := by decide +kernel
theorem dX10_walks_69 : decode cX10_walks 69 = .ok (.aload_n 0, 1) := by decide +kernel
theorem dX10_walks_70 : decode cX10_walks 70 = .ok (.iload 7, 2) := by decide +kernel
theorem dX10_walks_72 : decode cX10_walks 72 = .ok (.iload_n 1, 1) := by decide +kernel
theorem dX10_walks_73 : decode cX10_walks 73 = .ok (.invokevirtual 236, 3) := by decide +kernel
theorem dX10_walks_76 : decode cX10_walks 76 = .ok (.aload_n 0, 1) := by decide +kernel
theorem dX10_walks_77 : decode cX10_walks 77 = .ok (.iload 8, 2) := by decide +kernel
theorem dX10_walks_79 : decode cX10_walks 79 = .ok (.iload_n 1, 1) := by decide +kernel
theorem dX10_walks_80 : decode cX10_walks 80 = .ok (.invokevirtual 236, 3) := by decide +kernel
theorem dX10_walks_83 : decode cX10_walks 83 = .ok (.iadd, 1) := by decide +kernel
theorem dX10_walks_84 : decode cX10_walks 84 = .ok (.istore 9, 2) := by decide +kernel
theorem dX10_walks_86 : decode cX10_walks 86 = .ok (.iload 9, 2) := by decide +kernel
theorem dX10_walks_88 : decode cX10_walks 88 = .ok (.iload 4, 2) := by decide +kernel
theorem dX10_walks_90 : decode cX10_walks 90 = .ok (.if_icmp .gt 6, 3) := by decide +kernel
theorem dX10_walks_93 : decode cX10_walks 93 = .ok (.goto 15, 3) := by decide +kernel
theorem dX10_walks_96 : decode cX10_walks 96 = .ok (.iload 9, 2) := by decide +kernel
theorem dX10_walks_98 : decode cX10_walks 98 = .ok (.istore 4, 2) := by decide +kernel
theorem dX10_walks_100 : decode cX10_walks 100 = .ok (.iload 7, 2) := by decide +kernel
theorem dX10_walks_102 : decode cX10_walks 102 = .ok (.istore 5, 2) := by decide +kernel
theorem dX10_walks_104 : decode cX10_walks 104 = .ok (.iload 8, 2) := by decide +kernel
theorem dX10_walks_106 : decode cX10_walks 106 = .ok (.istore 6, 2) := by decide +kernel
theorem dX10_walks_108 : decode cX10_walks 108 = .ok (.iinc 8 1, 3) := by decide +kernel
theorem dX10_walks_111 : decode cX10_walks 111 = .ok (.goto (-51), 3) := by decide +kernel
theorem dX10_walks_114 : decode cX10_walks 114 = .ok (.iinc 7 1, 3) := by decide +kernel
theorem dX10_walks_117 : decode cX10_walks 117 = .ok (.goto (-74), 3) := by decide +kernel
theorem dX10_walks_120 : decode cX10_walks 120 = .ok (.iload_n 2, 1) := by decide +kernel
theorem dX10_walks_121 : decode cX10_walks 121 = .ok (.ifCond .ne 8, 3) := by decide +kernel
theorem dX10_walks_124 : decode cX10_walks 124 = .ok (.iload 4, 2) := by decide +kernel
theorem dX10_walks_126 : decode cX10_walks 126 = .ok (.goto 15, 3) := by decide +kernel
theorem dX10_walks_129 : decode cX10_walks 129 = .ok (.iload_n 2, 1) := by decide +kernel
theorem dX10_walks_130 : decode cX10_walks 130 = .ok (.iconst 1, 1) := by decide +kernel
theorem dX10_walks_131 : decode cX10_walks 131 = .ok (.if_icmp .ne 8, 3) := by decide +kernel
theorem dX10_walks_134 : decode cX10_walks 134 = .ok (.iload 5, 2) := by decide +kernel
theorem dX10_walks_136 : decode cX10_walks 136 = .ok (.goto 5, 3) := by decide +kernel
theorem dX10_walks_139 : decode cX10_walks 139 = .ok (.iload 6, 2) := by decide +kernel
theorem dX10_walks_141 : decode cX10_walks 141 = .ok (.ireturn, 1) := by decide +kernel
theorem dX10_doubles_0 : decode cX10_doubles 0 = .ok (.iload_n 1, 1) := by decide +kernel
theorem dX10_doubles_1 : decode cX10_doubles 1 = .ok (.invokestatic 179, 3) := by decide +kernel
theorem dX10_doubles_4 : decode cX10_doubles 4 = .ok (.ifCond .ne 9, 3) := by decide +kernel
theorem dX10_doubles_7 : decode cX10_doubles 7 = .ok (.aload_n 0, 1) := by decide +kernel
theorem dX10_doubles_8 : decode cX10_doubles 8 = .ok (.iconst (-1), 1) := by decide +kernel
theorem dX10_doubles_9 : decode cX10_doubles 9 = .ok (.invokevirtual 149, 3) := by decide +kernel
theorem dX10_doubles_12 : decode cX10_doubles 12 = .ok (.ireturn, 1) := by decide +kernel
theorem dX10_doubles_13 : decode cX10_doubles 13 = .ok (.iload_n 2, 1) := by decide +kernel
theorem dX10_doubles_14 : decode cX10_doubles 14 = .ok (.ifCond .lt 12, 3) := by decide +kernel
theorem dX10_doubles_17 : decode cX10_doubles 17 = .ok (.iload_n 3, 1) := by decide +kernel
theorem dX10_doubles_18 : decode cX10_doubles 18 = .ok (.ifCond .lt 8, 3) := by decide +kernel
theorem dX10_doubles_21 : decode cX10_doubles 21 = .ok (.iload 4, 2) := by decide +kernel
theorem dX10_doubles_23 : decode cX10_doubles 23 = .ok (.ifCond .ge 10, 3) := by decide +kernel
theorem dX10_doubles_26 : decode cX10_doubles 26 = .ok (.aload_n 0, 1) := by decide +kernel
theorem dX10_doubles_27 : decode cX10_doubles 27 = .ok (.bipush (-4), 2) := by decide +kernel
theorem dX10_doubles_29 : decode cX10_doubles 29 = .ok (.invokevirtual 149, 3) := by decide +kernel
theorem dX10_doubles_32 : decode cX10_doubles 32 = .ok (.ireturn, 1) := by decide +kernel
theorem dX10_doubles_33 : decode cX10_doubles 33 = .ok (.iload_n 2, 1) := by decide +kernel
theorem dX10_doubles_34 : decode cX10_doubles 34 = .ok (.bipush 99, 2) := by decide +kernel
theorem dX10_doubles_36 : decode cX10_doubles 36 = .ok (.aload_n 0, 1) := by decide +kernel
theorem dX10_doubles_37 : decode cX10_doubles 37 = .ok (.getfield 90, 3) := by decide +kernel
theorem dX10_doubles_40 : decode cX10_doubles 40 = .ok (.iload_n 1, 1) := by decide +kernel
theorem dX10_doubles_41 : decode cX10_doubles 41 = .ok (.iaload, 1) := by decide +kernel
theorem dX10_doubles_42 : decode cX10_doubles 42 = .ok (.isub, 1) := by decide +kernel
theorem dX10_doubles_43 : decode cX10_doubles 43 = .ok (.if_icmp .gt 30, 3) := by decide +kernel
theorem dX10_doubles_46 : decode cX10_doubles 46 = .ok (.iload_n 3, 1) := by decide +kernel
theorem dX10_doubles_47 : decode cX10_doubles 47 = .ok (.bipush 99, 2) := by decide +kernel
theorem dX10_doubles_49 : decode cX10_doubles 49 = .ok (.aload_n 0, 1) := by decide +kernel
theorem dX10_doubles_50 : decode cX10_doubles 50 = .ok (.getfield 93, 3) := by decide +kernel
theorem dX10_doubles_53 : decode cX10_doubles 53 = .ok (.iload_n 1, 1) := by decide +kernel
theorem dX10_doubles_54 : decode cX10_doubles 54 = .ok (.iaload, 1) := by decide +kernel
theorem dX10_doubles_55 : decode cX10_doubles 55 = .ok (.isub, 1) := by decide +kernel
theorem dX10_doubles_56 : decode cX10_doubles 56 = .ok (.if_icmp .gt 17, 3) := by decide +kernel
theorem dX10_doubles_59 : decode cX10_doubles 59 = .ok (.iload 4, 2) := by decide +kernel
theorem dX10_doubles_61 : decode cX10_doubles 61 = .ok (.bipush 99, 2) := by decide +kernel
theorem dX10_doubles_63 : decode cX10_doubles 63 = .ok (.aload_n 0, 1) := by decide +kernel
theorem dX10_doubles_64 : decode cX10_doubles 64 = .ok (.getfield 96, 3) := by decide +kernel
theorem dX10_doubles_67 : decode cX10_doubles 67 = .ok (.iload_n 1, 1) := by decide +kernel
theorem dX10_doubles_68 : decode cX10_doubles 68 = .ok (.iaload, 1) := by decide +kernel
theorem dX10_doubles_69 : decode cX10_doubles 69 = .ok (.isub, 1) := by decide +kernel
theorem dX10_doubles_70 : decode cX10_doubles 70 = .ok (.if_icmp .le 10, 3) := by decide +kernel
theorem dX10_doubles_73 : decode cX10_doubles 73 = .ok (.aload_n 0, 1) := by decide +kernel
theorem dX10_doubles_74 : decode cX10_doubles 74 = .ok (.bipush (-6), 2) := by decide +kernel
theorem dX10_doubles_76 : decode cX10_doubles 76 = .ok (.invokevirtual 149, 3) := by decide +kernel
theorem dX10_doubles_79 : decode cX10_doubles 79 = .ok (.ireturn, 1) := by decide +kernel
theorem dX10_doubles_80 : decode cX10_doubles 80 = .ok (.aload_n 0, 1) := by decide +kernel
theorem dX10_doubles_81 : decode cX10_doubles 81 = .ok (.getfield 90, 3) := by decide +kernel
theorem dX10_doubles_84 : decode cX10_doubles 84 = .ok (.iload_n 1, 1) := by decide +kernel
theorem dX10_doubles_85 : decode cX10_doubles 85 = .ok (.dup2, 1) := by decide +kernel
theorem dX10_doubles_86 : decode cX10_doubles 86 = .ok (.iaload, 1) := by decide +kernel
theorem dX10_doubles_87 : decode cX10_doubles 87 = .ok (.iload_n 2, 1) := by decide +kernel
theorem dX10_doubles_88 : decode cX10_doubles 88 = .ok (.iadd, 1) := by decide +kernel
theorem dX10_doubles_89 : decode cX10_doubles 89 = .ok (.iastore, 1) := by decide +kernel
theorem dX10_doubles_90 : decode cX10_doubles 90 = .ok (.aload_n 0, 1) := by decide +kernel
theorem dX10_doubles_91 : decode cX10_doubles 91 = .ok (.getfield 93, 3) := by decide +kernel
theorem dX10_doubles_94 : decode cX10_doubles 94 = .ok (.iload_n 1, 1) := by decide +kernel
theorem dX10_doubles_95 : decode cX10_doubles 95 = .ok (.dup2, 1) := by decide +kernel
theorem dX10_doubles_96 : decode cX10_doubles 96 = .ok (.iaload, 1) := by decide +kernel
theorem dX10_doubles_97 : decode cX10_doubles 97 = .ok (.iload_n 3, 1) := by decide +kernel
theorem dX10_doubles_98 : decode cX10_doubles 98 = .ok (.iadd, 1) := by decide +kernel
theorem dX10_doubles_99 : decode cX10_doubles 99 = .ok (.iastore, 1) := by decide +kernel
theorem dX10_doubles_100 : decode cX10_doubles 100 = .ok (.aload_n 0, 1) := by decide +kernel
theorem dX10_doubles_101 : decode cX10_doubles 101 = .ok (.getfield 96, 3) := by decide +kernel
theorem dX10_doubles_104 : decode cX10_doubles 104 = .ok (.iload_n 1, 1) := by decide +kernel
theorem dX10_doubles_105 : decode cX10_doubles 105 = .ok (.dup2, 1) := by decide +kernel
theorem dX10_doubles_106 : decode cX10_doubles 106 = .ok (.iaload, 1) := by decide +kernel
theorem dX10_doubles_107 : decode cX10_doubles 107 = .ok (.iload 4, 2) := by decide +kernel
theorem dX10_doubles_109 : decode cX10_doubles 109 = .ok (.iadd, 1) := by decide +kernel
theorem dX10_doubles_110 : decode cX10_doubles 110 = .ok (.iastore, 1) := by decide +kernel
theorem dX10_doubles_111 : decode cX10_doubles 111 = .ok (.iconst 1, 1) := by decide +kernel
theorem dX10_doubles_112 : decode cX10_doubles 112 = .ok (.ireturn, 1) := by decide +kernel
theorem dX10_eyes_0 : decode cX10_eyes 0 = .ok (.iload_n 1, 1) := by decide +kernel
theorem dX10_eyes_1 : decode cX10_eyes 1 = .ok (.invokestatic 179, 3) := by decide +kernel
theorem dX10_eyes_4 : decode cX10_eyes 4 = .ok (.ifCond .ne 9, 3) := by decide +kernel
theorem dX10_eyes_7 : decode cX10_eyes 7 = .ok (.aload_n 0, 1) := by decide +kernel
theorem dX10_eyes_8 : decode cX10_eyes 8 = .ok (.iconst (-1), 1) := by decide +kernel
theorem dX10_eyes_9 : decode cX10_eyes 9 = .ok (.invokevirtual 149, 3) := by decide +kernel
theorem dX10_eyes_12 : decode cX10_eyes 12 = .ok (.ireturn, 1) := by decide +kernel
theorem dX10_eyes_13 : decode cX10_eyes 13 = .ok (.iload_n 2, 1) := by decide +kernel
theorem dX10_eyes_14 : decode cX10_eyes 14 = .ok (.iconst 2, 1) := by decide +kernel
theorem dX10_eyes_15 : decode cX10_eyes 15 = .ok (.invokestatic 153, 3) := by decide +kernel
theorem dX10_eyes_18 : decode cX10_eyes 18 = .ok (.ifCond .ne 10, 3) := by decide +kernel
theorem dX10_eyes_21 : decode cX10_eyes 21 = .ok (.aload_n 0, 1) := by decide +kernel
theorem dX10_eyes_22 : decode cX10_eyes 22 = .ok (.bipush (-2), 2) := by decide +kernel
theorem dX10_eyes_24 : decode cX10_eyes 24 = .ok (.invokevirtual 149, 3) := by decide +kernel
theorem dX10_eyes_27 : decode cX10_eyes 27 = .ok (.ireturn, 1) := by decide +kernel
theorem dX10_eyes_28 : decode cX10_eyes 28 = .ok (.aload_n 0, 1) := by decide +kernel
theorem dX10_eyes_29 : decode cX10_eyes 29 = .ok (.getfield 96, 3) := by decide +kernel
theorem dX10_eyes_32 : decode cX10_eyes 32 = .ok (.iload_n 1, 1) := by decide +kernel
theorem dX10_eyes_33 : decode cX10_eyes 33 = .ok (.iaload, 1) := by decide +kernel
theorem dX10_eyes_34 : decode cX10_eyes 34 = .ok (.ifCond .ne 6, 3) := by decide +kernel
theorem dX10_eyes_37 : decode cX10_eyes 37 = .ok (.bipush (-9), 2) := by decide +kernel
theorem dX10_eyes_39 : decode cX10_eyes 39 = .ok (.ireturn, 1) := by decide +kernel
theorem dX10_eyes_40 : decode cX10_eyes 40 = .ok (.aload_n 0, 1) := by decide +kernel
theorem dX10_eyes_41 : decode cX10_eyes 41 = .ok (.getfield 90, 3) := by decide +kernel
theorem dX10_eyes_44 : decode cX10_eyes 44 = .ok (.iload_n 1, 1) := by decide +kernel
theorem dX10_eyes_45 : decode cX10_eyes 45 = .ok (.iaload, 1) := by decide +kernel
theorem dX10_eyes_46 : decode cX10_eyes 46 = .ok (.aload_n 0, 1) := by decide +kernel
theorem dX10_eyes_47 : decode cX10_eyes 47 = .ok (.getfield 96, 3) := by decide +kernel
theorem dX10_eyes_50 : decode cX10_eyes 50 = .ok (.iload_n 1, 1) := by decide +kernel
theorem dX10_eyes_51 : decode cX10_eyes 51 = .ok (.iaload, 1) := by decide +kernel
theorem dX10_eyes_52 : decode cX10_eyes 52 = .ok (.iadd, 1) := by decide +kernel
theorem dX10_eyes_53 : decode cX10_eyes 53 = .ok (.aload_n 0, 1) := by decide +kernel
theorem dX10_eyes_54 : decode cX10_eyes 54 = .ok (.getfield 93, 3) := by decide +kernel
theorem dX10_eyes_57 : decode cX10_eyes 57 = .ok (.iload_n 1, 1) := by decide +kernel
theorem dX10_eyes_58 : decode cX10_eyes 58 = .ok (.iaload, 1) := by decide +kernel
theorem dX10_eyes_59 : decode cX10_eyes 59 = .ok (.aload_n 0, 1) := by decide +kernel
theorem dX10_eyes_60 : decode cX10_eyes 60 = .ok (.getfield 96, 3) := by decide +kernel
theorem dX10_eyes_63 : decode cX10_eyes 63 = .ok (.iload_n 1, 1) := by decide +kernel
theorem dX10_eyes_64 : decode cX10_eyes 64 = .ok (.iaload, 1) := by decide +kernel
theorem dX10_eyes_65 : decode cX10_eyes 65 = .ok (.iadd, 1) := by decide +kernel
theorem dX10_eyes_66 : decode cX10_eyes 66 = .ok (.imul, 1) := by decide +kernel
theorem dX10_eyes_67 : decode cX10_eyes 67 = .ok (.aload_n 0, 1) := by decide +kernel
theorem dX10_eyes_68 : decode cX10_eyes 68 = .ok (.getfield 96, 3) := by decide +kernel
theorem dX10_eyes_71 : decode cX10_eyes 71 = .ok (.iload_n 1, 1) := by decide +kernel
theorem dX10_eyes_72 : decode cX10_eyes 72 = .ok (.iaload, 1) := by decide +kernel
theorem dX10_eyes_73 : decode cX10_eyes 73 = .ok (.iadd, 1) := by decide +kernel
theorem dX10_eyes_74 : decode cX10_eyes 74 = .ok (.iconst 1, 1) := by decide +kernel
theorem dX10_eyes_75 : decode cX10_eyes 75 = .ok (.isub, 1) := by decide +kernel
theorem dX10_eyes_76 : decode cX10_eyes 76 = .ok (.aload_n 0, 1) := by decide +kernel
theorem dX10_eyes_77 : decode cX10_eyes 77 = .ok (.getfield 96, 3) := by decide +kernel
theorem dX10_eyes_80 : decode cX10_eyes 80 = .ok (.iload_n 1, 1) := by decide +kernel
theorem dX10_eyes_81 : decode cX10_eyes 81 = .ok (.iaload, 1) := by decide +kernel
theorem dX10_eyes_82 : decode cX10_eyes 82 = .ok (.idiv, 1) := by decide +kernel
theorem dX10_eyes_83 : decode cX10_eyes 83 = .ok (.istore_n 3, 1) := by decide +kernel
theorem dX10_eyes_84 : decode cX10_eyes 84 = .ok (.iload_n 2, 1) := by decide +kernel
theorem dX10_eyes_85 : decode cX10_eyes 85 = .ok (.ifCond .ne 7, 3) := by decide +kernel
theorem dX10_eyes_88 : decode cX10_eyes 88 = .ok (.iload_n 3, 1) := by decide +kernel
theorem dX10_eyes_89 : decode cX10_eyes 89 = .ok (.goto 25, 3) := by decide +kernel
theorem dX10_eyes_92 : decode cX10_eyes 92 = .ok (.iload_n 3, 1) := by decide +kernel
theorem dX10_eyes_93 : decode cX10_eyes 93 = .ok (.aload_n 0, 1) := by decide +kernel
theorem dX10_eyes_94 : decode cX10_eyes 94 = .ok (.getfield 90, 3) := by decide +kernel
theorem dX10_eyes_97 : decode cX10_eyes 97 = .ok (.iload_n 1, 1) := by decide +kernel
theorem dX10_eyes_98 : decode cX10_eyes 98 = .ok (.iaload, 1) := by decide +kernel
theorem dX10_eyes_99 : decode cX10_eyes 99 = .ok (.isub, 1) := by decide +kernel
theorem dX10_eyes_100 : decode cX10_eyes 100 = .ok (.aload_n 0, 1) := by decide +kernel
theorem dX10_eyes_101 : decode cX10_eyes 101 = .ok (.getfield 93, 3) := by decide +kernel
theorem dX10_eyes_104 : decode cX10_eyes 104 = .ok (.iload_n 1, 1) := by decide +kernel
theorem dX10_eyes_105 : decode cX10_eyes 105 = .ok (.iaload, 1) := by decide +kernel
theorem dX10_eyes_106 : decode cX10_eyes 106 = .ok (.isub, 1) := by decide +kernel
theorem dX10_eyes_107 : decode cX10_eyes 107 = .ok (.aload_n 0, 1) := by decide +kernel
theorem dX10_eyes_108 : decode cX10_eyes 108 = .ok (.getfield 96, 3) := by decide +kernel
theorem dX10_eyes_111 : decode cX10_eyes 111 = .ok (.iload_n 1, 1) := by decide +kernel
theorem dX10_eyes_112 : decode cX10_eyes 112 = .ok (.iaload, 1) := by decide +kernel
theorem dX10_eyes_113 : decode cX10_eyes 113 = .ok (.isub, 1) := by decide +kernel
theorem dX10_eyes_114 : decode cX10_eyes 114 = .ok (.ireturn, 1) := by decide +kernel
theorem dX10_line_0 : decode cX10_line 0 = .ok (.iload_n 1, 1) := by decide +kernel
theorem dX10_line_1 : decode cX10_line 1 = .ok (.invokestatic 179, 3) := by decide +kernel
theorem dX10_line_4 : decode cX10_line 4 = .ok (.ifCond .ne 9, 3) := by decide +kernel
theorem dX10_line_7 : decode cX10_line 7 = .ok (.aload_n 0, 1) := by decide +kernel
theorem dX10_line_8 : decode cX10_line 8 = .ok (.iconst (-1), 1) := by decide +kernel
theorem dX10_line_9 : decode cX10_line 9 = .ok (.invokevirtual 149, 3) := by decide +kernel
theorem dX10_line_12 : decode cX10_line 12 = .ok (.ireturn, 1) := by decide +kernel
theorem dX10_line_13 : decode cX10_line 13 = .ok (.iload_n 2, 1) := by decide +kernel
theorem dX10_line_14 : decode cX10_line 14 = .ok (.ifCond .lt 7, 3) := by decide +kernel
theorem dX10_line_17 : decode cX10_line 17 = .ok (.iload_n 3, 1) := by decide +kernel
theorem dX10_line_18 : decode cX10_line 18 = .ok (.ifCond .ge 10, 3) := by decide +kernel
theorem dX10_line_21 : decode cX10_line 21 = .ok (.aload_n 0, 1) := by decide +kernel
theorem dX10_line_22 : decode cX10_line 22 = .ok (.bipush (-4), 2) := by decide +kernel
theorem dX10_line_24 : decode cX10_line 24 = .ok (.invokevirtual 149, 3) := by decide +kernel
theorem dX10_line_27 : decode cX10_line 27 = .ok (.ireturn, 1) := by decide +kernel
theorem dX10_line_28 : decode cX10_line 28 = .ok (.iload_n 2, 1) := by decide +kernel
theorem dX10_line_29 : decode cX10_line 29 = .ok (.sipush 1759, 3) := by decide +kernel
theorem dX10_line_32 : decode cX10_line 32 = .ok (.if_icmp .gt 17, 3) := by decide +kernel
theorem dX10_line_35 : decode cX10_line 35 = .ok (.iload_n 3, 1) := by decide +kernel
theorem dX10_line_36 : decode cX10_line 36 = .ok (.iconst 1, 1) := by decide +kernel
theorem dX10_line_37 : decode cX10_line 37 = .ok (.if_icmp .gt 12, 3) := by decide +kernel
theorem dX10_line_40 : decode cX10_line 40 = .ok (.aload_n 0, 1) := by decide +kernel
theorem dX10_line_41 : decode cX10_line 41 = .ok (.getfield 239, 3) := by decide +kernel
theorem dX10_line_44 : decode cX10_line 44 = .ok (.bipush 8, 2) := by decide +kernel
theorem dX10_line_46 : decode cX10_line 46 = .ok (.if_icmp .ne 10, 3) := by decide +kernel
theorem dX10_line_49 : decode cX10_line 49 = .ok (.aload_n 0, 1) := by decide +kernel
theorem dX10_line_50 : decode cX10_line 50 = .ok (.bipush (-6), 2) := by decide +kernel
theorem dX10_line_52 : decode cX10_line 52 = .ok (.invokevirtual 149, 3) := by decide +kernel
theorem dX10_line_55 : decode cX10_line 55 = .ok (.ireturn, 1) := by decide +kernel
theorem dX10_line_56 : decode cX10_line 56 = .ok (.aload_n 0, 1) := by decide +kernel
theorem dX10_line_57 : decode cX10_line 57 = .ok (.getfield 111, 3) := by decide +kernel
theorem dX10_line_60 : decode cX10_line 60 = .ok (.aload_n 0, 1) := by decide +kernel
theorem dX10_line_61 : decode cX10_line 61 = .ok (.getfield 239, 3) := by decide +kernel
theorem dX10_line_64 : decode cX10_line 64 = .ok (.iload_n 1, 1) := by decide +kernel
theorem dX10_line_65 : decode cX10_line 65 = .ok (.iastore, 1) := by decide +kernel
theorem dX10_line_66 : decode cX10_line 66 = .ok (.aload_n 0, 1) := by decide +kernel
theorem dX10_line_67 : decode cX10_line 67 = .ok (.getfield 114, 3) := by decide +kernel
theorem dX10_line_70 : decode cX10_line 70 = .ok (.aload_n 0, 1) := by decide +kernel
theorem dX10_line_71 : decode cX10_line 71 = .ok (.getfield 239, 3) := by decide +kernel
theorem dX10_line_74 : decode cX10_line 74 = .ok (.iload_n 2, 1) := by decide +kernel
theorem dX10_line_75 : decode cX10_line 75 = .ok (.iastore, 1) := by decide +kernel
theorem dX10_line_76 : decode cX10_line 76 = .ok (.aload_n 0, 1) := by decide +kernel
theorem dX10_line_77 : decode cX10_line 77 = .ok (.getfield 117, 3) := by decide +kernel
theorem dX10_line_80 : decode cX10_line 80 = .ok (.aload_n 0, 1) := by decide +kernel
theorem dX10_line_81 : decode cX10_line 81 = .ok (.getfield 239, 3) := by decide +kernel
theorem dX10_line_84 : decode cX10_line 84 = .ok (.iload_n 3, 1) := by decide +kernel
theorem dX10_line_85 : decode cX10_line 85 = .ok (.iastore, 1) := by decide +kernel
theorem dX10_line_86 : decode cX10_line 86 = .ok (.aload_n 0, 1) := by decide +kernel
theorem dX10_line_87 : decode cX10_line 87 = .ok (.dup, 1) := by decide +kernel
theorem dX10_line_88 : decode cX10_line 88 = .ok (.getfield 239, 3) := by decide +kernel
theorem dX10_line_91 : decode cX10_line 91 = .ok (.iconst 1, 1) := by decide +kernel
theorem dX10_line_92 : decode cX10_line 92 = .ok (.iadd, 1) := by decide +kernel
theorem dX10_line_93 : decode cX10_line 93 = .ok (.putfield 239, 3) := by decide +kernel
theorem dX10_line_96 : decode cX10_line 96 = .ok (.aload_n 0, 1) := by decide +kernel
theorem dX10_line_97 : decode cX10_line 97 = .ok (.getfield 239, 3) := by decide +kernel
theorem dX10_line_100 : decode cX10_line 100 = .ok (.iconst 1, 1) := by decide +kernel
theorem dX10_line_101 : decode cX10_line 101 = .ok (.isub, 1) := by decide +kernel
theorem dX10_line_102 : decode cX10_line 102 = .ok (.ireturn, 1) := by decide +kernel
theorem dX10_worth_0 : decode cX10_worth 0 = .ok (.aload_n 0, 1) := by decide +kernel
theorem dX10_worth_1 : decode cX10_worth 1 = .ok (.getfield 132, 3) := by decide +kernel
theorem dX10_worth_4 : decode cX10_worth 4 = .ok (.iload_n 2, 1) := by decide +kernel
theorem dX10_worth_5 : decode cX10_worth 5 = .ok (.iaload, 1) := by decide +kernel
theorem dX10_worth_6 : decode cX10_worth 6 = .ok (.istore_n 3, 1) := by decide +kernel
theorem dX10_worth_7 : decode cX10_worth 7 = .ok (.aload_n 0, 1) := by decide +kernel
theorem dX10_worth_8 : decode cX10_worth 8 = .ok (.getfield 114, 3) := by decide +kernel
theorem dX10_worth_11 : decode cX10_worth 11 = .ok (.iload_n 1, 1) := by decide +kernel
theorem dX10_worth_12 : decode cX10_worth 12 = .ok (.iaload, 1) := by decide +kernel
theorem dX10_worth_13 : decode cX10_worth 13 = .ok (.aload_n 0, 1) := by decide +kernel
theorem dX10_worth_14 : decode cX10_worth 14 = .ok (.getfield 38, 3) := by decide +kernel
theorem dX10_worth_17 : decode cX10_worth 17 = .ok (.iload_n 3, 1) := by decide +kernel
theorem dX10_worth_18 : decode cX10_worth 18 = .ok (.iaload, 1) := by decide +kernel
theorem dX10_worth_19 : decode cX10_worth 19 = .ok (.isub, 1) := by decide +kernel
theorem dX10_worth_20 : decode cX10_worth 20 = .ok (.invokestatic 212, 3) := by decide +kernel
theorem dX10_worth_23 : decode cX10_worth 23 = .ok (.istore 4, 2) := by decide +kernel
theorem dX10_worth_25 : decode cX10_worth 25 = .ok (.aload_n 0, 1) := by decide +kernel
theorem dX10_worth_26 : decode cX10_worth 26 = .ok (.getfield 111, 3) := by decide +kernel
theorem dX10_worth_29 : decode cX10_worth 29 = .ok (.iload_n 1, 1) := by decide +kernel
theorem dX10_worth_30 : decode cX10_worth 30 = .ok (.iaload, 1) := by decide +kernel
theorem dX10_worth_31 : decode cX10_worth 31 = .ok (.aload_n 0, 1) := by decide +kernel
theorem dX10_worth_32 : decode cX10_worth 32 = .ok (.getfield 35, 3) := by decide +kernel
theorem dX10_worth_35 : decode cX10_worth 35 = .ok (.iload_n 3, 1) := by decide +kernel
theorem dX10_worth_36 : decode cX10_worth 36 = .ok (.iaload, 1) := by decide +kernel
theorem dX10_worth_37 : decode cX10_worth 37 = .ok (.if_icmp .ne 36, 3) := by decide +kernel
theorem dX10_worth_40 : decode cX10_worth 40 = .ok (.aload_n 0, 1) := by decide +kernel
theorem dX10_worth_41 : decode cX10_worth 41 = .ok (.getfield 117, 3) := by decide +kernel
theorem dX10_worth_44 : decode cX10_worth 44 = .ok (.iload_n 1, 1) := by decide +kernel
theorem dX10_worth_45 : decode cX10_worth 45 = .ok (.iaload, 1) := by decide +kernel
theorem dX10_worth_46 : decode cX10_worth 46 = .ok (.aload_n 0, 1) := by decide +kernel
theorem dX10_worth_47 : decode cX10_worth 47 = .ok (.getfield 41, 3) := by decide +kernel
theorem dX10_worth_50 : decode cX10_worth 50 = .ok (.iload_n 3, 1) := by decide +kernel
