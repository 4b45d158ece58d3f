theorem dX0_init_0 : decode cX0_init 0 = .ok (.aload_n 0, 1) := by decide +kernel
theorem dX0_init_1 : decode cX0_init 1 = .ok (.invokespecial 5, 3) := by decide +kernel
theorem dX0_init_4 : decode cX0_init 4 = .ok (.aload_n 0, 1) := by decide +kernel
theorem dX0_init_5 : decode cX0_init 5 = .ok (.iconst 0, 1) := by decide +kernel
theorem dX0_init_6 : decode cX0_init 6 = .ok (.putfield 11, 3) := by decide +kernel
theorem dX0_init_9 : decode cX0_init 9 = .ok (.aload_n 0, 1) := by decide +kernel
theorem dX0_init_10 : decode cX0_init 10 = .ok (.bipush 8, 2) := by decide +kernel
theorem dX0_init_12 : decode cX0_init 12 = .ok (.newarray .int, 2) := by decide +kernel
theorem dX0_init_14 : decode cX0_init 14 = .ok (.putfield 15, 3) := by decide +kernel
theorem dX0_init_17 : decode cX0_init 17 = .ok (.aload_n 0, 1) := by decide +kernel
theorem dX0_init_18 : decode cX0_init 18 = .ok (.bipush 8, 2) := by decide +kernel
theorem dX0_init_20 : decode cX0_init 20 = .ok (.newarray .int, 2) := by decide +kernel
theorem dX0_init_22 : decode cX0_init 22 = .ok (.putfield 19, 3) := by decide +kernel
theorem dX0_init_25 : decode cX0_init 25 = .ok (.aload_n 0, 1) := by decide +kernel
theorem dX0_init_26 : decode cX0_init 26 = .ok (.bipush 8, 2) := by decide +kernel
theorem dX0_init_28 : decode cX0_init 28 = .ok (.newarray .int, 2) := by decide +kernel
theorem dX0_init_30 : decode cX0_init 30 = .ok (.putfield 22, 3) := by decide +kernel
theorem dX0_init_33 : decode cX0_init 33 = .ok (.aload_n 0, 1) := by decide +kernel
theorem dX0_init_34 : decode cX0_init 34 = .ok (.bipush 8, 2) := by decide +kernel
theorem dX0_init_36 : decode cX0_init 36 = .ok (.newarray .long, 2) := by decide +kernel
theorem dX0_init_38 : decode cX0_init 38 = .ok (.putfield 25, 3) := by decide +kernel
theorem dX0_init_41 : decode cX0_init 41 = .ok (.aload_n 0, 1) := by decide +kernel
theorem dX0_init_42 : decode cX0_init 42 = .ok (.sipush 256, 3) := by decide +kernel
theorem dX0_init_45 : decode cX0_init 45 = .ok (.newarray .long, 2) := by decide +kernel
theorem dX0_init_47 : decode cX0_init 47 = .ok (.putfield 29, 3) := by decide +kernel
theorem dX0_init_50 : decode cX0_init 50 = .ok (.return_, 1) := by decide +kernel
theorem dX0_add_0 : decode cX0_add 0 = .ok (.aload_n 0, 1) := by decide +kernel
theorem dX0_add_1 : decode cX0_add 1 = .ok (.getfield 11, 3) := by decide +kernel
theorem dX0_add_4 : decode cX0_add 4 = .ok (.istore 4, 2) := by decide +kernel
theorem dX0_add_6 : decode cX0_add 6 = .ok (.aload_n 0, 1) := by decide +kernel
theorem dX0_add_7 : decode cX0_add 7 = .ok (.getfield 15, 3) := by decide +kernel
theorem dX0_add_10 : decode cX0_add 10 = .ok (.iload 4, 2) := by decide +kernel
theorem dX0_add_12 : decode cX0_add 12 = .ok (.iload_n 1, 1) := by decide +kernel
theorem dX0_add_13 : decode cX0_add 13 = .ok (.iastore, 1) := by decide +kernel
theorem dX0_add_14 : decode cX0_add 14 = .ok (.aload_n 0, 1) := by decide +kernel
theorem dX0_add_15 : decode cX0_add 15 = .ok (.getfield 19, 3) := by decide +kernel
theorem dX0_add_18 : decode cX0_add 18 = .ok (.iload 4, 2) := by decide +kernel
theorem dX0_add_20 : decode cX0_add 20 = .ok (.iload_n 2, 1) := by decide +kernel
theorem dX0_add_21 : decode cX0_add 21 = .ok (.iastore, 1) := by decide +kernel
theorem dX0_add_22 : decode cX0_add 22 = .ok (.aload_n 0, 1) := by decide +kernel
theorem dX0_add_23 : decode cX0_add 23 = .ok (.getfield 22, 3) := by decide +kernel
theorem dX0_add_26 : decode cX0_add 26 = .ok (.iload 4, 2) := by decide +kernel
theorem dX0_add_28 : decode cX0_add 28 = .ok (.iload_n 3, 1) := by decide +kernel
theorem dX0_add_29 : decode cX0_add 29 = .ok (.iastore, 1) := by decide +kernel
theorem dX0_add_30 : decode cX0_add 30 = .ok (.aload_n 0, 1) := by decide +kernel
theorem dX0_add_31 : decode cX0_add 31 = .ok (.dup, 1) := by decide +kernel
theorem dX0_add_32 : decode cX0_add 32 = .ok (.getfield 11, 3) := by decide +kernel
theorem dX0_add_35 : decode cX0_add 35 = .ok (.iconst 1, 1) := by decide +kernel
theorem dX0_add_36 : decode cX0_add 36 = .ok (.iadd, 1) := by decide +kernel
theorem dX0_add_37 : decode cX0_add 37 = .ok (.putfield 11, 3) := by decide +kernel
theorem dX0_add_40 : decode cX0_add 40 = .ok (.iload 4, 2) := by decide +kernel
theorem dX0_add_42 : decode cX0_add 42 = .ok (.ireturn, 1) := by decide +kernel
theorem dX0_bestJoining_0 : decode cX0_bestJoining 0 = .ok (.iconst 1, 1) := by decide +kernel
theorem dX0_bestJoining_1 : decode cX0_bestJoining 1 = .ok (.aload_n 0, 1) := by decide +kernel
theorem dX0_bestJoining_2 : decode cX0_bestJoining 2 = .ok (.getfield 11, 3) := by decide +kernel
theorem dX0_bestJoining_5 : decode cX0_bestJoining 5 = .ok (.ishl, 1) := by decide +kernel
theorem dX0_bestJoining_6 : decode cX0_bestJoining 6 = .ok (.istore_n 3, 1) := by decide +kernel
theorem dX0_bestJoining_7 : decode cX0_bestJoining 7 = .ok (.aload_n 0, 1) := by decide +kernel
theorem dX0_bestJoining_8 : decode cX0_bestJoining 8 = .ok (.getfield 29, 3) := by decide +kernel
theorem dX0_bestJoining_11 : decode cX0_bestJoining 11 = .ok (.iconst 0, 1) := by decide +kernel
theorem dX0_bestJoining_12 : decode cX0_bestJoining 12 = .ok (.lconst 0, 1) := by decide +kernel
theorem dX0_bestJoining_13 : decode cX0_bestJoining 13 = .ok (.lastore, 1) := by decide +kernel
theorem dX0_bestJoining_14 : decode cX0_bestJoining 14 = .ok (.iconst 1, 1) := by decide +kernel
theorem dX0_bestJoining_15 : decode cX0_bestJoining 15 = .ok (.istore 4, 2) := by decide +kernel
theorem dX0_bestJoining_17 : decode cX0_bestJoining 17 = .ok (.iload 4, 2) := by decide +kernel
theorem dX0_bestJoining_19 : decode cX0_bestJoining 19 = .ok (.iload_n 3, 1) := by decide +kernel
theorem dX0_bestJoining_20 : decode cX0_bestJoining 20 = .ok (.if_icmp .ge 19, 3) := by decide +kernel
theorem dX0_bestJoining_23 : decode cX0_bestJoining 23 = .ok (.aload_n 0, 1) := by decide +kernel
theorem dX0_bestJoining_24 : decode cX0_bestJoining 24 = .ok (.getfield 29, 3) := by decide +kernel
theorem dX0_bestJoining_27 : decode cX0_bestJoining 27 = .ok (.iload 4, 2) := by decide +kernel
theorem dX0_bestJoining_29 : decode cX0_bestJoining 29 = .ok (.ldc2_w 32, 3) := by decide +kernel
theorem dX0_bestJoining_32 : decode cX0_bestJoining 32 = .ok (.lastore, 1) := by decide +kernel
theorem dX0_bestJoining_33 : decode cX0_bestJoining 33 = .ok (.iinc 4 1, 3) := by decide +kernel
theorem dX0_bestJoining_36 : decode cX0_bestJoining 36 = .ok (.goto (-19), 3) := by decide +kernel
theorem dX0_bestJoining_39 : decode cX0_bestJoining 39 = .ok (.iconst 0, 1) := by decide +kernel
theorem dX0_bestJoining_40 : decode cX0_bestJoining 40 = .ok (.istore 4, 2) := by decide +kernel
theorem dX0_bestJoining_42 : decode cX0_bestJoining 42 = .ok (.iconst 0, 1) := by decide +kernel
theorem dX0_bestJoining_43 : decode cX0_bestJoining 43 = .ok (.istore 5, 2) := by decide +kernel
theorem dX0_bestJoining_45 : decode cX0_bestJoining 45 = .ok (.iload 5, 2) := by decide +kernel
theorem dX0_bestJoining_47 : decode cX0_bestJoining 47 = .ok (.aload_n 1, 1) := by decide +kernel
theorem dX0_bestJoining_48 : decode cX0_bestJoining 48 = .ok (.getfield 34, 3) := by decide +kernel
theorem dX0_bestJoining_51 : decode cX0_bestJoining 51 = .ok (.if_icmp .ge 47, 3) := by decide +kernel
theorem dX0_bestJoining_54 : decode cX0_bestJoining 54 = .ok (.iload 4, 2) := by decide +kernel
theorem dX0_bestJoining_56 : decode cX0_bestJoining 56 = .ok (.bipush 12, 2) := by decide +kernel
theorem dX0_bestJoining_58 : decode cX0_bestJoining 58 = .ok (.if_icmp .ge 40, 3) := by decide +kernel
theorem dX0_bestJoining_61 : decode cX0_bestJoining 61 = .ok (.aload_n 1, 1) := by decide +kernel
theorem dX0_bestJoining_62 : decode cX0_bestJoining 62 = .ok (.getfield 37, 3) := by decide +kernel
theorem dX0_bestJoining_65 : decode cX0_bestJoining 65 = .ok (.iload 5, 2) := by decide +kernel
theorem dX0_bestJoining_67 : decode cX0_bestJoining 67 = .ok (.baload, 1) := by decide +kernel
theorem dX0_bestJoining_68 : decode cX0_bestJoining 68 = .ok (.ifCond .eq 24, 3) := by decide +kernel
theorem dX0_bestJoining_71 : decode cX0_bestJoining 71 = .ok (.aload_n 0, 1) := by decide +kernel
theorem dX0_bestJoining_72 : decode cX0_bestJoining 72 = .ok (.aload_n 1, 1) := by decide +kernel
theorem dX0_bestJoining_73 : decode cX0_bestJoining 73 = .ok (.iload 5, 2) := by decide +kernel
theorem dX0_bestJoining_75 : decode cX0_bestJoining 75 = .ok (.iload 4, 2) := by decide +kernel
theorem dX0_bestJoining_77 : decode cX0_bestJoining 77 = .ok (.iload_n 2, 1) := by decide +kernel
theorem dX0_bestJoining_78 : decode cX0_bestJoining 78 = .ok (.invokevirtual 41, 3) := by decide +kernel
theorem dX0_bestJoining_81 : decode cX0_bestJoining 81 = .ok (.ifCond .eq 8, 3) := by decide +kernel
theorem dX0_bestJoining_84 : decode cX0_bestJoining 84 = .ok (.aload_n 0, 1) := by decide +kernel
theorem dX0_bestJoining_85 : decode cX0_bestJoining 85 = .ok (.iload_n 3, 1) := by decide +kernel
theorem dX0_bestJoining_86 : decode cX0_bestJoining 86 = .ok (.invokevirtual 45, 3) := by decide +kernel
theorem dX0_bestJoining_89 : decode cX0_bestJoining 89 = .ok (.iinc 4 1, 3) := by decide +kernel
theorem dX0_bestJoining_92 : decode cX0_bestJoining 92 = .ok (.iinc 5 1, 3) := by decide +kernel
theorem dX0_bestJoining_95 : decode cX0_bestJoining 95 = .ok (.goto (-50), 3) := by decide +kernel
theorem dX0_bestJoining_98 : decode cX0_bestJoining 98 = .ok (.ldc2_w 32, 3) := by decide +kernel
theorem dX0_bestJoining_101 : decode cX0_bestJoining 101 = .ok (.lstore 5, 2) := by decide +kernel
theorem dX0_bestJoining_103 : decode cX0_bestJoining 103 = .ok (.iconst 0, 1) := by decide +kernel
theorem dX0_bestJoining_104 : decode cX0_bestJoining 104 = .ok (.istore 7, 2) := by decide +kernel
theorem dX0_bestJoining_106 : decode cX0_bestJoining 106 = .ok (.iload 7, 2) := by decide +kernel
theorem dX0_bestJoining_108 : decode cX0_bestJoining 108 = .ok (.iload_n 3, 1) := by decide +kernel
theorem dX0_bestJoining_109 : decode cX0_bestJoining 109 = .ok (.if_icmp .ge 30, 3) := by decide +kernel
theorem dX0_bestJoining_112 : decode cX0_bestJoining 112 = .ok (.lload 5, 2) := by decide +kernel
theorem dX0_bestJoining_114 : decode cX0_bestJoining 114 = .ok (.aload_n 0, 1) := by decide +kernel
theorem dX0_bestJoining_115 : decode cX0_bestJoining 115 = .ok (.getfield 29, 3) := by decide +kernel
theorem dX0_bestJoining_118 : decode cX0_bestJoining 118 = .ok (.iload 7, 2) := by decide +kernel
theorem dX0_bestJoining_120 : decode cX0_bestJoining 120 = .ok (.laload, 1) := by decide +kernel
theorem dX0_bestJoining_121 : decode cX0_bestJoining 121 = .ok (.aload_n 0, 1) := by decide +kernel
theorem dX0_bestJoining_122 : decode cX0_bestJoining 122 = .ok (.iload 7, 2) := by decide +kernel
theorem dX0_bestJoining_124 : decode cX0_bestJoining 124 = .ok (.invokevirtual 49, 3) := by decide +kernel
theorem dX0_bestJoining_127 : decode cX0_bestJoining 127 = .ok (.ladd, 1) := by decide +kernel
theorem dX0_bestJoining_128 : decode cX0_bestJoining 128 = .ok (.invokestatic 53, 3) := by decide +kernel
theorem dX0_bestJoining_131 : decode cX0_bestJoining 131 = .ok (.lstore 5, 2) := by decide +kernel
theorem dX0_bestJoining_133 : decode cX0_bestJoining 133 = .ok (.iinc 7 1, 3) := by decide +kernel
theorem dX0_bestJoining_136 : decode cX0_bestJoining 136 = .ok (.goto (-30), 3) := by decide +kernel
theorem dX0_bestJoining_139 : decode cX0_bestJoining 139 = .ok (.lload 5, 2) := by decide +kernel
theorem dX0_bestJoining_141 : decode cX0_bestJoining 141 = .ok (.lreturn, 1) := by decide +kernel
theorem dX0_weighPairs_0 : decode cX0_weighPairs 0 = .ok (.iconst 0, 1) := by decide +kernel
theorem dX0_weighPairs_1 : decode cX0_weighPairs 1 = .ok (.istore 5, 2) := by decide +kernel
theorem dX0_weighPairs_3 : decode cX0_weighPairs 3 = .ok (.iconst 0, 1) := by decide +kernel
theorem dX0_weighPairs_4 : decode cX0_weighPairs 4 = .ok (.istore 6, 2) := by decide +kernel
theorem dX0_weighPairs_6 : decode cX0_weighPairs 6 = .ok (.iload 6, 2) := by decide +kernel
theorem dX0_weighPairs_8 : decode cX0_weighPairs 8 = .ok (.aload_n 0, 1) := by decide +kernel
theorem dX0_weighPairs_9 : decode cX0_weighPairs 9 = .ok (.getfield 11, 3) := by decide +kernel
theorem dX0_weighPairs_12 : decode cX0_weighPairs 12 = .ok (.if_icmp .ge 126, 3) := by decide +kernel
theorem dX0_weighPairs_15 : decode cX0_weighPairs 15 = .ok (.aload_n 0, 1) := by decide +kernel
theorem dX0_weighPairs_16 : decode cX0_weighPairs 16 = .ok (.getfield 19, 3) := by decide +kernel
theorem dX0_weighPairs_19 : decode cX0_weighPairs 19 = .ok (.iload 6, 2) := by decide +kernel
theorem dX0_weighPairs_21 : decode cX0_weighPairs 21 = .ok (.iaload, 1) := by decide +kernel
theorem dX0_weighPairs_22 : decode cX0_weighPairs 22 = .ok (.aload_n 1, 1) := by decide +kernel
theorem dX0_weighPairs_23 : decode cX0_weighPairs 23 = .ok (.getfield 59, 3) := by decide +kernel
theorem dX0_weighPairs_26 : decode cX0_weighPairs 26 = .ok (.iload_n 2, 1) := by decide +kernel
theorem dX0_weighPairs_27 : decode cX0_weighPairs 27 = .ok (.iaload, 1) := by decide +kernel
theorem dX0_weighPairs_28 : decode cX0_weighPairs 28 = .ok (.isub, 1) := by decide +kernel
theorem dX0_weighPairs_29 : decode cX0_weighPairs 29 = .ok (.invokestatic 60, 3) := by decide +kernel
theorem dX0_weighPairs_32 : decode cX0_weighPairs 32 = .ok (.istore 7, 2) := by decide +kernel
theorem dX0_weighPairs_34 : decode cX0_weighPairs 34 = .ok (.aload_n 0, 1) := by decide +kernel
theorem dX0_weighPairs_35 : decode cX0_weighPairs 35 = .ok (.getfield 15, 3) := by decide +kernel
theorem dX0_weighPairs_38 : decode cX0_weighPairs 38 = .ok (.iload 6, 2) := by decide +kernel
theorem dX0_weighPairs_40 : decode cX0_weighPairs 40 = .ok (.iaload, 1) := by decide +kernel
theorem dX0_weighPairs_41 : decode cX0_weighPairs 41 = .ok (.aload_n 1, 1) := by decide +kernel
theorem dX0_weighPairs_42 : decode cX0_weighPairs 42 = .ok (.getfield 64, 3) := by decide +kernel
theorem dX0_weighPairs_45 : decode cX0_weighPairs 45 = .ok (.iload_n 2, 1) := by decide +kernel
theorem dX0_weighPairs_46 : decode cX0_weighPairs 46 = .ok (.iaload, 1) := by decide +kernel
theorem dX0_weighPairs_47 : decode cX0_weighPairs 47 = .ok (.if_icmp .ne 30, 3) := by decide +kernel
theorem dX0_weighPairs_50 : decode cX0_weighPairs 50 = .ok (.aload_n 0, 1) := by decide +kernel
theorem dX0_weighPairs_51 : decode cX0_weighPairs 51 = .ok (.getfield 22, 3) := by decide +kernel
theorem dX0_weighPairs_54 : decode cX0_weighPairs 54 = .ok (.iload 6, 2) := by decide +kernel
theorem dX0_weighPairs_56 : decode cX0_weighPairs 56 = .ok (.iaload, 1) := by decide +kernel
theorem dX0_weighPairs_57 : decode cX0_weighPairs 57 = .ok (.aload_n 1, 1) := by decide +kernel
theorem dX0_weighPairs_58 : decode cX0_weighPairs 58 = .ok (.getfield 65, 3) := by decide +kernel
theorem dX0_weighPairs_61 : decode cX0_weighPairs 61 = .ok (.iload_n 2, 1) := by decide +kernel
theorem dX0_weighPairs_62 : decode cX0_weighPairs 62 = .ok (.iaload, 1) := by decide +kernel
theorem dX0_weighPairs_63 : decode cX0_weighPairs 63 = .ok (.if_icmp .ne 14, 3) := by decide +kernel
theorem dX0_weighPairs_66 : decode cX0_weighPairs 66 = .ok (.iload 7, 2) := by decide +kernel
theorem dX0_weighPairs_68 : decode cX0_weighPairs 68 = .ok (.iload 4, 2) := by decide +kernel
theorem dX0_weighPairs_70 : decode cX0_weighPairs 70 = .ok (.if_icmp .gt 7, 3) := by decide +kernel
theorem dX0_weighPairs_73 : decode cX0_weighPairs 73 = .ok (.iconst 1, 1) := by decide +kernel
theorem dX0_weighPairs_74 : decode cX0_weighPairs 74 = .ok (.goto 4, 3) := by decide +kernel
theorem dX0_weighPairs_77 : decode cX0_weighPairs 77 = .ok (.iconst 0, 1) := by decide +kernel
theorem dX0_weighPairs_78 : decode cX0_weighPairs 78 = .ok (.istore 8, 2) := by decide +kernel
theorem dX0_weighPairs_80 : decode cX0_weighPairs 80 = .ok (.aload_n 0, 1) := by decide +kernel
theorem dX0_weighPairs_81 : decode cX0_weighPairs 81 = .ok (.getfield 25, 3) := by decide +kernel
theorem dX0_weighPairs_84 : decode cX0_weighPairs 84 = .ok (.iload 6, 2) := by decide +kernel
theorem dX0_weighPairs_86 : decode cX0_weighPairs 86 = .ok (.iload 8, 2) := by decide +kernel
theorem dX0_weighPairs_88 : decode cX0_weighPairs 88 = .ok (.ifCond .eq 23, 3) := by decide +kernel
theorem dX0_weighPairs_91 : decode cX0_weighPairs 91 = .ok (.iload 7, 2) := by decide +kernel
theorem dX0_weighPairs_93 : decode cX0_weighPairs 93 = .ok (.i2l, 1) := by decide +kernel
theorem dX0_weighPairs_94 : decode cX0_weighPairs 94 = .ok (.ldc2_w 66, 3) := by decide +kernel
theorem dX0_weighPairs_97 : decode cX0_weighPairs 97 = .ok (.lmul, 1) := by decide +kernel
theorem dX0_weighPairs_98 : decode cX0_weighPairs 98 = .ok (.iload_n 3, 1) := by decide +kernel
theorem dX0_weighPairs_99 : decode cX0_weighPairs 99 = .ok (.i2l, 1) := by decide +kernel
theorem dX0_weighPairs_100 : decode cX0_weighPairs 100 = .ok (.getstatic 68, 3) := by decide +kernel
theorem dX0_weighPairs_103 : decode cX0_weighPairs 103 = .ok (.iload 6, 2) := by decide +kernel
theorem dX0_weighPairs_105 : decode cX0_weighPairs 105 = .ok (.laload, 1) := by decide +kernel
theorem dX0_weighPairs_106 : decode cX0_weighPairs 106 = .ok (.lmul, 1) := by decide +kernel
theorem dX0_weighPairs_107 : decode cX0_weighPairs 107 = .ok (.ladd, 1) := by decide +kernel
theorem dX0_weighPairs_108 : decode cX0_weighPairs 108 = .ok (.goto 6, 3) := by decide +kernel
theorem dX0_weighPairs_111 : decode cX0_weighPairs 111 = .ok (.ldc2_w 32, 3) := by decide +kernel
theorem dX0_weighPairs_114 : decode cX0_weighPairs 114 = .ok (.lastore, 1) := by decide +kernel
theorem dX0_weighPairs_115 : decode cX0_weighPairs 115 = .ok (.iload 5, 2) := by decide +kernel
theorem dX0_weighPairs_117 : decode cX0_weighPairs 117 = .ok (.ifCond .ne 8, 3) := by decide +kernel
theorem dX0_weighPairs_120 : decode cX0_weighPairs 120 = .ok (.iload 8, 2) := by decide +kernel
theorem dX0_weighPairs_122 : decode cX0_weighPairs 122 = .ok (.ifCond .eq 7, 3) := by decide +kernel
theorem dX0_weighPairs_125 : decode cX0_weighPairs 125 = .ok (.iconst 1, 1) := by decide +kernel
theorem dX0_weighPairs_126 : decode cX0_weighPairs 126 = .ok (.goto 4, 3) := by decide +kernel
theorem dX0_weighPairs_129 : decode cX0_weighPairs 129 = .ok (.iconst 0, 1) := by decide +kernel
theorem dX0_weighPairs_130 : decode cX0_weighPairs 130 = .ok (.istore 5, 2) := by decide +kernel
theorem dX0_weighPairs_132 : decode cX0_weighPairs 132 = .ok (.iinc 6 1, 3) := by decide +kernel
theorem dX0_weighPairs_135 : decode cX0_weighPairs 135 = .ok (.goto (-129), 3) := by decide +kernel
theorem dX0_weighPairs_138 : decode cX0_weighPairs 138 = .ok (.iload 5, 2) := by decide +kernel
theorem dX0_weighPairs_140 : decode cX0_weighPairs 140 = .ok (.ireturn, 1) := by decide +kernel
theorem dX0_offerDefect_0 : decode cX0_offerDefect 0 = .ok (.iload_n 1, 1) := by decide +kernel
theorem dX0_offerDefect_1 : decode cX0_offerDefect 1 = .ok (.iconst 1, 1) := by decide +kernel
theorem dX0_offerDefect_2 : decode cX0_offerDefect 2 = .ok (.isub, 1) := by decide +kernel
theorem dX0_offerDefect_3 : decode cX0_offerDefect 3 = .ok (.istore_n 2, 1) := by decide +kernel
theorem dX0_offerDefect_4 : decode cX0_offerDefect 4 = .ok (.iload_n 2, 1) := by decide +kernel
theorem dX0_offerDefect_5 : decode cX0_offerDefect 5 = .ok (.ifCond .le 96, 3) := by decide +kernel
theorem dX0_offerDefect_8 : decode cX0_offerDefect 8 = .ok (.iconst 0, 1) := by decide +kernel
theorem dX0_offerDefect_9 : decode cX0_offerDefect 9 = .ok (.istore_n 3, 1) := by decide +kernel
theorem dX0_offerDefect_10 : decode cX0_offerDefect 10 = .ok (.iload_n 3, 1) := by decide +kernel
theorem dX0_offerDefect_11 : decode cX0_offerDefect 11 = .ok (.aload_n 0, 1) := by decide +kernel
theorem dX0_offerDefect_12 : decode cX0_offerDefect 12 = .ok (.getfield 11, 3) := by decide +kernel
theorem dX0_offerDefect_15 : decode cX0_offerDefect 15 = .ok (.if_icmp .ge 80, 3) := by decide +kernel
theorem dX0_offerDefect_18 : decode cX0_offerDefect 18 = .ok (.iload_n 2, 1) := by decide +kernel
theorem dX0_offerDefect_19 : decode cX0_offerDefect 19 = .ok (.iconst 1, 1) := by decide +kernel
theorem dX0_offerDefect_20 : decode cX0_offerDefect 20 = .ok (.iload_n 3, 1) := by decide +kernel
theorem dX0_offerDefect_21 : decode cX0_offerDefect 21 = .ok (.ishl, 1) := by decide +kernel
theorem dX0_offerDefect_22 : decode cX0_offerDefect 22 = .ok (.iconst (-1), 1) := by decide +kernel
theorem dX0_offerDefect_23 : decode cX0_offerDefect 23 = .ok (.ixor, 1) := by decide +kernel
theorem dX0_offerDefect_24 : decode cX0_offerDefect 24 = .ok (.iand, 1) := by decide +kernel
theorem dX0_offerDefect_25 : decode cX0_offerDefect 25 = .ok (.istore 4, 2) := by decide +kernel
theorem dX0_offerDefect_27 : decode cX0_offerDefect 27 = .ok (.iload 4, 2) := by decide +kernel
theorem dX0_offerDefect_29 : decode cX0_offerDefect 29 = .ok (.iload_n 2, 1) := by decide +kernel
theorem dX0_offerDefect_30 : decode cX0_offerDefect 30 = .ok (.if_icmp .eq 59, 3) := by decide +kernel
theorem dX0_offerDefect_33 : decode cX0_offerDefect 33 = .ok (.aload_n 0, 1) := by decide +kernel
theorem dX0_offerDefect_34 : decode cX0_offerDefect 34 = .ok (.getfield 25, 3) := by decide +kernel
theorem dX0_offerDefect_37 : decode cX0_offerDefect 37 = .ok (.iload_n 3, 1) := by decide +kernel
theorem dX0_offerDefect_38 : decode cX0_offerDefect 38 = .ok (.laload, 1) := by decide +kernel
theorem dX0_offerDefect_39 : decode cX0_offerDefect 39 = .ok (.ldc2_w 32, 3) := by decide +kernel
theorem dX0_offerDefect_42 : decode cX0_offerDefect 42 = .ok (.lcmp, 1) := by decide +kernel
theorem dX0_offerDefect_43 : decode cX0_offerDefect 43 = .ok (.ifCond .eq 46, 3) := by decide +kernel
theorem dX0_offerDefect_46 : decode cX0_offerDefect 46 = .ok (.aload_n 0, 1) := by decide +kernel
theorem dX0_offerDefect_47 : decode cX0_offerDefect 47 = .ok (.getfield 29, 3) := by decide +kernel
theorem dX0_offerDefect_50 : decode cX0_offerDefect 50 = .ok (.iload 4, 2) := by decide +kernel
theorem dX0_offerDefect_52 : decode cX0_offerDefect 52 = .ok (.laload, 1) := by decide +kernel
theorem dX0_offerDefect_53 : decode cX0_offerDefect 53 = .ok (.ldc2_w 32, 3) := by decide +kernel
theorem dX0_offerDefect_56 : decode cX0_offerDefect 56 = .ok (.lcmp, 1) := by decide +kernel
theorem dX0_offerDefect_57 : decode cX0_offerDefect 57 = .ok (.ifCond .eq 32, 3) := by decide +kernel
theorem dX0_offerDefect_60 : decode cX0_offerDefect 60 = .ok (.aload_n 0, 1) := by decide +kernel
theorem dX0_offerDefect_61 : decode cX0_offerDefect 61 = .ok (.getfield 29, 3) := by decide +kernel
theorem dX0_offerDefect_64 : decode cX0_offerDefect 64 = .ok (.iload_n 2, 1) := by decide +kernel
theorem dX0_offerDefect_65 : decode cX0_offerDefect 65 = .ok (.aload_n 0, 1) := by decide +kernel
theorem dX0_offerDefect_66 : decode cX0_offerDefect 66 = .ok (.getfield 29, 3) := by decide +kernel
theorem dX0_offerDefect_69 : decode cX0_offerDefect 69 = .ok (.iload_n 2, 1) := by decide +kernel
theorem dX0_offerDefect_70 : decode cX0_offerDefect 70 = .ok (.laload, 1) := by decide +kernel
theorem dX0_offerDefect_71 : decode cX0_offerDefect 71 = .ok (.aload_n 0, 1) := by decide +kernel
theorem dX0_offerDefect_72 : decode cX0_offerDefect 72 = .ok (.getfield 29, 3) := by decide +kernel
theorem dX0_offerDefect_75 : decode cX0_offerDefect 75 = .ok (.iload 4, 2) := by decide +kernel
theorem dX0_offerDefect_77 : decode cX0_offerDefect 77 = .ok (.laload, 1) := by decide +kernel
theorem dX0_offerDefect_78 : decode cX0_offerDefect 78 = .ok (.aload_n 0, 1) := by decide +kernel
theorem dX0_offerDefect_79 : decode cX0_offerDefect 79 = .ok (.getfield 25, 3) := by decide +kernel
theorem dX0_offerDefect_82 : decode cX0_offerDefect 82 = .ok (.iload_n 3, 1) := by decide +kernel
theorem dX0_offerDefect_83 : decode cX0_offerDefect 83 = .ok (.laload, 1) := by decide +kernel
theorem dX0_offerDefect_84 : decode cX0_offerDefect 84 = .ok (.ladd, 1) := by decide +kernel
theorem dX0_offerDefect_85 : decode cX0_offerDefect 85 = .ok (.invokestatic 53, 3) := by decide +kernel
theorem dX0_offerDefect_88 : decode cX0_offerDefect 88 = .ok (.lastore, 1) := by decide +kernel
theorem dX0_offerDefect_89 : decode cX0_offerDefect 89 = .ok (.iinc 3 1, 3) := by decide +kernel
theorem dX0_offerDefect_92 : decode cX0_offerDefect 92 = .ok (.goto (-82), 3) := by decide +kernel
theorem dX0_offerDefect_95 : decode cX0_offerDefect 95 = .ok (.iinc 2 (-1), 3) := by decide +kernel
theorem dX0_offerDefect_98 : decode cX0_offerDefect 98 = .ok (.goto (-94), 3) := by decide +kernel
theorem dX0_offerDefect_101 : decode cX0_offerDefect 101 = .ok (.return_, 1) := by decide +kernel
theorem dX0_weightOfRest_0 : decode cX0_weightOfRest 0 = .ok (.lconst 0, 1) := by decide +kernel
theorem dX0_weightOfRest_1 : decode cX0_weightOfRest 1 = .ok (.lstore_n 2, 1) := by decide +kernel
theorem dX0_weightOfRest_2 : decode cX0_weightOfRest 2 = .ok (.iconst 0, 1) := by decide +kernel
theorem dX0_weightOfRest_3 : decode cX0_weightOfRest 3 = .ok (.istore 4, 2) := by decide +kernel
theorem dX0_weightOfRest_5 : decode cX0_weightOfRest 5 = .ok (.iload 4, 2) := by decide +kernel
theorem dX0_weightOfRest_7 : decode cX0_weightOfRest 7 = .ok (.aload_n 0, 1) := by decide +kernel
theorem dX0_weightOfRest_8 : decode cX0_weightOfRest 8 = .ok (.getfield 11, 3) := by decide +kernel
theorem dX0_weightOfRest_11 : decode cX0_weightOfRest 11 = .ok (.if_icmp .ge 35, 3) := by decide +kernel
theorem dX0_weightOfRest_14 : decode cX0_weightOfRest 14 = .ok (.iload_n 1, 1) := by decide +kernel
theorem dX0_weightOfRest_15 : decode cX0_weightOfRest 15 = .ok (.iconst 1, 1) := by decide +kernel
theorem dX0_weightOfRest_16 : decode cX0_weightOfRest 16 = .ok (.iload 4, 2) := by decide +kernel
theorem dX0_weightOfRest_18 : decode cX0_weightOfRest 18 = .ok (.ishl, 1) := by decide +kernel
theorem dX0_weightOfRest_19 : decode cX0_weightOfRest 19 = .ok (.iand, 1) := by decide +kernel
theorem dX0_weightOfRest_20 : decode cX0_weightOfRest 20 = .ok (.ifCond .ne 20, 3) := by decide +kernel
theorem dX0_weightOfRest_23 : decode cX0_weightOfRest 23 = .ok (.lload_n 2, 1) := by decide +kernel
theorem dX0_weightOfRest_24 : decode cX0_weightOfRest 24 = .ok (.ldc2_w 71, 3) := by decide +kernel
theorem dX0_weightOfRest_27 : decode cX0_weightOfRest 27 = .ok (.ldc2_w 73, 3) := by decide +kernel
theorem dX0_weightOfRest_30 : decode cX0_weightOfRest 30 = .ok (.getstatic 68, 3) := by decide +kernel
theorem dX0_weightOfRest_33 : decode cX0_weightOfRest 33 = .ok (.iload 4, 2) := by decide +kernel
theorem dX0_weightOfRest_35 : decode cX0_weightOfRest 35 = .ok (.laload, 1) := by decide +kernel
theorem dX0_weightOfRest_36 : decode cX0_weightOfRest 36 = .ok (.lmul, 1) := by decide +kernel
theorem dX0_weightOfRest_37 : decode cX0_weightOfRest 37 = .ok (.ladd, 1) := by decide +kernel
theorem dX0_weightOfRest_38 : decode cX0_weightOfRest 38 = .ok (.ladd, 1) := by decide +kernel
theorem dX0_weightOfRest_39 : decode cX0_weightOfRest 39 = .ok (.lstore_n 2, 1) := by decide +kernel
theorem dX0_weightOfRest_40 : decode cX0_weightOfRest 40 = .ok (.iinc 4 1, 3) := by decide +kernel
theorem dX0_weightOfRest_43 : decode cX0_weightOfRest 43 = .ok (.goto (-38), 3) := by decide +kernel
theorem dX0_weightOfRest_46 : decode cX0_weightOfRest 46 = .ok (.lload_n 2, 1) := by decide +kernel
theorem dX0_weightOfRest_47 : decode cX0_weightOfRest 47 = .ok (.lreturn, 1) := by decide +kernel
theorem dX0_joinedIn_0 : decode cX0_joinedIn 0 = .ok (.aload_n 0, 1) := by decide +kernel
theorem dX0_joinedIn_1 : decode cX0_joinedIn 1 = .ok (.getfield 11, 3) := by decide +kernel
theorem dX0_joinedIn_4 : decode cX0_joinedIn 4 = .ok (.lload_n 1, 1) := by decide +kernel
theorem dX0_joinedIn_5 : decode cX0_joinedIn 5 = .ok (.ldc2_w 71, 3) := by decide +kernel
theorem dX0_joinedIn_8 : decode cX0_joinedIn 8 = .ok (.ldiv, 1) := by decide +kernel
theorem dX0_joinedIn_9 : decode cX0_joinedIn 9 = .ok (.l2i, 1) := by decide +kernel
theorem dX0_joinedIn_10 : decode cX0_joinedIn 10 = .ok (.isub, 1) := by decide +kernel
theorem dX0_joinedIn_11 : decode cX0_joinedIn 11 = .ok (.ireturn, 1) := by decide +kernel
theorem dX0_yardsIn_0 : decode cX0_yardsIn 0 = .ok (.lload_n 0, 1) := by decide +kernel
theorem dX0_yardsIn_1 : decode cX0_yardsIn 1 = .ok (.ldc2_w 71, 3) := by decide +kernel
theorem dX0_yardsIn_4 : decode cX0_yardsIn 4 = .ok (.lrem, 1) := by decide +kernel
theorem dX0_yardsIn_5 : decode cX0_yardsIn 5 = .ok (.ldc2_w 66, 3) := by decide +kernel
theorem dX0_yardsIn_8 : decode cX0_yardsIn 8 = .ok (.ldiv, 1) := by decide +kernel
theorem dX0_yardsIn_9 : decode cX0_yardsIn 9 = .ok (.l2i, 1) := by decide +kernel
theorem dX0_yardsIn_10 : decode cX0_yardsIn 10 = .ok (.ireturn, 1) := by decide +kernel
theorem dX0_choiceIn_0 : decode cX0_choiceIn 0 = .ok (.lload_n 0, 1) := by decide +kernel
theorem dX0_choiceIn_1 : decode cX0_choiceIn 1 = .ok (.ldc2_w 66, 3) := by decide +kernel
theorem dX0_choiceIn_4 : decode cX0_choiceIn 4 = .ok (.lrem, 1) := by decide +kernel
theorem dX0_choiceIn_5 : decode cX0_choiceIn 5 = .ok (.getstatic 68, 3) := by decide +kernel
theorem dX0_choiceIn_8 : decode cX0_choiceIn 8 = .ok (.iload_n 2, 1) := by decide +kernel
theorem dX0_choiceIn_9 : decode cX0_choiceIn 9 = .ok (.laload, 1) := by decide +kernel
theorem dX0_choiceIn_10 : decode cX0_choiceIn 10 = .ok (.ldiv, 1) := by decide +kernel
theorem dX0_choiceIn_11 : decode cX0_choiceIn 11 = .ok (.ldc2_w 75, 3) := by decide +kernel
theorem dX0_choiceIn_14 : decode cX0_choiceIn 14 = .ok (.lrem, 1) := by decide +kernel
theorem dX0_choiceIn_15 : decode cX0_choiceIn 15 = .ok (.l2i, 1) := by decide +kernel
theorem dX0_choiceIn_16 : decode cX0_choiceIn 16 = .ok (.istore_n 3, 1) := by decide +kernel
theorem dX0_choiceIn_17 : decode cX0_choiceIn 17 = .ok (.iload_n 3, 1) := by decide +kernel
theorem dX0_choiceIn_18 : decode cX0_choiceIn 18 = .ok (.bipush 12, 2) := by decide +kernel
theorem dX0_choiceIn_20 : decode cX0_choiceIn 20 = .ok (.if_icmp .ge 7, 3) := by decide +kernel
theorem dX0_choiceIn_23 : decode cX0_choiceIn 23 = .ok (.iload_n 3, 1) := by decide +kernel
theorem dX0_choiceIn_24 : decode cX0_choiceIn 24 = .ok (.goto 5, 3) := by decide +kernel
theorem dX0_choiceIn_27 : decode cX0_choiceIn 27 = .ok (.bipush (-9), 2) := by decide +kernel
theorem dX0_choiceIn_29 : decode cX0_choiceIn 29 = .ok (.ireturn, 1) := by decide +kernel
theorem dX1_init_0 : decode cX1_init 0 = .ok (.aload_n 0, 1) := by decide +kernel
theorem dX1_init_1 : decode cX1_init 1 = .ok (.invokespecial 3, 3) := by decide +kernel
theorem dX1_init_4 : decode cX1_init 4 = .ok (.aload_n 0, 1) := by decide +kernel
theorem dX1_init_5 : decode cX1_init 5 = .ok (.iconst 0, 1) := by decide +kernel
theorem dX1_init_6 : decode cX1_init 6 = .ok (.putfield 9, 3) := by decide +kernel
theorem dX1_init_9 : decode cX1_init 9 = .ok (.aload_n 0, 1) := by decide +kernel
theorem dX1_init_10 : decode cX1_init 10 = .ok (.iconst 0, 1) := by decide +kernel
theorem dX1_init_11 : decode cX1_init 11 = .ok (.putfield 15, 3) := by decide +kernel
theorem dX1_init_14 : decode cX1_init 14 = .ok (.aload_n 0, 1) := by decide +kernel
theorem dX1_init_15 : decode cX1_init 15 = .ok (.iconst 0, 1) := by decide +kernel
theorem dX1_init_16 : decode cX1_init 16 = .ok (.putfield 18, 3) := by decide +kernel
theorem dX1_init_19 : decode cX1_init 19 = .ok (.aload_n 0, 1) := by decide +kernel
theorem dX1_init_20 : decode cX1_init 20 = .ok (.bipush 40, 2) := by decide +kernel
theorem dX1_init_22 : decode cX1_init 22 = .ok (.newarray .int, 2) := by decide +kernel
theorem dX1_init_24 : decode cX1_init 24 = .ok (.putfield 21, 3) := by decide +kernel
theorem dX1_init_27 : decode cX1_init 27 = .ok (.aload_n 0, 1) := by decide +kernel
theorem dX1_init_28 : decode cX1_init 28 = .ok (.bipush 40, 2) := by decide +kernel
theorem dX1_init_30 : decode cX1_init 30 = .ok (.newarray .int, 2) := by decide +kernel
theorem dX1_init_32 : decode cX1_init 32 = .ok (.putfield 25, 3) := by decide +kernel
theorem dX1_init_35 : decode cX1_init 35 = .ok (.aload_n 0, 1) := by decide +kernel
theorem dX1_init_36 : decode cX1_init 36 = .ok (.bipush 40, 2) := by decide +kernel
theorem dX1_init_38 : decode cX1_init 38 = .ok (.newarray .int, 2) := by decide +kernel
theorem dX1_init_40 : decode cX1_init 40 = .ok (.putfield 28, 3) := by decide +kernel
theorem dX1_init_43 : decode cX1_init 43 = .ok (.aload_n 0, 1) := by decide +kernel
theorem dX1_init_44 : decode cX1_init 44 = .ok (.bipush 40, 2) := by decide +kernel
theorem dX1_init_46 : decode cX1_init 46 = .ok (.newarray .int, 2) := by decide +kernel
theorem dX1_init_48 : decode cX1_init 48 = .ok (.putfield 31, 3) := by decide +kernel
theorem dX1_init_51 : decode cX1_init 51 = .ok (.aload_n 0, 1) := by decide +kernel
theorem dX1_init_52 : decode cX1_init 52 = .ok (.bipush 40, 2) := by decide +kernel
theorem dX1_init_54 : decode cX1_init 54 = .ok (.newarray .boolean, 2) := by decide +kernel
theorem dX1_init_56 : decode cX1_init 56 = .ok (.putfield 34, 3) := by decide +kernel
theorem dX1_init_59 : decode cX1_init 59 = .ok (.aload_n 0, 1) := by decide +kernel
theorem dX1_init_60 : decode cX1_init 60 = .ok (.bipush 40, 2) := by decide +kernel
theorem dX1_init_62 : decode cX1_init 62 = .ok (.newarray .int, 2) := by decide +kernel
theorem dX1_init_64 : decode cX1_init 64 = .ok (.putfield 38, 3) := by decide +kernel
theorem dX1_init_67 : decode cX1_init 67 = .ok (.aload_n 0, 1) := by decide +kernel
theorem dX1_init_68 : decode cX1_init 68 = .ok (.bipush 40, 2) := by decide +kernel
theorem dX1_init_70 : decode cX1_init 70 = .ok (.newarray .int, 2) := by decide +kernel
theorem dX1_init_72 : decode cX1_init 72 = .ok (.putfield 41, 3) := by decide +kernel
theorem dX1_init_75 : decode cX1_init 75 = .ok (.aload_n 0, 1) := by decide +kernel
theorem dX1_init_76 : decode cX1_init 76 = .ok (.bipush 40, 2) := by decide +kernel
theorem dX1_init_78 : decode cX1_init 78 = .ok (.newarray .int, 2) := by decide +kernel
theorem dX1_init_80 : decode cX1_init 80 = .ok (.putfield 44, 3) := by decide +kernel
theorem dX1_init_83 : decode cX1_init 83 = .ok (.aload_n 0, 1) := by decide +kernel
theorem dX1_init_84 : decode cX1_init 84 = .ok (.bipush 40, 2) := by decide +kernel
theorem dX1_init_86 : decode cX1_init 86 = .ok (.newarray .int, 2) := by decide +kernel
theorem dX1_init_88 : decode cX1_init 88 = .ok (.putfield 47, 3) := by decide +kernel
theorem dX1_init_91 : decode cX1_init 91 = .ok (.return_, 1) := by decide +kernel
theorem dX1_add_0 : decode cX1_add 0 = .ok (.aload_n 0, 1) := by decide +kernel
theorem dX1_add_1 : decode cX1_add 1 = .ok (.getfield 9, 3) := by decide +kernel
theorem dX1_add_4 : decode cX1_add 4 = .ok (.istore 5, 2) := by decide +kernel
theorem dX1_add_6 : decode cX1_add 6 = .ok (.aload_n 0, 1) := by decide +kernel
theorem dX1_add_7 : decode cX1_add 7 = .ok (.getfield 21, 3) := by decide +kernel
theorem dX1_add_10 : decode cX1_add 10 = .ok (.iload 5, 2) := by decide +kernel
theorem dX1_add_12 : decode cX1_add 12 = .ok (.iload_n 1, 1) := by decide +kernel
theorem dX1_add_13 : decode cX1_add 13 = .ok (.iastore, 1) := by decide +kernel
theorem dX1_add_14 : decode cX1_add 14 = .ok (.aload_n 0, 1) := by decide +kernel
theorem dX1_add_15 : decode cX1_add 15 = .ok (.getfield 25, 3) := by decide +kernel
theorem dX1_add_18 : decode cX1_add 18 = .ok (.iload 5, 2) := by decide +kernel
theorem dX1_add_20 : decode cX1_add 20 = .ok (.iload_n 2, 1) := by decide +kernel
theorem dX1_add_21 : decode cX1_add 21 = .ok (.iastore, 1) := by decide +kernel
theorem dX1_add_22 : decode cX1_add 22 = .ok (.aload_n 0, 1) := by decide +kernel
theorem dX1_add_23 : decode cX1_add 23 = .ok (.getfield 28, 3) := by decide +kernel
theorem dX1_add_26 : decode cX1_add 26 = .ok (.iload 5, 2) := by decide +kernel
theorem dX1_add_28 : decode cX1_add 28 = .ok (.iload_n 3, 1) := by decide +kernel
theorem dX1_add_29 : decode cX1_add 29 = .ok (.iastore, 1) := by decide +kernel
theorem dX1_add_30 : decode cX1_add 30 = .ok (.aload_n 0, 1) := by decide +kernel
theorem dX1_add_31 : decode cX1_add 31 = .ok (.getfield 31, 3) := by decide +kernel
theorem dX1_add_34 : decode cX1_add 34 = .ok (.iload 5, 2) := by decide +kernel
theorem dX1_add_36 : decode cX1_add 36 = .ok (.iload 4, 2) := by decide +kernel
theorem dX1_add_38 : decode cX1_add 38 = .ok (.iastore, 1) := by decide +kernel
theorem dX1_add_39 : decode cX1_add 39 = .ok (.aload_n 0, 1) := by decide +kernel
theorem dX1_add_40 : decode cX1_add 40 = .ok (.getfield 34, 3) := by decide +kernel
theorem dX1_add_43 : decode cX1_add 43 = .ok (.iload 5, 2) := by decide +kernel
theorem dX1_add_45 : decode cX1_add 45 = .ok (.iconst 1, 1) := by decide +kernel
theorem dX1_add_46 : decode cX1_add 46 = .ok (.bastore, 1) := by decide +kernel
theorem dX1_add_47 : decode cX1_add 47 = .ok (.aload_n 0, 1) := by decide +kernel
theorem dX1_add_48 : decode cX1_add 48 = .ok (.getfield 38, 3) := by decide +kernel
theorem dX1_add_51 : decode cX1_add 51 = .ok (.iload 5, 2) := by decide +kernel
theorem dX1_add_53 : decode cX1_add 53 = .ok (.iconst 0, 1) := by decide +kernel
theorem dX1_add_54 : decode cX1_add 54 = .ok (.iastore, 1) := by decide +kernel
theorem dX1_add_55 : decode cX1_add 55 = .ok (.aload_n 0, 1) := by decide +kernel
theorem dX1_add_56 : decode cX1_add 56 = .ok (.getfield 41, 3) := by decide +kernel
theorem dX1_add_59 : decode cX1_add 59 = .ok (.iload 5, 2) := by decide +kernel
theorem dX1_add_61 : decode cX1_add 61 = .ok (.sipush 1049, 3) := by decide +kernel
theorem dX1_add_64 : decode cX1_add 64 = .ok (.iastore, 1) := by decide +kernel
theorem dX1_add_65 : decode cX1_add 65 = .ok (.aload_n 0, 1) := by decide +kernel
theorem dX1_add_66 : decode cX1_add 66 = .ok (.getfield 44, 3) := by decide +kernel
theorem dX1_add_69 : decode cX1_add 69 = .ok (.iload 5, 2) := by decide +kernel
theorem dX1_add_71 : decode cX1_add 71 = .ok (.bipush (-9), 2) := by decide +kernel
theorem dX1_add_73 : decode cX1_add 73 = .ok (.iastore, 1) := by decide +kernel
theorem dX1_add_74 : decode cX1_add 74 = .ok (.aload_n 0, 1) := by decide +kernel
theorem dX1_add_75 : decode cX1_add 75 = .ok (.dup, 1) := by decide +kernel
theorem dX1_add_76 : decode cX1_add 76 = .ok (.getfield 9, 3) := by decide +kernel
theorem dX1_add_79 : decode cX1_add 79 = .ok (.iconst 1, 1) := by decide +kernel
theorem dX1_add_80 : decode cX1_add 80 = .ok (.iadd, 1) := by decide +kernel
theorem dX1_add_81 : decode cX1_add 81 = .ok (.putfield 9, 3) := by decide +kernel
theorem dX1_add_84 : decode cX1_add 84 = .ok (.iload 5, 2) := by decide +kernel
theorem dX1_add_86 : decode cX1_add 86 = .ok (.ireturn, 1) := by decide +kernel
theorem dX1_cutSpan_0 : decode cX1_cutSpan 0 = .ok (.iconst 0, 1) := by decide +kernel
theorem dX1_cutSpan_1 : decode cX1_cutSpan 1 = .ok (.iload_n 2, 1) := by decide +kernel
theorem dX1_cutSpan_2 : decode cX1_cutSpan 2 = .ok (.iload_n 3, 1) := by decide +kernel
theorem dX1_cutSpan_3 : decode cX1_cutSpan 3 = .ok (.isub, 1) := by decide +kernel
theorem dX1_cutSpan_4 : decode cX1_cutSpan 4 = .ok (.invokestatic 50, 3) := by decide +kernel
theorem dX1_cutSpan_7 : decode cX1_cutSpan 7 = .ok (.istore 4, 2) := by decide +kernel
theorem dX1_cutSpan_9 : decode cX1_cutSpan 9 = .ok (.iload_n 2, 1) := by decide +kernel
theorem dX1_cutSpan_10 : decode cX1_cutSpan 10 = .ok (.iload_n 3, 1) := by decide +kernel
theorem dX1_cutSpan_11 : decode cX1_cutSpan 11 = .ok (.iadd, 1) := by decide +kernel
theorem dX1_cutSpan_12 : decode cX1_cutSpan 12 = .ok (.istore 5, 2) := by decide +kernel
theorem dX1_cutSpan_14 : decode cX1_cutSpan 14 = .ok (.iload 4, 2) := by decide +kernel
theorem dX1_cutSpan_16 : decode cX1_cutSpan 16 = .ok (.aload_n 0, 1) := by decide +kernel
theorem dX1_cutSpan_17 : decode cX1_cutSpan 17 = .ok (.getfield 41, 3) := by decide +kernel
theorem dX1_cutSpan_20 : decode cX1_cutSpan 20 = .ok (.iload_n 1, 1) := by decide +kernel
theorem dX1_cutSpan_21 : decode cX1_cutSpan 21 = .ok (.iaload, 1) := by decide +kernel
theorem dX1_cutSpan_22 : decode cX1_cutSpan 22 = .ok (.if_icmp .gt 18, 3) := by decide +kernel
theorem dX1_cutSpan_25 : decode cX1_cutSpan 25 = .ok (.iload 5, 2) := by decide +kernel
theorem dX1_cutSpan_27 : decode cX1_cutSpan 27 = .ok (.aload_n 0, 1) := by decide +kernel
theorem dX1_cutSpan_28 : decode cX1_cutSpan 28 = .ok (.getfield 38, 3) := by decide +kernel
theorem dX1_cutSpan_31 : decode cX1_cutSpan 31 = .ok (.iload_n 1, 1) := by decide +kernel
theorem dX1_cutSpan_32 : decode cX1_cutSpan 32 = .ok (.iaload, 1) := by decide +kernel
theorem dX1_cutSpan_33 : decode cX1_cutSpan 33 = .ok (.if_icmp .lt 7, 3) := by decide +kernel
theorem dX1_cutSpan_36 : decode cX1_cutSpan 36 = .ok (.iconst 1, 1) := by decide +kernel
theorem dX1_cutSpan_37 : decode cX1_cutSpan 37 = .ok (.goto 4, 3) := by decide +kernel
theorem dX1_cutSpan_40 : decode cX1_cutSpan 40 = .ok (.iconst 0, 1) := by decide +kernel
theorem dX1_cutSpan_41 : decode cX1_cutSpan 41 = .ok (.istore 6, 2) := by decide +kernel
theorem dX1_cutSpan_43 : decode cX1_cutSpan 43 = .ok (.aload_n 0, 1) := by decide +kernel
theorem dX1_cutSpan_44 : decode cX1_cutSpan 44 = .ok (.getfield 38, 3) := by decide +kernel
theorem dX1_cutSpan_47 : decode cX1_cutSpan 47 = .ok (.iload_n 1, 1) := by decide +kernel
theorem dX1_cutSpan_48 : decode cX1_cutSpan 48 = .ok (.iload 6, 2) := by decide +kernel
theorem dX1_cutSpan_50 : decode cX1_cutSpan 50 = .ok (.ifCond .eq 17, 3) := by decide +kernel
theorem dX1_cutSpan_53 : decode cX1_cutSpan 53 = .ok (.aload_n 0, 1) := by decide +kernel
theorem dX1_cutSpan_54 : decode cX1_cutSpan 54 = .ok (.getfield 38, 3) := by decide +kernel
theorem dX1_cutSpan_57 : decode cX1_cutSpan 57 = .ok (.iload_n 1, 1) := by decide +kernel
theorem dX1_cutSpan_58 : decode cX1_cutSpan 58 = .ok (.iaload, 1) := by decide +kernel
theorem dX1_cutSpan_59 : decode cX1_cutSpan 59 = .ok (.iload 4, 2) := by decide +kernel
theorem dX1_cutSpan_61 : decode cX1_cutSpan 61 = .ok (.invokestatic 50, 3) := by decide +kernel
theorem dX1_cutSpan_64 : decode cX1_cutSpan 64 = .ok (.goto 5, 3) := by decide +kernel
theorem dX1_cutSpan_67 : decode cX1_cutSpan 67 = .ok (.iload 4, 2) := by decide +kernel
theorem dX1_cutSpan_69 : decode cX1_cutSpan 69 = .ok (.iastore, 1) := by decide +kernel
theorem dX1_cutSpan_70 : decode cX1_cutSpan 70 = .ok (.aload_n 0, 1) := by decide +kernel
theorem dX1_cutSpan_71 : decode cX1_cutSpan 71 = .ok (.getfield 41, 3) := by decide +kernel
theorem dX1_cutSpan_74 : decode cX1_cutSpan 74 = .ok (.iload_n 1, 1) := by decide +kernel
theorem dX1_cutSpan_75 : decode cX1_cutSpan 75 = .ok (.iload 6, 2) := by decide +kernel
theorem dX1_cutSpan_77 : decode cX1_cutSpan 77 = .ok (.ifCond .eq 17, 3) := by decide +kernel
theorem dX1_cutSpan_80 : decode cX1_cutSpan 80 = .ok (.aload_n 0, 1) := by decide +kernel
theorem dX1_cutSpan_81 : decode cX1_cutSpan 81 = .ok (.getfield 41, 3) := by decide +kernel
theorem dX1_cutSpan_84 : decode cX1_cutSpan 84 = .ok (.iload_n 1, 1) := by decide +kernel
theorem dX1_cutSpan_85 : decode cX1_cutSpan 85 = .ok (.iaload, 1) := by decide +kernel
theorem dX1_cutSpan_86 : decode cX1_cutSpan 86 = .ok (.iload 5, 2) := by decide +kernel
theorem dX1_cutSpan_88 : decode cX1_cutSpan 88 = .ok (.invokestatic 56, 3) := by decide +kernel
theorem dX1_cutSpan_91 : decode cX1_cutSpan 91 = .ok (.goto 5, 3) := by decide +kernel
theorem dX1_cutSpan_94 : decode cX1_cutSpan 94 = .ok (.iload 5, 2) := by decide +kernel
theorem dX1_cutSpan_96 : decode cX1_cutSpan 96 = .ok (.iastore, 1) := by decide +kernel
theorem dX1_cutSpan_97 : decode cX1_cutSpan 97 = .ok (.aload_n 0, 1) := by decide +kernel
theorem dX1_cutSpan_98 : decode cX1_cutSpan 98 = .ok (.dup, 1) := by decide +kernel
theorem dX1_cutSpan_99 : decode cX1_cutSpan 99 = .ok (.getfield 15, 3) := by decide +kernel
theorem dX1_cutSpan_102 : decode cX1_cutSpan 102 = .ok (.iconst 1, 1) := by decide +kernel
theorem dX1_cutSpan_103 : decode cX1_cutSpan 103 = .ok (.iadd, 1) := by decide +kernel
theorem dX1_cutSpan_104 : decode cX1_cutSpan 104 = .ok (.putfield 15, 3) := by decide +kernel
theorem dX1_cutSpan_107 : decode cX1_cutSpan 107 = .ok (.iload 6, 2) := by decide +kernel
theorem dX1_cutSpan_109 : decode cX1_cutSpan 109 = .ok (.ifCond .ne 13, 3) := by decide +kernel
theorem dX1_cutSpan_112 : decode cX1_cutSpan 112 = .ok (.aload_n 0, 1) := by decide +kernel
theorem dX1_cutSpan_113 : decode cX1_cutSpan 113 = .ok (.dup, 1) := by decide +kernel
theorem dX1_cutSpan_114 : decode cX1_cutSpan 114 = .ok (.getfield 18, 3) := by decide +kernel
theorem dX1_cutSpan_117 : decode cX1_cutSpan 117 = .ok (.iconst 1, 1) := by decide +kernel
theorem dX1_cutSpan_118 : decode cX1_cutSpan 118 = .ok (.iadd, 1) := by decide +kernel
theorem dX1_cutSpan_119 : decode cX1_cutSpan 119 = .ok (.putfield 18, 3) := by decide +kernel
theorem dX1_cutSpan_122 : decode cX1_cutSpan 122 = .ok (.iload 6, 2) := by decide +kernel
theorem dX1_cutSpan_124 : decode cX1_cutSpan 124 = .ok (.ireturn, 1) := by decide +kernel
theorem dX1_note_0 : decode cX1_note 0 = .ok (.aload_n 0, 1) := by decide +kernel
theorem dX1_note_1 : decode cX1_note 1 = .ok (.getfield 44, 3) := by decide +kernel
theorem dX1_note_4 : decode cX1_note 4 = .ok (.iload_n 1, 1) := by decide +kernel
theorem dX1_note_5 : decode cX1_note 5 = .ok (.iaload, 1) := by decide +kernel
theorem dX1_note_6 : decode cX1_note 6 = .ok (.iload_n 2, 1) := by decide +kernel
theorem dX1_note_7 : decode cX1_note 7 = .ok (.if_icmp .eq 17, 3) := by decide +kernel
theorem dX1_note_10 : decode cX1_note 10 = .ok (.aload_n 0, 1) := by decide +kernel
theorem dX1_note_11 : decode cX1_note 11 = .ok (.getfield 44, 3) := by decide +kernel
theorem dX1_note_14 : decode cX1_note 14 = .ok (.iload_n 1, 1) := by decide +kernel
theorem dX1_note_15 : decode cX1_note 15 = .ok (.iload_n 2, 1) := by decide +kernel
theorem dX1_note_16 : decode cX1_note 16 = .ok (.iastore, 1) := by decide +kernel
theorem dX1_note_17 : decode cX1_note 17 = .ok (.aload_n 0, 1) := by decide +kernel
theorem dX1_note_18 : decode cX1_note 18 = .ok (.getfield 47, 3) := by decide +kernel
theorem dX1_note_21 : decode cX1_note 21 = .ok (.iload_n 1, 1) := by decide +kernel
theorem dX1_note_22 : decode cX1_note 22 = .ok (.iload_n 3, 1) := by decide +kernel
theorem dX1_note_23 : decode cX1_note 23 = .ok (.iastore, 1) := by decide +kernel
theorem dX1_note_24 : decode cX1_note 24 = .ok (.return_, 1) := by decide +kernel
theorem dX1_grow_0 : decode cX1_grow 0 = .ok (.iconst 0, 1) := by decide +kernel
theorem dX1_grow_1 : decode cX1_grow 1 = .ok (.istore 4, 2) := by decide +kernel
theorem dX1_grow_3 : decode cX1_grow 3 = .ok (.iload 4, 2) := by decide +kernel
theorem dX1_grow_5 : decode cX1_grow 5 = .ok (.aload_n 0, 1) := by decide +kernel
theorem dX1_grow_6 : decode cX1_grow 6 = .ok (.getfield 9, 3) := by decide +kernel
theorem dX1_grow_9 : decode cX1_grow 9 = .ok (.if_icmp .ge 43, 3) := by decide +kernel
theorem dX1_grow_12 : decode cX1_grow 12 = .ok (.aload_n 0, 1) := by decide +kernel
theorem dX1_grow_13 : decode cX1_grow 13 = .ok (.getfield 34, 3) := by decide +kernel
theorem dX1_grow_16 : decode cX1_grow 16 = .ok (.iload 4, 2) := by decide +kernel
theorem dX1_grow_18 : decode cX1_grow 18 = .ok (.baload, 1) := by decide +kernel
theorem dX1_grow_19 : decode cX1_grow 19 = .ok (.ifCond .eq 27, 3) := by decide +kernel
theorem dX1_grow_22 : decode cX1_grow 22 = .ok (.aload_n 0, 1) := by decide +kernel
theorem dX1_grow_23 : decode cX1_grow 23 = .ok (.getfield 41, 3) := by decide +kernel
theorem dX1_grow_26 : decode cX1_grow 26 = .ok (.iload 4, 2) := by decide +kernel
theorem dX1_grow_28 : decode cX1_grow 28 = .ok (.dup2, 1) := by decide +kernel
theorem dX1_grow_29 : decode cX1_grow 29 = .ok (.iaload, 1) := by decide +kernel
theorem dX1_grow_30 : decode cX1_grow 30 = .ok (.iload_n 1, 1) := by decide +kernel
theorem dX1_grow_31 : decode cX1_grow 31 = .ok (.iload_n 2, 1) := by decide +kernel
theorem dX1_grow_32 : decode cX1_grow 32 = .ok (.aload_n 3, 1) := by decide +kernel
theorem dX1_grow_33 : decode cX1_grow 33 = .ok (.aload_n 0, 1) := by decide +kernel
theorem dX1_grow_34 : decode cX1_grow 34 = .ok (.getfield 31, 3) := by decide +kernel
theorem dX1_grow_37 : decode cX1_grow 37 = .ok (.iload 4, 2) := by decide +kernel
theorem dX1_grow_39 : decode cX1_grow 39 = .ok (.iaload, 1) := by decide +kernel
theorem dX1_grow_40 : decode cX1_grow 40 = .ok (.iaload, 1) := by decide +kernel
theorem dX1_grow_41 : decode cX1_grow 41 = .ok (.invokestatic 59, 3) := by decide +kernel
theorem dX1_grow_44 : decode cX1_grow 44 = .ok (.iadd, 1) := by decide +kernel
theorem dX1_grow_45 : decode cX1_grow 45 = .ok (.iastore, 1) := by decide +kernel
theorem dX1_grow_46 : decode cX1_grow 46 = .ok (.iinc 4 1, 3) := by decide +kernel
theorem dX1_grow_49 : decode cX1_grow 49 = .ok (.goto (-46), 3) := by decide +kernel
theorem dX1_grow_52 : decode cX1_grow 52 = .ok (.return_, 1) := by decide +kernel
theorem dX1_mostGrowth_0 : decode cX1_mostGrowth 0 = .ok (.iload_n 0, 1) := by decide +kernel
theorem dX1_mostGrowth_1 : decode cX1_mostGrowth 1 = .ok (.iload_n 2, 1) := by decide +kernel
theorem dX1_mostGrowth_2 : decode cX1_mostGrowth 2 = .ok (.imul, 1) := by decide +kernel
theorem dX1_mostGrowth_3 : decode cX1_mostGrowth 3 = .ok (.istore_n 3, 1) := by decide +kernel
theorem dX1_mostGrowth_4 : decode cX1_mostGrowth 4 = .ok (.iload_n 1, 1) := by decide +kernel
theorem dX1_mostGrowth_5 : decode cX1_mostGrowth 5 = .ok (.bipush 15, 2) := by decide +kernel
theorem dX1_mostGrowth_7 : decode cX1_mostGrowth 7 = .ok (.if_icmp .lt 9, 3) := by decide +kernel
theorem dX1_mostGrowth_10 : decode cX1_mostGrowth 10 = .ok (.iload_n 3, 1) := by decide +kernel
theorem dX1_mostGrowth_11 : decode cX1_mostGrowth 11 = .ok (.iload_n 3, 1) := by decide +kernel
theorem dX1_mostGrowth_12 : decode cX1_mostGrowth 12 = .ok (.iconst 2, 1) := by decide +kernel
theorem dX1_mostGrowth_13 : decode cX1_mostGrowth 13 = .ok (.idiv, 1) := by decide +kernel
theorem dX1_mostGrowth_14 : decode cX1_mostGrowth 14 = .ok (.iadd, 1) := by decide +kernel
theorem dX1_mostGrowth_15 : decode cX1_mostGrowth 15 = .ok (.istore_n 3, 1) := by decide +kernel
theorem dX1_mostGrowth_16 : decode cX1_mostGrowth 16 = .ok (.iconst 1, 1) := by decide +kernel
theorem dX1_mostGrowth_17 : decode cX1_mostGrowth 17 = .ok (.iload_n 3, 1) := by decide +kernel
theorem dX1_mostGrowth_18 : decode cX1_mostGrowth 18 = .ok (.bipush 100, 2) := by decide +kernel
theorem dX1_mostGrowth_20 : decode cX1_mostGrowth 20 = .ok (.idiv, 1) := by decide +kernel
theorem dX1_mostGrowth_21 : decode cX1_mostGrowth 21 = .ok (.iadd, 1) := by decide +kernel
theorem dX1_mostGrowth_22 : decode cX1_mostGrowth 22 = .ok (.ireturn, 1) := by decide +kernel
theorem dX1_countOpen_0 : decode cX1_countOpen 0 = .ok (.iconst 0, 1) := by decide +kernel
theorem dX1_countOpen_1 : decode cX1_countOpen 1 = .ok (.istore_n 1, 1) := by decide +kernel
theorem dX1_countOpen_2 : decode cX1_countOpen 2 = .ok (.iconst 0, 1) := by decide +kernel
theorem dX1_countOpen_3 : decode cX1_countOpen 3 = .ok (.istore_n 2, 1) := by decide +kernel
theorem dX1_countOpen_4 : decode cX1_countOpen 4 = .ok (.iload_n 2, 1) := by decide +kernel
theorem dX1_countOpen_5 : decode cX1_countOpen 5 = .ok (.aload_n 0, 1) := by decide +kernel
theorem dX1_countOpen_6 : decode cX1_countOpen 6 = .ok (.getfield 9, 3) := by decide +kernel
theorem dX1_countOpen_9 : decode cX1_countOpen 9 = .ok (.if_icmp .ge 21, 3) := by decide +kernel
theorem dX1_countOpen_12 : decode cX1_countOpen 12 = .ok (.aload_n 0, 1) := by decide +kernel
theorem dX1_countOpen_13 : decode cX1_countOpen 13 = .ok (.getfield 34, 3) := by decide +kernel
theorem dX1_countOpen_16 : decode cX1_countOpen 16 = .ok (.iload_n 2, 1) := by decide +kernel
theorem dX1_countOpen_17 : decode cX1_countOpen 17 = .ok (.baload, 1) := by decide +kernel
theorem dX1_countOpen_18 : decode cX1_countOpen 18 = .ok (.ifCond .eq 6, 3) := by decide +kernel
theorem dX1_countOpen_21 : decode cX1_countOpen 21 = .ok (.iinc 1 1, 3) := by decide +kernel
theorem dX1_countOpen_24 : decode cX1_countOpen 24 = .ok (.iinc 2 1, 3) := by decide +kernel
theorem dX1_countOpen_27 : decode cX1_countOpen 27 = .ok (.goto (-23), 3) := by decide +kernel
theorem dX1_countOpen_30 : decode cX1_countOpen 30 = .ok (.iload_n 1, 1) := by decide +kernel
theorem dX1_countOpen_31 : decode cX1_countOpen 31 = .ok (.ireturn, 1) := by decide +kernel
theorem dX1_countOpenIn_0 : decode cX1_countOpenIn 0 = .ok (.iconst 0, 1) := by decide +kernel
theorem dX1_countOpenIn_1 : decode cX1_countOpenIn 1 = .ok (.istore_n 2, 1) := by decide +kernel
theorem dX1_countOpenIn_2 : decode cX1_countOpenIn 2 = .ok (.iconst 0, 1) := by decide +kernel
theorem dX1_countOpenIn_3 : decode cX1_countOpenIn 3 = .ok (.istore_n 3, 1) := by decide +kernel
theorem dX1_countOpenIn_4 : decode cX1_countOpenIn 4 = .ok (.iload_n 3, 1) := by decide +kernel
theorem dX1_countOpenIn_5 : decode cX1_countOpenIn 5 = .ok (.aload_n 0, 1) := by decide +kernel
theorem dX1_countOpenIn_6 : decode cX1_countOpenIn 6 = .ok (.getfield 9, 3) := by decide +kernel
theorem dX1_countOpenIn_9 : decode cX1_countOpenIn 9 = .ok (.if_icmp .ge 31, 3) := by decide +kernel
theorem dX1_countOpenIn_12 : decode cX1_countOpenIn 12 = .ok (.aload_n 0, 1) := by decide +kernel
theorem dX1_countOpenIn_13 : decode cX1_countOpenIn 13 = .ok (.getfield 34, 3) := by decide +kernel
theorem dX1_countOpenIn_16 : decode cX1_countOpenIn 16 = .ok (.iload_n 3, 1) := by decide +kernel
theorem dX1_countOpenIn_17 : decode cX1_countOpenIn 17 = .ok (.baload, 1) := by decide +kernel
theorem dX1_countOpenIn_18 : decode cX1_countOpenIn 18 = .ok (.ifCond .eq 16, 3) := by decide +kernel
theorem dX1_countOpenIn_21 : decode cX1_countOpenIn 21 = .ok (.aload_n 0, 1) := by decide +kernel
theorem dX1_countOpenIn_22 : decode cX1_countOpenIn 22 = .ok (.getfield 21, 3) := by decide +kernel
theorem dX1_countOpenIn_25 : decode cX1_countOpenIn 25 = .ok (.iload_n 3, 1) := by decide +kernel
theorem dX1_countOpenIn_26 : decode cX1_countOpenIn 26 = .ok (.iaload, 1) := by decide +kernel
theorem dX1_countOpenIn_27 : decode cX1_countOpenIn 27 = .ok (.iload_n 1, 1) := by decide +kernel
theorem dX1_countOpenIn_28 : decode cX1_countOpenIn 28 = .ok (.if_icmp .ne 6, 3) := by decide +kernel
theorem dX1_countOpenIn_31 : decode cX1_countOpenIn 31 = .ok (.iinc 2 1, 3) := by decide +kernel
theorem dX1_countOpenIn_34 : decode cX1_countOpenIn 34 = .ok (.iinc 3 1, 3) := by decide +kernel
theorem dX1_countOpenIn_37 : decode cX1_countOpenIn 37 = .ok (.goto (-33), 3) := by decide +kernel
theorem dX1_countOpenIn_40 : decode cX1_countOpenIn 40 = .ok (.iload_n 2, 1) := by decide +kernel
theorem dX1_countOpenIn_41 : decode cX1_countOpenIn 41 = .ok (.ireturn, 1) := by decide +kernel
theorem dX1_openOne_0 : decode cX1_openOne 0 = .ok (.iconst 0, 1) := by decide +kernel
theorem dX1_openOne_1 : decode cX1_openOne 1 = .ok (.istore_n 2, 1) := by decide +kernel
theorem dX1_openOne_2 : decode cX1_openOne 2 = .ok (.iconst 0, 1) := by decide +kernel
theorem dX1_openOne_3 : decode cX1_openOne 3 = .ok (.istore_n 3, 1) := by decide +kernel
theorem dX1_openOne_4 : decode cX1_openOne 4 = .ok (.iload_n 3, 1) := by decide +kernel
theorem dX1_openOne_5 : decode cX1_openOne 5 = .ok (.aload_n 0, 1) := by decide +kernel
theorem dX1_openOne_6 : decode cX1_openOne 6 = .ok (.getfield 9, 3) := by decide +kernel
theorem dX1_openOne_9 : decode cX1_openOne 9 = .ok (.if_icmp .ge 28, 3) := by decide +kernel
theorem dX1_openOne_12 : decode cX1_openOne 12 = .ok (.aload_n 0, 1) := by decide +kernel
theorem dX1_openOne_13 : decode cX1_openOne 13 = .ok (.getfield 34, 3) := by decide +kernel
theorem dX1_openOne_16 : decode cX1_openOne 16 = .ok (.iload_n 3, 1) := by decide +kernel
theorem dX1_openOne_17 : decode cX1_openOne 17 = .ok (.baload, 1) := by decide +kernel
theorem dX1_openOne_18 : decode cX1_openOne 18 = .ok (.ifCond .eq 13, 3) := by decide +kernel
theorem dX1_openOne_21 : decode cX1_openOne 21 = .ok (.iload_n 2, 1) := by decide +kernel
theorem dX1_openOne_22 : decode cX1_openOne 22 = .ok (.iload_n 1, 1) := by decide +kernel
theorem dX1_openOne_23 : decode cX1_openOne 23 = .ok (.if_icmp .ne 5, 3) := by decide +kernel
theorem dX1_openOne_26 : decode cX1_openOne 26 = .ok (.iload_n 3, 1) := by decide +kernel
theorem dX1_openOne_27 : decode cX1_openOne 27 = .ok (.ireturn, 1) := by decide +kernel
theorem dX1_openOne_28 : decode cX1_openOne 28 = .ok (.iinc 2 1, 3) := by decide +kernel
theorem dX1_openOne_31 : decode cX1_openOne 31 = .ok (.iinc 3 1, 3) := by decide +kernel
theorem dX1_openOne_34 : decode cX1_openOne 34 = .ok (.goto (-30), 3) := by decide +kernel
theorem dX1_openOne_37 : decode cX1_openOne 37 = .ok (.bipush (-9), 2) := by decide +kernel
theorem dX1_openOne_39 : decode cX1_openOne 39 = .ok (.ireturn, 1) := by decide +kernel
theorem dX2_init_0 : decode cX2_init 0 = .ok (.aload_n 0, 1) := by decide +kernel
theorem dX2_init_1 : decode cX2_init 1 = .ok (.invokespecial 3, 3) := by decide +kernel
theorem dX2_init_4 : decode cX2_init 4 = .ok (.aload_n 0, 1) := by decide +kernel
theorem dX2_init_5 : decode cX2_init 5 = .ok (.bipush 20, 2) := by decide +kernel
theorem dX2_init_7 : decode cX2_init 7 = .ok (.newarray .int, 2) := by decide +kernel
theorem dX2_init_9 : decode cX2_init 9 = .ok (.putfield 9, 3) := by decide +kernel
theorem dX2_init_12 : decode cX2_init 12 = .ok (.aload_n 0, 1) := by decide +kernel
theorem dX2_init_13 : decode cX2_init 13 = .ok (.bipush 20, 2) := by decide +kernel
theorem dX2_init_15 : decode cX2_init 15 = .ok (.newarray .int, 2) := by decide +kernel
theorem dX2_init_17 : decode cX2_init 17 = .ok (.putfield 15, 3) := by decide +kernel
theorem dX2_init_20 : decode cX2_init 20 = .ok (.aload_n 0, 1) := by decide +kernel
theorem dX2_init_21 : decode cX2_init 21 = .ok (.bipush 20, 2) := by decide +kernel
theorem dX2_init_23 : decode cX2_init 23 = .ok (.newarray .int, 2) := by decide +kernel
theorem dX2_init_25 : decode cX2_init 25 = .ok (.putfield 18, 3) := by decide +kernel
theorem dX2_init_28 : decode cX2_init 28 = .ok (.return_, 1) := by decide +kernel
theorem dX2_hasRoom_0 : decode cX2_hasRoom 0 = .ok (.aload_n 0, 1) := by decide +kernel
theorem dX2_hasRoom_1 : decode cX2_hasRoom 1 = .ok (.getfield 9, 3) := by decide +kernel
theorem dX2_hasRoom_4 : decode cX2_hasRoom 4 = .ok (.iload_n 1, 1) := by decide +kernel
theorem dX2_hasRoom_5 : decode cX2_hasRoom 5 = .ok (.iaload, 1) := by decide +kernel
theorem dX2_hasRoom_6 : decode cX2_hasRoom 6 = .ok (.iload_n 2, 1) := by decide +kernel
theorem dX2_hasRoom_7 : decode cX2_hasRoom 7 = .ok (.iadd, 1) := by decide +kernel
theorem dX2_hasRoom_8 : decode cX2_hasRoom 8 = .ok (.bipush 99, 2) := by decide +kernel
theorem dX2_hasRoom_10 : decode cX2_hasRoom 10 = .ok (.if_icmp .gt 34, 3) := by decide +kernel
theorem dX2_hasRoom_13 : decode cX2_hasRoom 13 = .ok (.aload_n 0, 1) := by decide +kernel
theorem dX2_hasRoom_14 : decode cX2_hasRoom 14 = .ok (.getfield 15, 3) := by decide +kernel
theorem dX2_hasRoom_17 : decode cX2_hasRoom 17 = .ok (.iload_n 1, 1) := by decide +kernel
theorem dX2_hasRoom_18 : decode cX2_hasRoom 18 = .ok (.iaload, 1) := by decide +kernel
theorem dX2_hasRoom_19 : decode cX2_hasRoom 19 = .ok (.iload_n 3, 1) := by decide +kernel
theorem dX2_hasRoom_20 : decode cX2_hasRoom 20 = .ok (.iadd, 1) := by decide +kernel
theorem dX2_hasRoom_21 : decode cX2_hasRoom 21 = .ok (.bipush 99, 2) := by decide +kernel
theorem dX2_hasRoom_23 : decode cX2_hasRoom 23 = .ok (.if_icmp .gt 21, 3) := by decide +kernel
theorem dX2_hasRoom_26 : decode cX2_hasRoom 26 = .ok (.aload_n 0, 1) := by decide +kernel
theorem dX2_hasRoom_27 : decode cX2_hasRoom 27 = .ok (.getfield 18, 3) := by decide +kernel
theorem dX2_hasRoom_30 : decode cX2_hasRoom 30 = .ok (.iload_n 1, 1) := by decide +kernel
theorem dX2_hasRoom_31 : decode cX2_hasRoom 31 = .ok (.iaload, 1) := by decide +kernel
theorem dX2_hasRoom_32 : decode cX2_hasRoom 32 = .ok (.iload 4, 2) := by decide +kernel
theorem dX2_hasRoom_34 : decode cX2_hasRoom 34 = .ok (.iadd, 1) := by decide +kernel
theorem dX2_hasRoom_35 : decode cX2_hasRoom 35 = .ok (.bipush 99, 2) := by decide +kernel
theorem dX2_hasRoom_37 : decode cX2_hasRoom 37 = .ok (.if_icmp .gt 7, 3) := by decide +kernel
theorem dX2_hasRoom_40 : decode cX2_hasRoom 40 = .ok (.iconst 1, 1) := by decide +kernel
theorem dX2_hasRoom_41 : decode cX2_hasRoom 41 = .ok (.goto 4, 3) := by decide +kernel
theorem dX2_hasRoom_44 : decode cX2_hasRoom 44 = .ok (.iconst 0, 1) := by decide +kernel
theorem dX2_hasRoom_45 : decode cX2_hasRoom 45 = .ok (.ireturn, 1) := by decide +kernel
theorem dX2_add_0 : decode cX2_add 0 = .ok (.aload_n 0, 1) := by decide +kernel
theorem dX2_add_1 : decode cX2_add 1 = .ok (.getfield 9, 3) := by decide +kernel
theorem dX2_add_4 : decode cX2_add 4 = .ok (.iload_n 1, 1) := by decide +kernel
theorem dX2_add_5 : decode cX2_add 5 = .ok (.dup2, 1) := by decide +kernel
theorem dX2_add_6 : decode cX2_add 6 = .ok (.iaload, 1) := by decide +kernel
theorem dX2_add_7 : decode cX2_add 7 = .ok (.iload_n 2, 1) := by decide +kernel
theorem dX2_add_8 : decode cX2_add 8 = .ok (.iadd, 1) := by decide +kernel
theorem dX2_add_9 : decode cX2_add 9 = .ok (.iastore, 1) := by decide +kernel
theorem dX2_add_10 : decode cX2_add 10 = .ok (.aload_n 0, 1) := by decide +kernel
theorem dX2_add_11 : decode cX2_add 11 = .ok (.getfield 15, 3) := by decide +kernel
theorem dX2_add_14 : decode cX2_add 14 = .ok (.iload_n 1, 1) := by decide +kernel
theorem dX2_add_15 : decode cX2_add 15 = .ok (.dup2, 1) := by decide +kernel
theorem dX2_add_16 : decode cX2_add 16 = .ok (.iaload, 1) := by decide +kernel
theorem dX2_add_17 : decode cX2_add 17 = .ok (.iload_n 3, 1) := by decide +kernel
theorem dX2_add_18 : decode cX2_add 18 = .ok (.iadd, 1) := by decide +kernel
theorem dX2_add_19 : decode cX2_add 19 = .ok (.iastore, 1) := by decide +kernel
theorem dX2_add_20 : decode cX2_add 20 = .ok (.aload_n 0, 1) := by decide +kernel
theorem dX2_add_21 : decode cX2_add 21 = .ok (.getfield 18, 3) := by decide +kernel
theorem dX2_add_24 : decode cX2_add 24 = .ok (.iload_n 1, 1) := by decide +kernel
theorem dX2_add_25 : decode cX2_add 25 = .ok (.dup2, 1) := by decide +kernel
theorem dX2_add_26 : decode cX2_add 26 = .ok (.iaload, 1) := by decide +kernel
theorem dX2_add_27 : decode cX2_add 27 = .ok (.iload 4, 2) := by decide +kernel
theorem dX2_add_29 : decode cX2_add 29 = .ok (.iadd, 1) := by decide +kernel
theorem dX2_add_30 : decode cX2_add 30 = .ok (.iastore, 1) := by decide +kernel
theorem dX2_add_31 : decode cX2_add 31 = .ok (.return_, 1) := by decide +kernel
theorem dX2_estimate_0 : decode cX2_estimate 0 = .ok (.aload_n 0, 1) := by decide +kernel
theorem dX2_estimate_1 : decode cX2_estimate 1 = .ok (.getfield 18, 3) := by decide +kernel
theorem dX2_estimate_4 : decode cX2_estimate 4 = .ok (.iload_n 1, 1) := by decide +kernel
theorem dX2_estimate_5 : decode cX2_estimate 5 = .ok (.iaload, 1) := by decide +kernel
theorem dX2_estimate_6 : decode cX2_estimate 6 = .ok (.istore_n 2, 1) := by decide +kernel
theorem dX2_estimate_7 : decode cX2_estimate 7 = .ok (.iload_n 2, 1) := by decide +kernel
theorem dX2_estimate_8 : decode cX2_estimate 8 = .ok (.ifCond .gt 6, 3) := by decide +kernel
theorem dX2_estimate_11 : decode cX2_estimate 11 = .ok (.bipush (-9), 2) := by decide +kernel
theorem dX2_estimate_13 : decode cX2_estimate 13 = .ok (.ireturn, 1) := by decide +kernel
theorem dX2_estimate_14 : decode cX2_estimate 14 = .ok (.aload_n 0, 1) := by decide +kernel
theorem dX2_estimate_15 : decode cX2_estimate 15 = .ok (.getfield 9, 3) := by decide +kernel
theorem dX2_estimate_18 : decode cX2_estimate 18 = .ok (.iload_n 1, 1) := by decide +kernel
theorem dX2_estimate_19 : decode cX2_estimate 19 = .ok (.iaload, 1) := by decide +kernel
theorem dX2_estimate_20 : decode cX2_estimate 20 = .ok (.iload_n 2, 1) := by decide +kernel
theorem dX2_estimate_21 : decode cX2_estimate 21 = .ok (.iadd, 1) := by decide +kernel
theorem dX2_estimate_22 : decode cX2_estimate 22 = .ok (.aload_n 0, 1) := by decide +kernel
theorem dX2_estimate_23 : decode cX2_estimate 23 = .ok (.getfield 15, 3) := by decide +kernel
theorem dX2_estimate_26 : decode cX2_estimate 26 = .ok (.iload_n 1, 1) := by decide +kernel
theorem dX2_estimate_27 : decode cX2_estimate 27 = .ok (.iaload, 1) := by decide +kernel
theorem dX2_estimate_28 : decode cX2_estimate 28 = .ok (.iload_n 2, 1) := by decide +kernel
theorem dX2_estimate_29 : decode cX2_estimate 29 = .ok (.iadd, 1) := by decide +kernel
theorem dX2_estimate_30 : decode cX2_estimate 30 = .ok (.imul, 1) := by decide +kernel
theorem dX2_estimate_31 : decode cX2_estimate 31 = .ok (.istore_n 3, 1) := by decide +kernel
theorem dX2_estimate_32 : decode cX2_estimate 32 = .ok (.iload_n 3, 1) := by decide +kernel
theorem dX2_estimate_33 : decode cX2_estimate 33 = .ok (.iload_n 2, 1) := by decide +kernel
theorem dX2_estimate_34 : decode cX2_estimate 34 = .ok (.iadd, 1) := by decide +kernel
theorem dX2_estimate_35 : decode cX2_estimate 35 = .ok (.iconst 1, 1) := by decide +kernel
theorem dX2_estimate_36 : decode cX2_estimate 36 = .ok (.isub, 1) := by decide +kernel
theorem dX2_estimate_37 : decode cX2_estimate 37 = .ok (.iload_n 2, 1) := by decide +kernel
theorem dX2_estimate_38 : decode cX2_estimate 38 = .ok (.idiv, 1) := by decide +kernel
theorem dX2_estimate_39 : decode cX2_estimate 39 = .ok (.ireturn, 1) := by decide +kernel
theorem dX2_missed_0 : decode cX2_missed 0 = .ok (.aload_n 0, 1) := by decide +kernel
theorem dX2_missed_1 : decode cX2_missed 1 = .ok (.iload_n 1, 1) := by decide +kernel
theorem dX2_missed_2 : decode cX2_missed 2 = .ok (.invokevirtual 21, 3) := by decide +kernel
theorem dX2_missed_5 : decode cX2_missed 5 = .ok (.istore_n 2, 1) := by decide +kernel
theorem dX2_missed_6 : decode cX2_missed 6 = .ok (.iload_n 2, 1) := by decide +kernel
theorem dX2_missed_7 : decode cX2_missed 7 = .ok (.bipush (-9), 2) := by decide +kernel
theorem dX2_missed_9 : decode cX2_missed 9 = .ok (.if_icmp .ne 8, 3) := by decide +kernel
theorem dX2_missed_12 : decode cX2_missed 12 = .ok (.bipush (-9), 2) := by decide +kernel
theorem dX2_missed_14 : decode cX2_missed 14 = .ok (.goto 25, 3) := by decide +kernel
theorem dX2_missed_17 : decode cX2_missed 17 = .ok (.iload_n 2, 1) := by decide +kernel
theorem dX2_missed_18 : decode cX2_missed 18 = .ok (.aload_n 0, 1) := by decide +kernel
theorem dX2_missed_19 : decode cX2_missed 19 = .ok (.getfield 9, 3) := by decide +kernel
theorem dX2_missed_22 : decode cX2_missed 22 = .ok (.iload_n 1, 1) := by decide +kernel
theorem dX2_missed_23 : decode cX2_missed 23 = .ok (.iaload, 1) := by decide +kernel
theorem dX2_missed_24 : decode cX2_missed 24 = .ok (.isub, 1) := by decide +kernel
theorem dX2_missed_25 : decode cX2_missed 25 = .ok (.aload_n 0, 1) := by decide +kernel
theorem dX2_missed_26 : decode cX2_missed 26 = .ok (.getfield 15, 3) := by decide +kernel
theorem dX2_missed_29 : decode cX2_missed 29 = .ok (.iload_n 1, 1) := by decide +kernel
theorem dX2_missed_30 : decode cX2_missed 30 = .ok (.iaload, 1) := by decide +kernel
theorem dX2_missed_31 : decode cX2_missed 31 = .ok (.isub, 1) := by decide +kernel
theorem dX2_missed_32 : decode cX2_missed 32 = .ok (.aload_n 0, 1) := by decide +kernel
theorem dX2_missed_33 : decode cX2_missed 33 = .ok (.getfield 18, 3) := by decide +kernel
theorem dX2_missed_36 : decode cX2_missed 36 = .ok (.iload_n 1, 1) := by decide +kernel
theorem dX2_missed_37 : decode cX2_missed 37 = .ok (.iaload, 1) := by decide +kernel
theorem dX2_missed_38 : decode cX2_missed 38 = .ok (.isub, 1) := by decide +kernel
theorem dX2_missed_39 : decode cX2_missed 39 = .ok (.ireturn, 1) := by decide +kernel
theorem dX3_init_0 : decode cX3_init 0 = .ok (.aload_n 0, 1) := by decide +kernel
theorem dX3_init_1 : decode cX3_init 1 = .ok (.invokespecial 3, 3) := by decide +kernel
theorem dX3_init_4 : decode cX3_init 4 = .ok (.aload_n 0, 1) := by decide +kernel
theorem dX3_init_5 : decode cX3_init 5 = .ok (.iconst 0, 1) := by decide +kernel
theorem dX3_init_6 : decode cX3_init 6 = .ok (.putfield 9, 3) := by decide +kernel
theorem dX3_init_9 : decode cX3_init 9 = .ok (.aload_n 0, 1) := by decide +kernel
theorem dX3_init_10 : decode cX3_init 10 = .ok (.iconst 2, 1) := by decide +kernel
theorem dX3_init_11 : decode cX3_init 11 = .ok (.newarray .int, 2) := by decide +kernel
theorem dX3_init_13 : decode cX3_init 13 = .ok (.dup, 1) := by decide +kernel
theorem dX3_init_14 : decode cX3_init 14 = .ok (.iconst 0, 1) := by decide +kernel
theorem dX3_init_15 : decode cX3_init 15 = .ok (.bipush 15, 2) := by decide +kernel
theorem dX3_init_17 : decode cX3_init 17 = .ok (.iastore, 1) := by decide +kernel
theorem dX3_init_18 : decode cX3_init 18 = .ok (.dup, 1) := by decide +kernel
theorem dX3_init_19 : decode cX3_init 19 = .ok (.iconst 1, 1) := by decide +kernel
theorem dX3_init_20 : decode cX3_init 20 = .ok (.bipush 15, 2) := by decide +kernel
theorem dX3_init_22 : decode cX3_init 22 = .ok (.iastore, 1) := by decide +kernel
theorem dX3_init_23 : decode cX3_init 23 = .ok (.putfield 15, 3) := by decide +kernel
theorem dX3_init_26 : decode cX3_init 26 = .ok (.aload_n 0, 1) := by decide +kernel
theorem dX3_init_27 : decode cX3_init 27 = .ok (.bipush 8, 2) := by decide +kernel
theorem dX3_init_29 : decode cX3_init 29 = .ok (.newarray .int, 2) := by decide +kernel
theorem dX3_init_31 : decode cX3_init 31 = .ok (.putfield 19, 3) := by decide +kernel
theorem dX3_init_34 : decode cX3_init 34 = .ok (.aload_n 0, 1) := by decide +kernel
theorem dX3_init_35 : decode cX3_init 35 = .ok (.bipush 8, 2) := by decide +kernel
theorem dX3_init_37 : decode cX3_init 37 = .ok (.newarray .int, 2) := by decide +kernel
theorem dX3_init_39 : decode cX3_init 39 = .ok (.putfield 22, 3) := by decide +kernel
theorem dX3_init_42 : decode cX3_init 42 = .ok (.aload_n 0, 1) := by decide +kernel
theorem dX3_init_43 : decode cX3_init 43 = .ok (.bipush 8, 2) := by decide +kernel
theorem dX3_init_45 : decode cX3_init 45 = .ok (.newarray .int, 2) := by decide +kernel
theorem dX3_init_47 : decode cX3_init 47 = .ok (.putfield 25, 3) := by decide +kernel
theorem dX3_init_50 : decode cX3_init 50 = .ok (.aload_n 0, 1) := by decide +kernel
theorem dX3_init_51 : decode cX3_init 51 = .ok (.bipush 8, 2) := by decide +kernel
theorem dX3_init_53 : decode cX3_init 53 = .ok (.newarray .int, 2) := by decide +kernel
theorem dX3_init_55 : decode cX3_init 55 = .ok (.putfield 28, 3) := by decide +kernel
theorem dX3_init_58 : decode cX3_init 58 = .ok (.return_, 1) := by decide +kernel
theorem dX3_add_0 : decode cX3_add 0 = .ok (.aload_n 0, 1) := by decide +kernel
theorem dX3_add_1 : decode cX3_add 1 = .ok (.getfield 9, 3) := by decide +kernel
theorem dX3_add_4 : decode cX3_add 4 = .ok (.istore 4, 2) := by decide +kernel
theorem dX3_add_6 : decode cX3_add 6 = .ok (.aload_n 0, 1) := by decide +kernel
theorem dX3_add_7 : decode cX3_add 7 = .ok (.getfield 19, 3) := by decide +kernel
theorem dX3_add_10 : decode cX3_add 10 = .ok (.iload 4, 2) := by decide +kernel
theorem dX3_add_12 : decode cX3_add 12 = .ok (.iload_n 1, 1) := by decide +kernel
theorem dX3_add_13 : decode cX3_add 13 = .ok (.iastore, 1) := by decide +kernel
theorem dX3_add_14 : decode cX3_add 14 = .ok (.aload_n 0, 1) := by decide +kernel
theorem dX3_add_15 : decode cX3_add 15 = .ok (.getfield 22, 3) := by decide +kernel
theorem dX3_add_18 : decode cX3_add 18 = .ok (.iload 4, 2) := by decide +kernel
theorem dX3_add_20 : decode cX3_add 20 = .ok (.iload_n 2, 1) := by decide +kernel
theorem dX3_add_21 : decode cX3_add 21 = .ok (.iastore, 1) := by decide +kernel
theorem dX3_add_22 : decode cX3_add 22 = .ok (.aload_n 0, 1) := by decide +kernel
theorem dX3_add_23 : decode cX3_add 23 = .ok (.getfield 25, 3) := by decide +kernel
theorem dX3_add_26 : decode cX3_add 26 = .ok (.iload 4, 2) := by decide +kernel
theorem dX3_add_28 : decode cX3_add 28 = .ok (.iload_n 3, 1) := by decide +kernel
theorem dX3_add_29 : decode cX3_add 29 = .ok (.iastore, 1) := by decide +kernel
theorem dX3_add_30 : decode cX3_add 30 = .ok (.iload 4, 2) := by decide +kernel
theorem dX3_add_32 : decode cX3_add 32 = .ok (.istore 5, 2) := by decide +kernel
theorem dX3_add_34 : decode cX3_add 34 = .ok (.iload 5, 2) := by decide +kernel
theorem dX3_add_36 : decode cX3_add 36 = .ok (.ifCond .le 43, 3) := by decide +kernel
theorem dX3_add_39 : decode cX3_add 39 = .ok (.aload_n 0, 1) := by decide +kernel
theorem dX3_add_40 : decode cX3_add 40 = .ok (.getfield 22, 3) := by decide +kernel
theorem dX3_add_43 : decode cX3_add 43 = .ok (.aload_n 0, 1) := by decide +kernel
theorem dX3_add_44 : decode cX3_add 44 = .ok (.getfield 28, 3) := by decide +kernel
theorem dX3_add_47 : decode cX3_add 47 = .ok (.iload 5, 2) := by decide +kernel
theorem dX3_add_49 : decode cX3_add 49 = .ok (.iconst 1, 1) := by decide +kernel
theorem dX3_add_50 : decode cX3_add 50 = .ok (.isub, 1) := by decide +kernel
theorem dX3_add_51 : decode cX3_add 51 = .ok (.iaload, 1) := by decide +kernel
theorem dX3_add_52 : decode cX3_add 52 = .ok (.iaload, 1) := by decide +kernel
theorem dX3_add_53 : decode cX3_add 53 = .ok (.iload_n 2, 1) := by decide +kernel
theorem dX3_add_54 : decode cX3_add 54 = .ok (.if_icmp .le 25, 3) := by decide +kernel
theorem dX3_add_57 : decode cX3_add 57 = .ok (.aload_n 0, 1) := by decide +kernel
theorem dX3_add_58 : decode cX3_add 58 = .ok (.getfield 28, 3) := by decide +kernel
theorem dX3_add_61 : decode cX3_add 61 = .ok (.iload 5, 2) := by decide +kernel
theorem dX3_add_63 : decode cX3_add 63 = .ok (.aload_n 0, 1) := by decide +kernel
theorem dX3_add_64 : decode cX3_add 64 = .ok (.getfield 28, 3) := by decide +kernel
theorem dX3_add_67 : decode cX3_add 67 = .ok (.iload 5, 2) := by decide +kernel
theorem dX3_add_69 : decode cX3_add 69 = .ok (.iconst 1, 1) := by decide +kernel
theorem dX3_add_70 : decode cX3_add 70 = .ok (.isub, 1) := by decide +kernel
theorem dX3_add_71 : decode cX3_add 71 = .ok (.iaload, 1) := by decide +kernel
theorem dX3_add_72 : decode cX3_add 72 = .ok (.iastore, 1) := by decide +kernel
theorem dX3_add_73 : decode cX3_add 73 = .ok (.iinc 5 (-1), 3) := by decide +kernel
theorem dX3_add_76 : decode cX3_add 76 = .ok (.goto (-42), 3) := by decide +kernel
theorem dX3_add_79 : decode cX3_add 79 = .ok (.aload_n 0, 1) := by decide +kernel
theorem dX3_add_80 : decode cX3_add 80 = .ok (.getfield 28, 3) := by decide +kernel
theorem dX3_add_83 : decode cX3_add 83 = .ok (.iload 5, 2) := by decide +kernel
theorem dX3_add_85 : decode cX3_add 85 = .ok (.iload 4, 2) := by decide +kernel
theorem dX3_add_87 : decode cX3_add 87 = .ok (.iastore, 1) := by decide +kernel
theorem dX3_add_88 : decode cX3_add 88 = .ok (.aload_n 0, 1) := by decide +kernel
theorem dX3_add_89 : decode cX3_add 89 = .ok (.dup, 1) := by decide +kernel
theorem dX3_add_90 : decode cX3_add 90 = .ok (.getfield 9, 3) := by decide +kernel
theorem dX3_add_93 : decode cX3_add 93 = .ok (.iconst 1, 1) := by decide +kernel
theorem dX3_add_94 : decode cX3_add 94 = .ok (.iadd, 1) := by decide +kernel
theorem dX3_add_95 : decode cX3_add 95 = .ok (.putfield 9, 3) := by decide +kernel
theorem dX3_add_98 : decode cX3_add 98 = .ok (.iload 4, 2) := by decide +kernel
theorem dX3_add_100 : decode cX3_add 100 = .ok (.ireturn, 1) := by decide +kernel
theorem dX3_bestPlan_0 : decode cX3_bestPlan 0 = .ok (.bipush (-9), 2) := by decide +kernel
theorem dX3_bestPlan_2 : decode cX3_bestPlan 2 = .ok (.istore_n 1, 1) := by decide +kernel
theorem dX3_bestPlan_3 : decode cX3_bestPlan 3 = .ok (.iconst 1, 1) := by decide +kernel
theorem dX3_bestPlan_4 : decode cX3_bestPlan 4 = .ok (.aload_n 0, 1) := by decide +kernel
theorem dX3_bestPlan_5 : decode cX3_bestPlan 5 = .ok (.getfield 9, 3) := by decide +kernel
theorem dX3_bestPlan_8 : decode cX3_bestPlan 8 = .ok (.ishl, 1) := by decide +kernel
theorem dX3_bestPlan_9 : decode cX3_bestPlan 9 = .ok (.istore_n 2, 1) := by decide +kernel
theorem dX3_bestPlan_10 : decode cX3_bestPlan 10 = .ok (.iconst 0, 1) := by decide +kernel
theorem dX3_bestPlan_11 : decode cX3_bestPlan 11 = .ok (.istore_n 3, 1) := by decide +kernel
theorem dX3_bestPlan_12 : decode cX3_bestPlan 12 = .ok (.iload_n 3, 1) := by decide +kernel
theorem dX3_bestPlan_13 : decode cX3_bestPlan 13 = .ok (.iload_n 2, 1) := by decide +kernel
theorem dX3_bestPlan_14 : decode cX3_bestPlan 14 = .ok (.if_icmp .ge 42, 3) := by decide +kernel
theorem dX3_bestPlan_17 : decode cX3_bestPlan 17 = .ok (.aload_n 0, 1) := by decide +kernel
theorem dX3_bestPlan_18 : decode cX3_bestPlan 18 = .ok (.iload_n 3, 1) := by decide +kernel
theorem dX3_bestPlan_19 : decode cX3_bestPlan 19 = .ok (.invokevirtual 31, 3) := by decide +kernel
theorem dX3_bestPlan_22 : decode cX3_bestPlan 22 = .ok (.ifCond .eq 28, 3) := by decide +kernel
theorem dX3_bestPlan_25 : decode cX3_bestPlan 25 = .ok (.aload_n 0, 1) := by decide +kernel
theorem dX3_bestPlan_26 : decode cX3_bestPlan 26 = .ok (.iload_n 3, 1) := by decide +kernel
theorem dX3_bestPlan_27 : decode cX3_bestPlan 27 = .ok (.invokevirtual 35, 3) := by decide +kernel
theorem dX3_bestPlan_30 : decode cX3_bestPlan 30 = .ok (.istore 4, 2) := by decide +kernel
theorem dX3_bestPlan_32 : decode cX3_bestPlan 32 = .ok (.iload_n 1, 1) := by decide +kernel
theorem dX3_bestPlan_33 : decode cX3_bestPlan 33 = .ok (.bipush (-9), 2) := by decide +kernel
theorem dX3_bestPlan_35 : decode cX3_bestPlan 35 = .ok (.if_icmp .ne 8, 3) := by decide +kernel
theorem dX3_bestPlan_38 : decode cX3_bestPlan 38 = .ok (.iload 4, 2) := by decide +kernel
theorem dX3_bestPlan_40 : decode cX3_bestPlan 40 = .ok (.goto 9, 3) := by decide +kernel
theorem dX3_bestPlan_43 : decode cX3_bestPlan 43 = .ok (.iload_n 1, 1) := by decide +kernel
theorem dX3_bestPlan_44 : decode cX3_bestPlan 44 = .ok (.iload 4, 2) := by decide +kernel
theorem dX3_bestPlan_46 : decode cX3_bestPlan 46 = .ok (.invokestatic 39, 3) := by decide +kernel
theorem dX3_bestPlan_49 : decode cX3_bestPlan 49 = .ok (.istore_n 1, 1) := by decide +kernel
theorem dX3_bestPlan_50 : decode cX3_bestPlan 50 = .ok (.iinc 3 1, 3) := by decide +kernel
theorem dX3_bestPlan_53 : decode cX3_bestPlan 53 = .ok (.goto (-41), 3) := by decide +kernel
theorem dX3_bestPlan_56 : decode cX3_bestPlan 56 = .ok (.iload_n 1, 1) := by decide +kernel
theorem dX3_bestPlan_57 : decode cX3_bestPlan 57 = .ok (.ireturn, 1) := by decide +kernel
theorem dX3_hasTools_0 : decode cX3_hasTools 0 = .ok (.iconst 0, 1) := by decide +kernel
theorem dX3_hasTools_1 : decode cX3_hasTools 1 = .ok (.istore_n 2, 1) := by decide +kernel
theorem dX3_hasTools_2 : decode cX3_hasTools 2 = .ok (.iload_n 2, 1) := by decide +kernel
theorem dX3_hasTools_3 : decode cX3_hasTools 3 = .ok (.aload_n 0, 1) := by decide +kernel
theorem dX3_hasTools_4 : decode cX3_hasTools 4 = .ok (.getfield 9, 3) := by decide +kernel
theorem dX3_hasTools_7 : decode cX3_hasTools 7 = .ok (.if_icmp .ge 34, 3) := by decide +kernel
theorem dX3_hasTools_10 : decode cX3_hasTools 10 = .ok (.aload_n 0, 1) := by decide +kernel
theorem dX3_hasTools_11 : decode cX3_hasTools 11 = .ok (.getfield 25, 3) := by decide +kernel
theorem dX3_hasTools_14 : decode cX3_hasTools 14 = .ok (.iload_n 2, 1) := by decide +kernel
theorem dX3_hasTools_15 : decode cX3_hasTools 15 = .ok (.iaload, 1) := by decide +kernel
theorem dX3_hasTools_16 : decode cX3_hasTools 16 = .ok (.aload_n 0, 1) := by decide +kernel
theorem dX3_hasTools_17 : decode cX3_hasTools 17 = .ok (.getfield 15, 3) := by decide +kernel
theorem dX3_hasTools_20 : decode cX3_hasTools 20 = .ok (.aload_n 0, 1) := by decide +kernel
theorem dX3_hasTools_21 : decode cX3_hasTools 21 = .ok (.iload_n 1, 1) := by decide +kernel
theorem dX3_hasTools_22 : decode cX3_hasTools 22 = .ok (.iload_n 2, 1) := by decide +kernel
theorem dX3_hasTools_23 : decode cX3_hasTools 23 = .ok (.invokevirtual 45, 3) := by decide +kernel
theorem dX3_hasTools_26 : decode cX3_hasTools 26 = .ok (.iaload, 1) := by decide +kernel
theorem dX3_hasTools_27 : decode cX3_hasTools 27 = .ok (.iconst (-1), 1) := by decide +kernel
theorem dX3_hasTools_28 : decode cX3_hasTools 28 = .ok (.ixor, 1) := by decide +kernel
theorem dX3_hasTools_29 : decode cX3_hasTools 29 = .ok (.iand, 1) := by decide +kernel
theorem dX3_hasTools_30 : decode cX3_hasTools 30 = .ok (.ifCond .eq 5, 3) := by decide +kernel
theorem dX3_hasTools_33 : decode cX3_hasTools 33 = .ok (.iconst 0, 1) := by decide +kernel
theorem dX3_hasTools_34 : decode cX3_hasTools 34 = .ok (.ireturn, 1) := by decide +kernel
theorem dX3_hasTools_35 : decode cX3_hasTools 35 = .ok (.iinc 2 1, 3) := by decide +kernel
theorem dX3_hasTools_38 : decode cX3_hasTools 38 = .ok (.goto (-36), 3) := by decide +kernel
theorem dX3_hasTools_41 : decode cX3_hasTools 41 = .ok (.iconst 1, 1) := by decide +kernel
theorem dX3_hasTools_42 : decode cX3_hasTools 42 = .ok (.ireturn, 1) := by decide +kernel
theorem dX3_weigh_0 : decode cX3_weigh 0 = .ok (.iconst 0, 1) := by decide +kernel
theorem dX3_weigh_1 : decode cX3_weigh 1 = .ok (.istore_n 2, 1) := by decide +kernel
theorem dX3_weigh_2 : decode cX3_weigh 2 = .ok (.iconst 0, 1) := by decide +kernel
theorem dX3_weigh_3 : decode cX3_weigh 3 = .ok (.istore_n 3, 1) := by decide +kernel
theorem dX3_weigh_4 : decode cX3_weigh 4 = .ok (.iconst 0, 1) := by decide +kernel
theorem dX3_weigh_5 : decode cX3_weigh 5 = .ok (.istore 4, 2) := by decide +kernel
theorem dX3_weigh_7 : decode cX3_weigh 7 = .ok (.iconst 0, 1) := by decide +kernel
theorem dX3_weigh_8 : decode cX3_weigh 8 = .ok (.istore 5, 2) := by decide +kernel
theorem dX3_weigh_10 : decode cX3_weigh 10 = .ok (.iconst 0, 1) := by decide +kernel
theorem dX3_weigh_11 : decode cX3_weigh 11 = .ok (.istore 6, 2) := by decide +kernel
theorem dX3_weigh_13 : decode cX3_weigh 13 = .ok (.iload 6, 2) := by decide +kernel
theorem dX3_weigh_15 : decode cX3_weigh 15 = .ok (.aload_n 0, 1) := by decide +kernel
theorem dX3_weigh_16 : decode cX3_weigh 16 = .ok (.getfield 9, 3) := by decide +kernel
theorem dX3_weigh_19 : decode cX3_weigh 19 = .ok (.if_icmp .ge 89, 3) := by decide +kernel
theorem dX3_weigh_22 : decode cX3_weigh 22 = .ok (.aload_n 0, 1) := by decide +kernel
theorem dX3_weigh_23 : decode cX3_weigh 23 = .ok (.getfield 28, 3) := by decide +kernel
theorem dX3_weigh_26 : decode cX3_weigh 26 = .ok (.iload 6, 2) := by decide +kernel
theorem dX3_weigh_28 : decode cX3_weigh 28 = .ok (.iaload, 1) := by decide +kernel
theorem dX3_weigh_29 : decode cX3_weigh 29 = .ok (.istore 7, 2) := by decide +kernel
theorem dX3_weigh_31 : decode cX3_weigh 31 = .ok (.aload_n 0, 1) := by decide +kernel
theorem dX3_weigh_32 : decode cX3_weigh 32 = .ok (.iload_n 1, 1) := by decide +kernel
theorem dX3_weigh_33 : decode cX3_weigh 33 = .ok (.iload 7, 2) := by decide +kernel
theorem dX3_weigh_35 : decode cX3_weigh 35 = .ok (.invokevirtual 45, 3) := by decide +kernel
theorem dX3_weigh_38 : decode cX3_weigh 38 = .ok (.ifCond .ne 19, 3) := by decide +kernel
theorem dX3_weigh_41 : decode cX3_weigh 41 = .ok (.iload_n 2, 1) := by decide +kernel
theorem dX3_weigh_42 : decode cX3_weigh 42 = .ok (.aload_n 0, 1) := by decide +kernel
theorem dX3_weigh_43 : decode cX3_weigh 43 = .ok (.getfield 19, 3) := by decide +kernel
theorem dX3_weigh_46 : decode cX3_weigh 46 = .ok (.iload 7, 2) := by decide +kernel
theorem dX3_weigh_48 : decode cX3_weigh 48 = .ok (.iaload, 1) := by decide +kernel
theorem dX3_weigh_49 : decode cX3_weigh 49 = .ok (.iadd, 1) := by decide +kernel
theorem dX3_weigh_50 : decode cX3_weigh 50 = .ok (.istore_n 2, 1) := by decide +kernel
theorem dX3_weigh_51 : decode cX3_weigh 51 = .ok (.iload_n 2, 1) := by decide +kernel
theorem dX3_weigh_52 : decode cX3_weigh 52 = .ok (.istore 8, 2) := by decide +kernel
theorem dX3_weigh_54 : decode cX3_weigh 54 = .ok (.goto 16, 3) := by decide +kernel
theorem dX3_weigh_57 : decode cX3_weigh 57 = .ok (.iload_n 3, 1) := by decide +kernel
theorem dX3_weigh_58 : decode cX3_weigh 58 = .ok (.aload_n 0, 1) := by decide +kernel
theorem dX3_weigh_59 : decode cX3_weigh 59 = .ok (.getfield 19, 3) := by decide +kernel
theorem dX3_weigh_62 : decode cX3_weigh 62 = .ok (.iload 7, 2) := by decide +kernel
theorem dX3_weigh_64 : decode cX3_weigh 64 = .ok (.iaload, 1) := by decide +kernel
theorem dX3_weigh_65 : decode cX3_weigh 65 = .ok (.iadd, 1) := by decide +kernel
theorem dX3_weigh_66 : decode cX3_weigh 66 = .ok (.istore_n 3, 1) := by decide +kernel
theorem dX3_weigh_67 : decode cX3_weigh 67 = .ok (.iload_n 3, 1) := by decide +kernel
theorem dX3_weigh_68 : decode cX3_weigh 68 = .ok (.istore 8, 2) := by decide +kernel
theorem dX3_weigh_70 : decode cX3_weigh 70 = .ok (.iconst 0, 1) := by decide +kernel
theorem dX3_weigh_71 : decode cX3_weigh 71 = .ok (.iload 8, 2) := by decide +kernel
theorem dX3_weigh_73 : decode cX3_weigh 73 = .ok (.aload_n 0, 1) := by decide +kernel
theorem dX3_weigh_74 : decode cX3_weigh 74 = .ok (.getfield 22, 3) := by decide +kernel
theorem dX3_weigh_77 : decode cX3_weigh 77 = .ok (.iload 7, 2) := by decide +kernel
theorem dX3_weigh_79 : decode cX3_weigh 79 = .ok (.iaload, 1) := by decide +kernel
theorem dX3_weigh_80 : decode cX3_weigh 80 = .ok (.isub, 1) := by decide +kernel
theorem dX3_weigh_81 : decode cX3_weigh 81 = .ok (.invokestatic 48, 3) := by decide +kernel
theorem dX3_weigh_84 : decode cX3_weigh 84 = .ok (.istore 9, 2) := by decide +kernel
theorem dX3_weigh_86 : decode cX3_weigh 86 = .ok (.iload 4, 2) := by decide +kernel
theorem dX3_weigh_88 : decode cX3_weigh 88 = .ok (.iload 9, 2) := by decide +kernel
theorem dX3_weigh_90 : decode cX3_weigh 90 = .ok (.invokestatic 48, 3) := by decide +kernel
theorem dX3_weigh_93 : decode cX3_weigh 93 = .ok (.istore 4, 2) := by decide +kernel
theorem dX3_weigh_95 : decode cX3_weigh 95 = .ok (.iload 5, 2) := by decide +kernel
theorem dX3_weigh_97 : decode cX3_weigh 97 = .ok (.iload 9, 2) := by decide +kernel
theorem dX3_weigh_99 : decode cX3_weigh 99 = .ok (.iadd, 1) := by decide +kernel
theorem dX3_weigh_100 : decode cX3_weigh 100 = .ok (.istore 5, 2) := by decide +kernel
theorem dX3_weigh_102 : decode cX3_weigh 102 = .ok (.iinc 6 1, 3) := by decide +kernel
theorem dX3_weigh_105 : decode cX3_weigh 105 = .ok (.goto (-92), 3) := by decide +kernel
theorem dX3_weigh_108 : decode cX3_weigh 108 = .ok (.iload 4, 2) := by decide +kernel
theorem dX3_weigh_110 : decode cX3_weigh 110 = .ok (.bipush 20, 2) := by decide +kernel
theorem dX3_weigh_112 : decode cX3_weigh 112 = .ok (.ishl, 1) := by decide +kernel
theorem dX3_weigh_113 : decode cX3_weigh 113 = .ok (.iload 5, 2) := by decide +kernel
theorem dX3_weigh_115 : decode cX3_weigh 115 = .ok (.bipush 8, 2) := by decide +kernel
theorem dX3_weigh_117 : decode cX3_weigh 117 = .ok (.ishl, 1) := by decide +kernel
theorem dX3_weigh_118 : decode cX3_weigh 118 = .ok (.ior, 1) := by decide +kernel
theorem dX3_weigh_119 : decode cX3_weigh 119 = .ok (.iload_n 1, 1) := by decide +kernel
theorem dX3_weigh_120 : decode cX3_weigh 120 = .ok (.ior, 1) := by decide +kernel
theorem dX3_weigh_121 : decode cX3_weigh 121 = .ok (.ireturn, 1) := by decide +kernel
theorem dX3_gangIn_0 : decode cX3_gangIn 0 = .ok (.iload_n 1, 1) := by decide +kernel
theorem dX3_gangIn_1 : decode cX3_gangIn 1 = .ok (.aload_n 0, 1) := by decide +kernel
theorem dX3_gangIn_2 : decode cX3_gangIn 2 = .ok (.getfield 9, 3) := by decide +kernel
theorem dX3_gangIn_5 : decode cX3_gangIn 5 = .ok (.iconst 1, 1) := by decide +kernel
theorem dX3_gangIn_6 : decode cX3_gangIn 6 = .ok (.isub, 1) := by decide +kernel
theorem dX3_gangIn_7 : decode cX3_gangIn 7 = .ok (.iload_n 2, 1) := by decide +kernel
theorem dX3_gangIn_8 : decode cX3_gangIn 8 = .ok (.isub, 1) := by decide +kernel
theorem dX3_gangIn_9 : decode cX3_gangIn 9 = .ok (.ishr, 1) := by decide +kernel
theorem dX3_gangIn_10 : decode cX3_gangIn 10 = .ok (.iconst 1, 1) := by decide +kernel
theorem dX3_gangIn_11 : decode cX3_gangIn 11 = .ok (.iand, 1) := by decide +kernel
theorem dX3_gangIn_12 : decode cX3_gangIn 12 = .ok (.ireturn, 1) := by decide +kernel
theorem dX3_worstIn_0 : decode cX3_worstIn 0 = .ok (.iload_n 0, 1) := by decide +kernel
theorem dX3_worstIn_1 : decode cX3_worstIn 1 = .ok (.bipush 20, 2) := by decide +kernel
theorem dX3_worstIn_3 : decode cX3_worstIn 3 = .ok (.ishr, 1) := by decide +kernel
theorem dX3_worstIn_4 : decode cX3_worstIn 4 = .ok (.ireturn, 1) := by decide +kernel
theorem dX3_togetherIn_0 : decode cX3_togetherIn 0 = .ok (.iload_n 0, 1) := by decide +kernel
theorem dX3_togetherIn_1 : decode cX3_togetherIn 1 = .ok (.bipush 8, 2) := by decide +kernel
theorem dX3_togetherIn_3 : decode cX3_togetherIn 3 = .ok (.ishr, 1) := by decide +kernel
theorem dX3_togetherIn_4 : decode cX3_togetherIn 4 = .ok (.sipush 4095, 3) := by decide +kernel
theorem dX3_togetherIn_7 : decode cX3_togetherIn 7 = .ok (.iand, 1) := by decide +kernel
theorem dX3_togetherIn_8 : decode cX3_togetherIn 8 = .ok (.ireturn, 1) := by decide +kernel
theorem dX3_wayIn_0 : decode cX3_wayIn 0 = .ok (.iload_n 0, 1) := by decide +kernel
theorem dX3_wayIn_1 : decode cX3_wayIn 1 = .ok (.sipush 255, 3) := by decide +kernel
theorem dX3_wayIn_4 : decode cX3_wayIn 4 = .ok (.iand, 1) := by decide +kernel
theorem dX3_wayIn_5 : decode cX3_wayIn 5 = .ok (.ireturn, 1) := by decide +kernel
theorem dX4_init_0 : decode cX4_init 0 = .ok (.aload_n 0, 1) := by decide +kernel
theorem dX4_init_1 : decode cX4_init 1 = .ok (.invokespecial 3, 3) := by decide +kernel
theorem dX4_init_4 : decode cX4_init 4 = .ok (.aload_n 0, 1) := by decide +kernel
theorem dX4_init_5 : decode cX4_init 5 = .ok (.bipush 20, 2) := by decide +kernel
theorem dX4_init_7 : decode cX4_init 7 = .ok (.newarray .int, 2) := by decide +kernel
theorem dX4_init_9 : decode cX4_init 9 = .ok (.putfield 9, 3) := by decide +kernel
theorem dX4_init_12 : decode cX4_init 12 = .ok (.aload_n 0, 1) := by decide +kernel
theorem dX4_init_13 : decode cX4_init 13 = .ok (.bipush 6, 2) := by decide +kernel
theorem dX4_init_15 : decode cX4_init 15 = .ok (.newarray .int, 2) := by decide +kernel
theorem dX4_init_17 : decode cX4_init 17 = .ok (.putfield 15, 3) := by decide +kernel
theorem dX4_init_20 : decode cX4_init 20 = .ok (.aload_n 0, 1) := by decide +kernel
theorem dX4_init_21 : decode cX4_init 21 = .ok (.bipush 20, 2) := by decide +kernel
theorem dX4_init_23 : decode cX4_init 23 = .ok (.newarray .int, 2) := by decide +kernel
theorem dX4_init_25 : decode cX4_init 25 = .ok (.putfield 18, 3) := by decide +kernel
theorem dX4_init_28 : decode cX4_init 28 = .ok (.iconst 0, 1) := by decide +kernel
theorem dX4_init_29 : decode cX4_init 29 = .ok (.istore_n 1, 1) := by decide +kernel
theorem dX4_init_30 : decode cX4_init 30 = .ok (.iload_n 1, 1) := by decide +kernel
theorem dX4_init_31 : decode cX4_init 31 = .ok (.bipush 20, 2) := by decide +kernel
theorem dX4_init_33 : decode cX4_init 33 = .ok (.if_icmp .ge 17, 3) := by decide +kernel
theorem dX4_init_36 : decode cX4_init 36 = .ok (.aload_n 0, 1) := by decide +kernel
theorem dX4_init_37 : decode cX4_init 37 = .ok (.getfield 9, 3) := by decide +kernel
theorem dX4_init_40 : decode cX4_init 40 = .ok (.iload_n 1, 1) := by decide +kernel
theorem dX4_init_41 : decode cX4_init 41 = .ok (.bipush 10, 2) := by decide +kernel
theorem dX4_init_43 : decode cX4_init 43 = .ok (.iastore, 1) := by decide +kernel
theorem dX4_init_44 : decode cX4_init 44 = .ok (.iinc 1 1, 3) := by decide +kernel
theorem dX4_init_47 : decode cX4_init 47 = .ok (.goto (-17), 3) := by decide +kernel
theorem dX4_init_50 : decode cX4_init 50 = .ok (.return_, 1) := by decide +kernel
theorem dX4_lay_0 : decode cX4_lay 0 = .ok (.aload_n 0, 1) := by decide +kernel
theorem dX4_lay_1 : decode cX4_lay 1 = .ok (.getfield 9, 3) := by decide +kernel
theorem dX4_lay_4 : decode cX4_lay 4 = .ok (.iload_n 1, 1) := by decide +kernel
theorem dX4_lay_5 : decode cX4_lay 5 = .ok (.iaload, 1) := by decide +kernel
theorem dX4_lay_6 : decode cX4_lay 6 = .ok (.istore_n 3, 1) := by decide +kernel
theorem dX4_lay_7 : decode cX4_lay 7 = .ok (.aload_n 0, 1) := by decide +kernel
theorem dX4_lay_8 : decode cX4_lay 8 = .ok (.getfield 9, 3) := by decide +kernel
theorem dX4_lay_11 : decode cX4_lay 11 = .ok (.iload_n 1, 1) := by decide +kernel
theorem dX4_lay_12 : decode cX4_lay 12 = .ok (.iload_n 2, 1) := by decide +kernel
theorem dX4_lay_13 : decode cX4_lay 13 = .ok (.iastore, 1) := by decide +kernel
theorem dX4_lay_14 : decode cX4_lay 14 = .ok (.iload_n 3, 1) := by decide +kernel
theorem dX4_lay_15 : decode cX4_lay 15 = .ok (.ireturn, 1) := by decide +kernel
theorem dX4_giveLot_0 : decode cX4_giveLot 0 = .ok (.aload_n 0, 1) := by decide +kernel
theorem dX4_giveLot_1 : decode cX4_giveLot 1 = .ok (.getfield 18, 3) := by decide +kernel
theorem dX4_giveLot_4 : decode cX4_giveLot 4 = .ok (.iload_n 1, 1) := by decide +kernel
theorem dX4_giveLot_5 : decode cX4_giveLot 5 = .ok (.iaload, 1) := by decide +kernel
theorem dX4_giveLot_6 : decode cX4_giveLot 6 = .ok (.istore_n 3, 1) := by decide +kernel
theorem dX4_giveLot_7 : decode cX4_giveLot 7 = .ok (.aload_n 0, 1) := by decide +kernel
theorem dX4_giveLot_8 : decode cX4_giveLot 8 = .ok (.getfield 18, 3) := by decide +kernel
theorem dX4_giveLot_11 : decode cX4_giveLot 11 = .ok (.iload_n 1, 1) := by decide +kernel
theorem dX4_giveLot_12 : decode cX4_giveLot 12 = .ok (.iload_n 2, 1) := by decide +kernel
theorem dX4_giveLot_13 : decode cX4_giveLot 13 = .ok (.iastore, 1) := by decide +kernel
theorem dX4_giveLot_14 : decode cX4_giveLot 14 = .ok (.iload_n 3, 1) := by decide +kernel
theorem dX4_giveLot_15 : decode cX4_giveLot 15 = .ok (.ireturn, 1) := by decide +kernel
theorem dX4_addCrack_0 : decode cX4_addCrack 0 = .ok (.aload_n 0, 1) := by decide +kernel
theorem dX4_addCrack_1 : decode cX4_addCrack 1 = .ok (.getfield 15, 3) := by decide +kernel
theorem dX4_addCrack_4 : decode cX4_addCrack 4 = .ok (.aload_n 0, 1) := by decide +kernel
theorem dX4_addCrack_5 : decode cX4_addCrack 5 = .ok (.getfield 18, 3) := by decide +kernel
theorem dX4_addCrack_8 : decode cX4_addCrack 8 = .ok (.iload_n 1, 1) := by decide +kernel
theorem dX4_addCrack_9 : decode cX4_addCrack 9 = .ok (.iaload, 1) := by decide +kernel
theorem dX4_addCrack_10 : decode cX4_addCrack 10 = .ok (.dup2, 1) := by decide +kernel
theorem dX4_addCrack_11 : decode cX4_addCrack 11 = .ok (.iaload, 1) := by decide +kernel
theorem dX4_addCrack_12 : decode cX4_addCrack 12 = .ok (.iconst 1, 1) := by decide +kernel
theorem dX4_addCrack_13 : decode cX4_addCrack 13 = .ok (.iadd, 1) := by decide +kernel
theorem dX4_addCrack_14 : decode cX4_addCrack 14 = .ok (.iastore, 1) := by decide +kernel
theorem dX4_addCrack_15 : decode cX4_addCrack 15 = .ok (.return_, 1) := by decide +kernel
theorem dX4_milesWith_0 : decode cX4_milesWith 0 = .ok (.iconst 0, 1) := by decide +kernel
theorem dX4_milesWith_1 : decode cX4_milesWith 1 = .ok (.istore_n 2, 1) := by decide +kernel
theorem dX4_milesWith_2 : decode cX4_milesWith 2 = .ok (.iconst 0, 1) := by decide +kernel
theorem dX4_milesWith_3 : decode cX4_milesWith 3 = .ok (.istore_n 3, 1) := by decide +kernel
theorem dX4_milesWith_4 : decode cX4_milesWith 4 = .ok (.iload_n 3, 1) := by decide +kernel
theorem dX4_milesWith_5 : decode cX4_milesWith 5 = .ok (.bipush 20, 2) := by decide +kernel
theorem dX4_milesWith_7 : decode cX4_milesWith 7 = .ok (.if_icmp .ge 22, 3) := by decide +kernel
theorem dX4_milesWith_10 : decode cX4_milesWith 10 = .ok (.aload_n 0, 1) := by decide +kernel
theorem dX4_milesWith_11 : decode cX4_milesWith 11 = .ok (.getfield 18, 3) := by decide +kernel
theorem dX4_milesWith_14 : decode cX4_milesWith 14 = .ok (.iload_n 3, 1) := by decide +kernel
theorem dX4_milesWith_15 : decode cX4_milesWith 15 = .ok (.iaload, 1) := by decide +kernel
theorem dX4_milesWith_16 : decode cX4_milesWith 16 = .ok (.iload_n 1, 1) := by decide +kernel
theorem dX4_milesWith_17 : decode cX4_milesWith 17 = .ok (.if_icmp .ne 6, 3) := by decide +kernel
theorem dX4_milesWith_20 : decode cX4_milesWith 20 = .ok (.iinc 2 1, 3) := by decide +kernel
theorem dX4_milesWith_23 : decode cX4_milesWith 23 = .ok (.iinc 3 1, 3) := by decide +kernel
theorem dX4_milesWith_26 : decode cX4_milesWith 26 = .ok (.goto (-22), 3) := by decide +kernel
theorem dX4_milesWith_29 : decode cX4_milesWith 29 = .ok (.iload_n 2, 1) := by decide +kernel
theorem dX4_milesWith_30 : decode cX4_milesWith 30 = .ok (.ireturn, 1) := by decide +kernel
theorem dX4_worstLot_0 : decode cX4_worstLot 0 = .ok (.bipush (-9), 2) := by decide +kernel
theorem dX4_worstLot_2 : decode cX4_worstLot 2 = .ok (.istore_n 1, 1) := by decide +kernel
theorem dX4_worstLot_3 : decode cX4_worstLot 3 = .ok (.iconst 0, 1) := by decide +kernel
theorem dX4_worstLot_4 : decode cX4_worstLot 4 = .ok (.istore_n 2, 1) := by decide +kernel
theorem dX4_worstLot_5 : decode cX4_worstLot 5 = .ok (.iconst 1, 1) := by decide +kernel
theorem dX4_worstLot_6 : decode cX4_worstLot 6 = .ok (.istore_n 3, 1) := by decide +kernel
theorem dX4_worstLot_7 : decode cX4_worstLot 7 = .ok (.iconst 0, 1) := by decide +kernel
theorem dX4_worstLot_8 : decode cX4_worstLot 8 = .ok (.istore 4, 2) := by decide +kernel
theorem dX4_worstLot_10 : decode cX4_worstLot 10 = .ok (.iload 4, 2) := by decide +kernel
theorem dX4_worstLot_12 : decode cX4_worstLot 12 = .ok (.iconst 5, 1) := by decide +kernel
theorem dX4_worstLot_13 : decode cX4_worstLot 13 = .ok (.if_icmp .gt 52, 3) := by decide +kernel
theorem dX4_worstLot_16 : decode cX4_worstLot 16 = .ok (.aload_n 0, 1) := by decide +kernel
theorem dX4_worstLot_17 : decode cX4_worstLot 17 = .ok (.iload 4, 2) := by decide +kernel
theorem dX4_worstLot_19 : decode cX4_worstLot 19 = .ok (.invokevirtual 21, 3) := by decide +kernel
theorem dX4_worstLot_22 : decode cX4_worstLot 22 = .ok (.istore 5, 2) := by decide +kernel
theorem dX4_worstLot_24 : decode cX4_worstLot 24 = .ok (.iload 5, 2) := by decide +kernel
theorem dX4_worstLot_26 : decode cX4_worstLot 26 = .ok (.ifCond .le 33, 3) := by decide +kernel
theorem dX4_worstLot_29 : decode cX4_worstLot 29 = .ok (.aload_n 0, 1) := by decide +kernel
theorem dX4_worstLot_30 : decode cX4_worstLot 30 = .ok (.getfield 15, 3) := by decide +kernel
theorem dX4_worstLot_33 : decode cX4_worstLot 33 = .ok (.iload 4, 2) := by decide +kernel
theorem dX4_worstLot_35 : decode cX4_worstLot 35 = .ok (.iaload, 1) := by decide +kernel
theorem dX4_worstLot_36 : decode cX4_worstLot 36 = .ok (.iload_n 3, 1) := by decide +kernel
theorem dX4_worstLot_37 : decode cX4_worstLot 37 = .ok (.imul, 1) := by decide +kernel
theorem dX4_worstLot_38 : decode cX4_worstLot 38 = .ok (.iload_n 2, 1) := by decide +kernel
theorem dX4_worstLot_39 : decode cX4_worstLot 39 = .ok (.iload 5, 2) := by decide +kernel
theorem dX4_worstLot_41 : decode cX4_worstLot 41 = .ok (.imul, 1) := by decide +kernel
theorem dX4_worstLot_42 : decode cX4_worstLot 42 = .ok (.if_icmp .le 17, 3) := by decide +kernel
theorem dX4_worstLot_45 : decode cX4_worstLot 45 = .ok (.iload 4, 2) := by decide +kernel
theorem dX4_worstLot_47 : decode cX4_worstLot 47 = .ok (.istore_n 1, 1) := by decide +kernel
theorem dX4_worstLot_48 : decode cX4_worstLot 48 = .ok (.aload_n 0, 1) := by decide +kernel
theorem dX4_worstLot_49 : decode cX4_worstLot 49 = .ok (.getfield 15, 3) := by decide +kernel
theorem dX4_worstLot_52 : decode cX4_worstLot 52 = .ok (.iload 4, 2) := by decide +kernel
theorem dX4_worstLot_54 : decode cX4_worstLot 54 = .ok (.iaload, 1) := by decide +kernel
theorem dX4_worstLot_55 : decode cX4_worstLot 55 = .ok (.istore_n 2, 1) := by decide +kernel
theorem dX4_worstLot_56 : decode cX4_worstLot 56 = .ok (.iload 5, 2) := by decide +kernel
theorem dX4_worstLot_58 : decode cX4_worstLot 58 = .ok (.istore_n 3, 1) := by decide +kernel
theorem dX4_worstLot_59 : decode cX4_worstLot 59 = .ok (.iinc 4 1, 3) := by decide +kernel
theorem dX4_worstLot_62 : decode cX4_worstLot 62 = .ok (.goto (-52), 3) := by decide +kernel
theorem dX4_worstLot_65 : decode cX4_worstLot 65 = .ok (.iload_n 1, 1) := by decide +kernel
theorem dX4_worstLot_66 : decode cX4_worstLot 66 = .ok (.ireturn, 1) := by decide +kernel
theorem dX4_isWorstBeyondDoubt_0 : decode cX4_isWorstBeyondDoubt 0 = .ok (.aload_n 0, 1) := by decide +kernel
theorem dX4_isWorstBeyondDoubt_1 : decode cX4_isWorstBeyondDoubt 1 = .ok (.invokevirtual 25, 3) := by decide +kernel
theorem dX4_isWorstBeyondDoubt_4 : decode cX4_isWorstBeyondDoubt 4 = .ok (.istore_n 1, 1) := by decide +kernel
theorem dX4_isWorstBeyondDoubt_5 : decode cX4_isWorstBeyondDoubt 5 = .ok (.iload_n 1, 1) := by decide +kernel
theorem dX4_isWorstBeyondDoubt_6 : decode cX4_isWorstBeyondDoubt 6 = .ok (.bipush (-9), 2) := by decide +kernel
theorem dX4_isWorstBeyondDoubt_8 : decode cX4_isWorstBeyondDoubt 8 = .ok (.if_icmp .ne 5, 3) := by decide +kernel
theorem dX4_isWorstBeyondDoubt_11 : decode cX4_isWorstBeyondDoubt 11 = .ok (.iconst 0, 1) := by decide +kernel
theorem dX4_isWorstBeyondDoubt_12 : decode cX4_isWorstBeyondDoubt 12 = .ok (.ireturn, 1) := by decide +kernel
theorem dX4_isWorstBeyondDoubt_13 : decode cX4_isWorstBeyondDoubt 13 = .ok (.aload_n 0, 1) := by decide +kernel
theorem dX4_isWorstBeyondDoubt_14 : decode cX4_isWorstBeyondDoubt 14 = .ok (.iload_n 1, 1) := by decide +kernel
theorem dX4_isWorstBeyondDoubt_15 : decode cX4_isWorstBeyondDoubt 15 = .ok (.invokevirtual 21, 3) := by decide +kernel
theorem dX4_isWorstBeyondDoubt_18 : decode cX4_isWorstBeyondDoubt 18 = .ok (.istore_n 2, 1) := by decide +kernel
theorem dX4_isWorstBeyondDoubt_19 : decode cX4_isWorstBeyondDoubt 19 = .ok (.iconst 0, 1) := by decide +kernel
theorem dX4_isWorstBeyondDoubt_20 : decode cX4_isWorstBeyondDoubt 20 = .ok (.istore_n 3, 1) := by decide +kernel
theorem dX4_isWorstBeyondDoubt_21 : decode cX4_isWorstBeyondDoubt 21 = .ok (.iload_n 3, 1) := by decide +kernel
theorem dX4_isWorstBeyondDoubt_22 : decode cX4_isWorstBeyondDoubt 22 = .ok (.iconst 5, 1) := by decide +kernel
theorem dX4_isWorstBeyondDoubt_23 : decode cX4_isWorstBeyondDoubt 23 = .ok (.if_icmp .gt 50, 3) := by decide +kernel
theorem dX4_isWorstBeyondDoubt_26 : decode cX4_isWorstBeyondDoubt 26 = .ok (.aload_n 0, 1) := by decide +kernel
theorem dX4_isWorstBeyondDoubt_27 : decode cX4_isWorstBeyondDoubt 27 = .ok (.iload_n 3, 1) := by decide +kernel
theorem dX4_isWorstBeyondDoubt_28 : decode cX4_isWorstBeyondDoubt 28 = .ok (.invokevirtual 21, 3) := by decide +kernel
theorem dX4_isWorstBeyondDoubt_31 : decode cX4_isWorstBeyondDoubt 31 = .ok (.istore 4, 2) := by decide +kernel
theorem dX4_isWorstBeyondDoubt_33 : decode cX4_isWorstBeyondDoubt 33 = .ok (.iload_n 3, 1) := by decide +kernel
theorem dX4_isWorstBeyondDoubt_34 : decode cX4_isWorstBeyondDoubt 34 = .ok (.iload_n 1, 1) := by decide +kernel
theorem dX4_isWorstBeyondDoubt_35 : decode cX4_isWorstBeyondDoubt 35 = .ok (.if_icmp .eq 32, 3) := by decide +kernel
theorem dX4_isWorstBeyondDoubt_38 : decode cX4_isWorstBeyondDoubt 38 = .ok (.iload 4, 2) := by decide +kernel
theorem dX4_isWorstBeyondDoubt_40 : decode cX4_isWorstBeyondDoubt 40 = .ok (.ifCond .le 27, 3) := by decide +kernel
theorem dX4_isWorstBeyondDoubt_43 : decode cX4_isWorstBeyondDoubt 43 = .ok (.aload_n 0, 1) := by decide +kernel
theorem dX4_isWorstBeyondDoubt_44 : decode cX4_isWorstBeyondDoubt 44 = .ok (.getfield 15, 3) := by decide +kernel
theorem dX4_isWorstBeyondDoubt_47 : decode cX4_isWorstBeyondDoubt 47 = .ok (.iload_n 1, 1) := by decide +kernel
theorem dX4_isWorstBeyondDoubt_48 : decode cX4_isWorstBeyondDoubt 48 = .ok (.iaload, 1) := by decide +kernel
theorem dX4_isWorstBeyondDoubt_49 : decode cX4_isWorstBeyondDoubt 49 = .ok (.iload 4, 2) := by decide +kernel
theorem dX4_isWorstBeyondDoubt_51 : decode cX4_isWorstBeyondDoubt 51 = .ok (.imul, 1) := by decide +kernel
theorem dX4_isWorstBeyondDoubt_52 : decode cX4_isWorstBeyondDoubt 52 = .ok (.iconst 2, 1) := by decide +kernel
theorem dX4_isWorstBeyondDoubt_53 : decode cX4_isWorstBeyondDoubt 53 = .ok (.aload_n 0, 1) := by decide +kernel
theorem dX4_isWorstBeyondDoubt_54 : decode cX4_isWorstBeyondDoubt 54 = .ok (.getfield 15, 3) := by decide +kernel
theorem dX4_isWorstBeyondDoubt_57 : decode cX4_isWorstBeyondDoubt 57 = .ok (.iload_n 3, 1) := by decide +kernel
theorem dX4_isWorstBeyondDoubt_58 : decode cX4_isWorstBeyondDoubt 58 = .ok (.iaload, 1) := by decide +kernel
theorem dX4_isWorstBeyondDoubt_59 : decode cX4_isWorstBeyondDoubt 59 = .ok (.imul, 1) := by decide +kernel
theorem dX4_isWorstBeyondDoubt_60 : decode cX4_isWorstBeyondDoubt 60 = .ok (.iload_n 2, 1) := by decide +kernel
theorem dX4_isWorstBeyondDoubt_61 : decode cX4_isWorstBeyondDoubt 61 = .ok (.imul, 1) := by decide +kernel
theorem dX4_isWorstBeyondDoubt_62 : decode cX4_isWorstBeyondDoubt 62 = .ok (.if_icmp .gt 5, 3) := by decide +kernel
theorem dX4_isWorstBeyondDoubt_65 : decode cX4_isWorstBeyondDoubt 65 = .ok (.iconst 0, 1) := by decide +kernel
theorem dX4_isWorstBeyondDoubt_66 : decode cX4_isWorstBeyondDoubt 66 = .ok (.ireturn, 1) := by decide +kernel
theorem dX4_isWorstBeyondDoubt_67 : decode cX4_isWorstBeyondDoubt 67 = .ok (.iinc 3 1, 3) := by decide +kernel
theorem dX4_isWorstBeyondDoubt_70 : decode cX4_isWorstBeyondDoubt 70 = .ok (.goto (-49), 3) := by decide +kernel
theorem dX4_isWorstBeyondDoubt_73 : decode cX4_isWorstBeyondDoubt 73 = .ok (.iconst 1, 1) := by decide +kernel
theorem dX4_isWorstBeyondDoubt_74 : decode cX4_isWorstBeyondDoubt 74 = .ok (.ireturn, 1) := by decide +kernel
theorem dX5_init_0 : decode cX5_init 0 = .ok (.aload_n 0, 1) := by decide +kernel
theorem dX5_init_1 : decode cX5_init 1 = .ok (.invokespecial 3, 3) := by decide +kernel
theorem dX5_init_4 : decode cX5_init 4 = .ok (.aload_n 0, 1) := by decide +kernel
theorem dX5_init_5 : decode cX5_init 5 = .ok (.sipush 1001, 3) := by decide +kernel
theorem dX5_init_8 : decode cX5_init 8 = .ok (.newarray .int, 2) := by decide +kernel
theorem dX5_init_10 : decode cX5_init 10 = .ok (.putfield 9, 3) := by decide +kernel
theorem dX5_init_13 : decode cX5_init 13 = .ok (.aload_n 0, 1) := by decide +kernel
theorem dX5_init_14 : decode cX5_init 14 = .ok (.iload_n 1, 1) := by decide +kernel
theorem dX5_init_15 : decode cX5_init 15 = .ok (.putfield 15, 3) := by decide +kernel
theorem dX5_init_18 : decode cX5_init 18 = .ok (.aload_n 0, 1) := by decide +kernel
theorem dX5_init_19 : decode cX5_init 19 = .ok (.iload_n 2, 1) := by decide +kernel
theorem dX5_init_20 : decode cX5_init 20 = .ok (.putfield 19, 3) := by decide +kernel
theorem dX5_init_23 : decode cX5_init 23 = .ok (.iconst 0, 1) := by decide +kernel
theorem dX5_init_24 : decode cX5_init 24 = .ok (.istore_n 3, 1) := by decide +kernel
theorem dX5_init_25 : decode cX5_init 25 = .ok (.iload_n 3, 1) := by decide +kernel
theorem dX5_init_26 : decode cX5_init 26 = .ok (.sipush 1000, 3) := by decide +kernel
theorem dX5_init_29 : decode cX5_init 29 = .ok (.if_icmp .gt 16, 3) := by decide +kernel
theorem dX5_init_32 : decode cX5_init 32 = .ok (.aload_n 0, 1) := by decide +kernel
theorem dX5_init_33 : decode cX5_init 33 = .ok (.getfield 9, 3) := by decide +kernel
theorem dX5_init_36 : decode cX5_init 36 = .ok (.iload_n 3, 1) := by decide +kernel
theorem dX5_init_37 : decode cX5_init 37 = .ok (.iconst (-1), 1) := by decide +kernel
theorem dX5_init_38 : decode cX5_init 38 = .ok (.iastore, 1) := by decide +kernel
theorem dX5_init_39 : decode cX5_init 39 = .ok (.iinc 3 1, 3) := by decide +kernel
theorem dX5_init_42 : decode cX5_init 42 = .ok (.goto (-17), 3) := by decide +kernel
theorem dX5_init_45 : decode cX5_init 45 = .ok (.return_, 1) := by decide +kernel
theorem dX5_tell_0 : decode cX5_tell 0 = .ok (.aload_n 0, 1) := by decide +kernel
theorem dX5_tell_1 : decode cX5_tell 1 = .ok (.getfield 9, 3) := by decide +kernel
theorem dX5_tell_4 : decode cX5_tell 4 = .ok (.iload_n 1, 1) := by decide +kernel
theorem dX5_tell_5 : decode cX5_tell 5 = .ok (.iaload, 1) := by decide +kernel
theorem dX5_tell_6 : decode cX5_tell 6 = .ok (.istore_n 3, 1) := by decide +kernel
theorem dX5_tell_7 : decode cX5_tell 7 = .ok (.aload_n 0, 1) := by decide +kernel
theorem dX5_tell_8 : decode cX5_tell 8 = .ok (.getfield 9, 3) := by decide +kernel
theorem dX5_tell_11 : decode cX5_tell 11 = .ok (.iload_n 1, 1) := by decide +kernel
theorem dX5_tell_12 : decode cX5_tell 12 = .ok (.iload_n 2, 1) := by decide +kernel
theorem dX5_tell_13 : decode cX5_tell 13 = .ok (.iastore, 1) := by decide +kernel
theorem dX5_tell_14 : decode cX5_tell 14 = .ok (.iload_n 3, 1) := by decide +kernel
theorem dX5_tell_15 : decode cX5_tell 15 = .ok (.ireturn, 1) := by decide +kernel
theorem dX5_counted_0 : decode cX5_counted 0 = .ok (.aload_n 0, 1) := by decide +kernel
theorem dX5_counted_1 : decode cX5_counted 1 = .ok (.getfield 9, 3) := by decide +kernel
theorem dX5_counted_4 : decode cX5_counted 4 = .ok (.iload_n 1, 1) := by decide +kernel
theorem dX5_counted_5 : decode cX5_counted 5 = .ok (.iaload, 1) := by decide +kernel
theorem dX5_counted_6 : decode cX5_counted 6 = .ok (.iconst (-1), 1) := by decide +kernel
theorem dX5_counted_7 : decode cX5_counted 7 = .ok (.if_icmp .eq 10, 3) := by decide +kernel
theorem dX5_counted_10 : decode cX5_counted 10 = .ok (.aload_n 0, 1) := by decide +kernel
theorem dX5_counted_11 : decode cX5_counted 11 = .ok (.getfield 9, 3) := by decide +kernel
theorem dX5_counted_14 : decode cX5_counted 14 = .ok (.iload_n 1, 1) := by decide +kernel
theorem dX5_counted_15 : decode cX5_counted 15 = .ok (.iaload, 1) := by decide +kernel
theorem dX5_counted_16 : decode cX5_counted 16 = .ok (.ireturn, 1) := by decide +kernel
theorem dX5_counted_17 : decode cX5_counted 17 = .ok (.iconst (-1), 1) := by decide +kernel
theorem dX5_counted_18 : decode cX5_counted 18 = .ok (.istore_n 2, 1) := by decide +kernel
theorem dX5_counted_19 : decode cX5_counted 19 = .ok (.iconst 0, 1) := by decide +kernel
theorem dX5_counted_20 : decode cX5_counted 20 = .ok (.iload_n 1, 1) := by decide +kernel
theorem dX5_counted_21 : decode cX5_counted 21 = .ok (.bipush 7, 2) := by decide +kernel
theorem dX5_counted_23 : decode cX5_counted 23 = .ok (.isub, 1) := by decide +kernel
theorem dX5_counted_24 : decode cX5_counted 24 = .ok (.invokestatic 22, 3) := by decide +kernel
theorem dX5_counted_27 : decode cX5_counted 27 = .ok (.istore_n 3, 1) := by decide +kernel
theorem dX5_counted_28 : decode cX5_counted 28 = .ok (.iload_n 3, 1) := by decide +kernel
theorem dX5_counted_29 : decode cX5_counted 29 = .ok (.iload_n 1, 1) := by decide +kernel
theorem dX5_counted_30 : decode cX5_counted 30 = .ok (.if_icmp .ge 20, 3) := by decide +kernel
theorem dX5_counted_33 : decode cX5_counted 33 = .ok (.iload_n 2, 1) := by decide +kernel
theorem dX5_counted_34 : decode cX5_counted 34 = .ok (.aload_n 0, 1) := by decide +kernel
theorem dX5_counted_35 : decode cX5_counted 35 = .ok (.getfield 9, 3) := by decide +kernel
theorem dX5_counted_38 : decode cX5_counted 38 = .ok (.iload_n 3, 1) := by decide +kernel
theorem dX5_counted_39 : decode cX5_counted 39 = .ok (.iaload, 1) := by decide +kernel
theorem dX5_counted_40 : decode cX5_counted 40 = .ok (.invokestatic 22, 3) := by decide +kernel
theorem dX5_counted_43 : decode cX5_counted 43 = .ok (.istore_n 2, 1) := by decide +kernel
theorem dX5_counted_44 : decode cX5_counted 44 = .ok (.iinc 3 1, 3) := by decide +kernel
theorem dX5_counted_47 : decode cX5_counted 47 = .ok (.goto (-19), 3) := by decide +kernel
theorem dX5_counted_50 : decode cX5_counted 50 = .ok (.iload_n 2, 1) := by decide +kernel
theorem dX5_counted_51 : decode cX5_counted 51 = .ok (.iconst (-1), 1) := by decide +kernel
theorem dX5_counted_52 : decode cX5_counted 52 = .ok (.if_icmp .ne 10, 3) := by decide +kernel
theorem dX5_counted_55 : decode cX5_counted 55 = .ok (.aload_n 0, 1) := by decide +kernel
theorem dX5_counted_56 : decode cX5_counted 56 = .ok (.getfield 15, 3) := by decide +kernel
theorem dX5_counted_59 : decode cX5_counted 59 = .ok (.goto 4, 3) := by decide +kernel
theorem dX5_counted_62 : decode cX5_counted 62 = .ok (.iload_n 2, 1) := by decide +kernel
theorem dX5_counted_63 : decode cX5_counted 63 = .ok (.ireturn, 1) := by decide +kernel
theorem dX6_init_0 : decode cX6_init 0 = .ok (.aload_n 0, 1) := by decide +kernel
theorem dX6_init_1 : decode cX6_init 1 = .ok (.invokespecial 3, 3) := by decide +kernel
theorem dX6_init_4 : decode cX6_init 4 = .ok (.aload_n 0, 1) := by decide +kernel
theorem dX6_init_5 : decode cX6_init 5 = .ok (.iconst 0, 1) := by decide +kernel
theorem dX6_init_6 : decode cX6_init 6 = .ok (.putfield 9, 3) := by decide +kernel
theorem dX6_init_9 : decode cX6_init 9 = .ok (.aload_n 0, 1) := by decide +kernel
theorem dX6_init_10 : decode cX6_init 10 = .ok (.bipush 30, 2) := by decide +kernel
theorem dX6_init_12 : decode cX6_init 12 = .ok (.newarray .int, 2) := by decide +kernel
theorem dX6_init_14 : decode cX6_init 14 = .ok (.putfield 15, 3) := by decide +kernel
theorem dX6_init_17 : decode cX6_init 17 = .ok (.aload_n 0, 1) := by decide +kernel
theorem dX6_init_18 : decode cX6_init 18 = .ok (.bipush 30, 2) := by decide +kernel
theorem dX6_init_20 : decode cX6_init 20 = .ok (.newarray .int, 2) := by decide +kernel
theorem dX6_init_22 : decode cX6_init 22 = .ok (.putfield 19, 3) := by decide +kernel
theorem dX6_init_25 : decode cX6_init 25 = .ok (.aload_n 0, 1) := by decide +kernel
theorem dX6_init_26 : decode cX6_init 26 = .ok (.bipush 30, 2) := by decide +kernel
theorem dX6_init_28 : decode cX6_init 28 = .ok (.newarray .int, 2) := by decide +kernel
theorem dX6_init_30 : decode cX6_init 30 = .ok (.putfield 22, 3) := by decide +kernel
theorem dX6_init_33 : decode cX6_init 33 = .ok (.aload_n 0, 1) := by decide +kernel
theorem dX6_init_34 : decode cX6_init 34 = .ok (.bipush 30, 2) := by decide +kernel
theorem dX6_init_36 : decode cX6_init 36 = .ok (.newarray .int, 2) := by decide +kernel
theorem dX6_init_38 : decode cX6_init 38 = .ok (.putfield 25, 3) := by decide +kernel
theorem dX6_init_41 : decode cX6_init 41 = .ok (.aload_n 0, 1) := by decide +kernel
theorem dX6_init_42 : decode cX6_init 42 = .ok (.bipush 30, 2) := by decide +kernel
theorem dX6_init_44 : decode cX6_init 44 = .ok (.newarray .int, 2) := by decide +kernel
theorem dX6_init_46 : decode cX6_init 46 = .ok (.putfield 28, 3) := by decide +kernel
theorem dX6_init_49 : decode cX6_init 49 = .ok (.return_, 1) := by decide +kernel
theorem dX6_add_0 : decode cX6_add 0 = .ok (.aload_n 0, 1) := by decide +kernel
theorem dX6_add_1 : decode cX6_add 1 = .ok (.getfield 9, 3) := by decide +kernel
theorem dX6_add_4 : decode cX6_add 4 = .ok (.istore 6, 2) := by decide +kernel
theorem dX6_add_6 : decode cX6_add 6 = .ok (.aload_n 0, 1) := by decide +kernel
theorem dX6_add_7 : decode cX6_add 7 = .ok (.getfield 22, 3) := by decide +kernel
theorem dX6_add_10 : decode cX6_add 10 = .ok (.iload 6, 2) := by decide +kernel
theorem dX6_add_12 : decode cX6_add 12 = .ok (.iload_n 1, 1) := by decide +kernel
theorem dX6_add_13 : decode cX6_add 13 = .ok (.iastore, 1) := by decide +kernel
theorem dX6_add_14 : decode cX6_add 14 = .ok (.aload_n 0, 1) := by decide +kernel
theorem dX6_add_15 : decode cX6_add 15 = .ok (.getfield 25, 3) := by decide +kernel
theorem dX6_add_18 : decode cX6_add 18 = .ok (.iload 6, 2) := by decide +kernel
theorem dX6_add_20 : decode cX6_add 20 = .ok (.iload_n 2, 1) := by decide +kernel
theorem dX6_add_21 : decode cX6_add 21 = .ok (.iastore, 1) := by decide +kernel
theorem dX6_add_22 : decode cX6_add 22 = .ok (.aload_n 0, 1) := by decide +kernel
theorem dX6_add_23 : decode cX6_add 23 = .ok (.getfield 28, 3) := by decide +kernel
theorem dX6_add_26 : decode cX6_add 26 = .ok (.iload 6, 2) := by decide +kernel
theorem dX6_add_28 : decode cX6_add 28 = .ok (.iload_n 3, 1) := by decide +kernel
theorem dX6_add_29 : decode cX6_add 29 = .ok (.iastore, 1) := by decide +kernel
theorem dX6_add_30 : decode cX6_add 30 = .ok (.aload_n 0, 1) := by decide +kernel
theorem dX6_add_31 : decode cX6_add 31 = .ok (.getfield 15, 3) := by decide +kernel
theorem dX6_add_34 : decode cX6_add 34 = .ok (.iload 6, 2) := by decide +kernel
theorem dX6_add_36 : decode cX6_add 36 = .ok (.iload 4, 2) := by decide +kernel
theorem dX6_add_38 : decode cX6_add 38 = .ok (.iastore, 1) := by decide +kernel
theorem dX6_add_39 : decode cX6_add 39 = .ok (.aload_n 0, 1) := by decide +kernel
theorem dX6_add_40 : decode cX6_add 40 = .ok (.getfield 19, 3) := by decide +kernel
theorem dX6_add_43 : decode cX6_add 43 = .ok (.iload 6, 2) := by decide +kernel
theorem dX6_add_45 : decode cX6_add 45 = .ok (.iload 5, 2) := by decide +kernel
theorem dX6_add_47 : decode cX6_add 47 = .ok (.iastore, 1) := by decide +kernel
theorem dX6_add_48 : decode cX6_add 48 = .ok (.aload_n 0, 1) := by decide +kernel
theorem dX6_add_49 : decode cX6_add 49 = .ok (.dup, 1) := by decide +kernel
theorem dX6_add_50 : decode cX6_add 50 = .ok (.getfield 9, 3) := by decide +kernel
theorem dX6_add_53 : decode cX6_add 53 = .ok (.iconst 1, 1) := by decide +kernel
theorem dX6_add_54 : decode cX6_add 54 = .ok (.iadd, 1) := by decide +kernel
theorem dX6_add_55 : decode cX6_add 55 = .ok (.putfield 9, 3) := by decide +kernel
theorem dX6_add_58 : decode cX6_add 58 = .ok (.iload 6, 2) := by decide +kernel
