theorem dX9_open_0 : decode cX9_open 0 = .ok (.aload_n 0, 1) := by decide +kernel
theorem dX9_open_1 : decode cX9_open 1 = .ok (.getfield 11, 3) := by decide +kernel
theorem dX9_open_4 : decode cX9_open 4 = .ok (.bipush 99, 2) := by decide +kernel
theorem dX9_open_6 : decode cX9_open 6 = .ok (.invokevirtual 36, 3) := by decide +kernel
theorem dX9_open_9 : decode cX9_open 9 = .ok (.istore_n 1, 1) := by decide +kernel
theorem dX9_open_10 : decode cX9_open 10 = .ok (.aload_n 0, 1) := by decide +kernel
theorem dX9_open_11 : decode cX9_open 11 = .ok (.getfield 11, 3) := by decide +kernel
theorem dX9_open_14 : decode cX9_open 14 = .ok (.iload_n 1, 1) := by decide +kernel
theorem dX9_open_15 : decode cX9_open 15 = .ok (.iconst 1, 1) := by decide +kernel
theorem dX9_open_16 : decode cX9_open 16 = .ok (.invokevirtual 42, 3) := by decide +kernel
theorem dX9_open_19 : decode cX9_open 19 = .ok (.aload_n 0, 1) := by decide +kernel
theorem dX9_open_20 : decode cX9_open 20 = .ok (.getfield 11, 3) := by decide +kernel
theorem dX9_open_23 : decode cX9_open 23 = .ok (.iload_n 1, 1) := by decide +kernel
theorem dX9_open_24 : decode cX9_open 24 = .ok (.iconst 1, 1) := by decide +kernel
theorem dX9_open_25 : decode cX9_open 25 = .ok (.iadd, 1) := by decide +kernel
theorem dX9_open_26 : decode cX9_open 26 = .ok (.iconst 1, 1) := by decide +kernel
theorem dX9_open_27 : decode cX9_open 27 = .ok (.invokevirtual 42, 3) := by decide +kernel
theorem dX9_open_30 : decode cX9_open 30 = .ok (.iload_n 1, 1) := by decide +kernel
theorem dX9_open_31 : decode cX9_open 31 = .ok (.ireturn, 1) := by decide +kernel
theorem dX9_ofNumber_0 : decode cX9_ofNumber 0 = .ok (.aload_n 0, 1) := by decide +kernel
theorem dX9_ofNumber_1 : decode cX9_ofNumber 1 = .ok (.invokevirtual 68, 3) := by decide +kernel
theorem dX9_ofNumber_4 : decode cX9_ofNumber 4 = .ok (.istore_n 2, 1) := by decide +kernel
theorem dX9_ofNumber_5 : decode cX9_ofNumber 5 = .ok (.aload_n 0, 1) := by decide +kernel
theorem dX9_ofNumber_6 : decode cX9_ofNumber 6 = .ok (.getfield 11, 3) := by decide +kernel
theorem dX9_ofNumber_9 : decode cX9_ofNumber 9 = .ok (.iload_n 1, 1) := by decide +kernel
theorem dX9_ofNumber_10 : decode cX9_ofNumber 10 = .ok (.invokevirtual 72, 3) := by decide +kernel
theorem dX9_ofNumber_13 : decode cX9_ofNumber 13 = .ok (.pop, 1) := by decide +kernel
theorem dX9_ofNumber_14 : decode cX9_ofNumber 14 = .ok (.aload_n 0, 1) := by decide +kernel
theorem dX9_ofNumber_15 : decode cX9_ofNumber 15 = .ok (.getfield 11, 3) := by decide +kernel
theorem dX9_ofNumber_18 : decode cX9_ofNumber 18 = .ok (.iconst 1, 1) := by decide +kernel
theorem dX9_ofNumber_19 : decode cX9_ofNumber 19 = .ok (.invokevirtual 72, 3) := by decide +kernel
theorem dX9_ofNumber_22 : decode cX9_ofNumber 22 = .ok (.pop, 1) := by decide +kernel
theorem dX9_ofNumber_23 : decode cX9_ofNumber 23 = .ok (.iload_n 2, 1) := by decide +kernel
theorem dX9_ofNumber_24 : decode cX9_ofNumber 24 = .ok (.ireturn, 1) := by decide +kernel
theorem dX9_kindOf_0 : decode cX9_kindOf 0 = .ok (.aload_n 0, 1) := by decide +kernel
theorem dX9_kindOf_1 : decode cX9_kindOf 1 = .ok (.getfield 11, 3) := by decide +kernel
theorem dX9_kindOf_4 : decode cX9_kindOf 4 = .ok (.iload_n 1, 1) := by decide +kernel
theorem dX9_kindOf_5 : decode cX9_kindOf 5 = .ok (.invokevirtual 117, 3) := by decide +kernel
theorem dX9_kindOf_8 : decode cX9_kindOf 8 = .ok (.iconst 1, 1) := by decide +kernel
theorem dX9_kindOf_9 : decode cX9_kindOf 9 = .ok (.if_icmp .ne 34, 3) := by decide +kernel
theorem dX9_kindOf_12 : decode cX9_kindOf 12 = .ok (.aload_n 0, 1) := by decide +kernel
theorem dX9_kindOf_13 : decode cX9_kindOf 13 = .ok (.getfield 11, 3) := by decide +kernel
theorem dX9_kindOf_16 : decode cX9_kindOf 16 = .ok (.iload_n 1, 1) := by decide +kernel
theorem dX9_kindOf_17 : decode cX9_kindOf 17 = .ok (.iconst 1, 1) := by decide +kernel
theorem dX9_kindOf_18 : decode cX9_kindOf 18 = .ok (.iadd, 1) := by decide +kernel
theorem dX9_kindOf_19 : decode cX9_kindOf 19 = .ok (.invokevirtual 117, 3) := by decide +kernel
theorem dX9_kindOf_22 : decode cX9_kindOf 22 = .ok (.iconst 1, 1) := by decide +kernel
theorem dX9_kindOf_23 : decode cX9_kindOf 23 = .ok (.if_icmp .ne 20, 3) := by decide +kernel
theorem dX9_kindOf_26 : decode cX9_kindOf 26 = .ok (.aload_n 0, 1) := by decide +kernel
theorem dX9_kindOf_27 : decode cX9_kindOf 27 = .ok (.getfield 11, 3) := by decide +kernel
theorem dX9_kindOf_30 : decode cX9_kindOf 30 = .ok (.iload_n 1, 1) := by decide +kernel
theorem dX9_kindOf_31 : decode cX9_kindOf 31 = .ok (.iconst 2, 1) := by decide +kernel
theorem dX9_kindOf_32 : decode cX9_kindOf 32 = .ok (.iadd, 1) := by decide +kernel
theorem dX9_kindOf_33 : decode cX9_kindOf 33 = .ok (.invokevirtual 117, 3) := by decide +kernel
theorem dX9_kindOf_36 : decode cX9_kindOf 36 = .ok (.ifCond .ne 7, 3) := by decide +kernel
theorem dX9_kindOf_39 : decode cX9_kindOf 39 = .ok (.iconst 1, 1) := by decide +kernel
theorem dX9_kindOf_40 : decode cX9_kindOf 40 = .ok (.goto 4, 3) := by decide +kernel
theorem dX9_kindOf_44 : decode cX9_kindOf 44 = .ok (.ireturn, 1) := by decide +kernel
theorem dX3_under_0 : decode cX3_under 0 = .ok (.iload_n 1, 1) := by decide +kernel
theorem dX3_under_1 : decode cX3_under 1 = .ok (.aload_n 0, 1) := by decide +kernel
theorem dX3_under_2 : decode cX3_under 2 = .ok (.getfield 9, 3) := by decide +kernel
theorem dX3_under_5 : decode cX3_under 5 = .ok (.iload_n 1, 1) := by decide +kernel
theorem dX3_under_6 : decode cX3_under 6 = .ok (.invokevirtual 23, 3) := by decide +kernel
theorem dX3_under_9 : decode cX3_under 9 = .ok (.iadd, 1) := by decide +kernel
theorem dX3_under_10 : decode cX3_under 10 = .ok (.ireturn, 1) := by decide +kernel
theorem dX9_ratioOf_0 : decode cX9_ratioOf 0 = .ok (.iload_n 1, 1) := by decide +kernel
theorem dX9_ratioOf_1 : decode cX9_ratioOf 1 = .ok (.bipush 99, 2) := by decide +kernel
theorem dX9_ratioOf_3 : decode cX9_ratioOf 3 = .ok (.iadd, 1) := by decide +kernel
theorem dX9_ratioOf_4 : decode cX9_ratioOf 4 = .ok (.ireturn, 1) := by decide +kernel
theorem dX2_save_0 : decode cX2_save 0 = .ok (.iconst 0, 1) := by decide +kernel
theorem dX2_save_1 : decode cX2_save 1 = .ok (.istore_n 3, 1) := by decide +kernel
theorem dX2_save_2 : decode cX2_save 2 = .ok (.iload_n 3, 1) := by decide +kernel
theorem dX2_save_3 : decode cX2_save 3 = .ok (.aload_n 2, 1) := by decide +kernel
theorem dX2_save_4 : decode cX2_save 4 = .ok (.arraylength, 1) := by decide +kernel
theorem dX2_save_5 : decode cX2_save 5 = .ok (.if_icmp .ge 13, 3) := by decide +kernel
theorem dX2_save_8 : decode cX2_save 8 = .ok (.aload_n 2, 1) := by decide +kernel
theorem dX2_save_9 : decode cX2_save 9 = .ok (.iload_n 3, 1) := by decide +kernel
theorem dX2_save_10 : decode cX2_save 10 = .ok (.iconst 0, 1) := by decide +kernel
theorem dX2_save_11 : decode cX2_save 11 = .ok (.iastore, 1) := by decide +kernel
theorem dX2_save_12 : decode cX2_save 12 = .ok (.iinc 3 1, 3) := by decide +kernel
theorem dX2_save_15 : decode cX2_save 15 = .ok (.goto (-13), 3) := by decide +kernel
theorem dX2_save_18 : decode cX2_save 18 = .ok (.aload_n 2, 1) := by decide +kernel
theorem dX2_save_19 : decode cX2_save 19 = .ok (.arraylength, 1) := by decide +kernel
theorem dX2_save_20 : decode cX2_save 20 = .ok (.iconst 2, 1) := by decide +kernel
theorem dX2_save_21 : decode cX2_save 21 = .ok (.if_icmp .ge 4, 3) := by decide +kernel
theorem dX2_save_25 : decode cX2_save 25 = .ok (.aload_n 2, 1) := by decide +kernel
theorem dX2_save_26 : decode cX2_save 26 = .ok (.iconst 0, 1) := by decide +kernel
theorem dX2_save_27 : decode cX2_save 27 = .ok (.aload_n 0, 1) := by decide +kernel
theorem dX2_save_28 : decode cX2_save 28 = .ok (.getfield 9, 3) := by decide +kernel
theorem dX2_save_31 : decode cX2_save 31 = .ok (.iload_n 1, 1) := by decide +kernel
theorem dX2_save_32 : decode cX2_save 32 = .ok (.invokevirtual 15, 3) := by decide +kernel
theorem dX2_save_35 : decode cX2_save 35 = .ok (.bipush 24, 2) := by decide +kernel
theorem dX2_save_37 : decode cX2_save 37 = .ok (.invokestatic 55, 3) := by decide +kernel
theorem dX2_save_40 : decode cX2_save 40 = .ok (.iastore, 1) := by decide +kernel
theorem dX2_save_41 : decode cX2_save 41 = .ok (.aload_n 2, 1) := by decide +kernel
theorem dX2_save_42 : decode cX2_save 42 = .ok (.iconst 1, 1) := by decide +kernel
theorem dX2_save_43 : decode cX2_save 43 = .ok (.aload_n 0, 1) := by decide +kernel
theorem dX2_save_44 : decode cX2_save 44 = .ok (.getfield 9, 3) := by decide +kernel
theorem dX2_save_47 : decode cX2_save 47 = .ok (.iload_n 1, 1) := by decide +kernel
theorem dX2_save_48 : decode cX2_save 48 = .ok (.invokevirtual 21, 3) := by decide +kernel
theorem dX2_save_51 : decode cX2_save 51 = .ok (.bipush 12, 2) := by decide +kernel
theorem dX2_save_53 : decode cX2_save 53 = .ok (.invokestatic 55, 3) := by decide +kernel
theorem dX2_save_56 : decode cX2_save 56 = .ok (.iastore, 1) := by decide +kernel
theorem dX2_save_57 : decode cX2_save 57 = .ok (.iconst 0, 1) := by decide +kernel
theorem dX2_save_58 : decode cX2_save 58 = .ok (.istore_n 3, 1) := by decide +kernel
theorem dX2_save_59 : decode cX2_save 59 = .ok (.iload_n 3, 1) := by decide +kernel
theorem dX2_save_60 : decode cX2_save 60 = .ok (.aload_n 2, 1) := by decide +kernel
theorem dX2_save_61 : decode cX2_save 61 = .ok (.iconst 1, 1) := by decide +kernel
theorem dX2_save_62 : decode cX2_save 62 = .ok (.iaload, 1) := by decide +kernel
theorem dX2_save_63 : decode cX2_save 63 = .ok (.if_icmp .gt 70, 3) := by decide +kernel
theorem dX2_save_66 : decode cX2_save 66 = .ok (.iconst 2, 1) := by decide +kernel
theorem dX2_save_67 : decode cX2_save 67 = .ok (.iload_n 3, 1) := by decide +kernel
theorem dX2_save_68 : decode cX2_save 68 = .ok (.bipush 25, 2) := by decide +kernel
theorem dX2_save_70 : decode cX2_save 70 = .ok (.imul, 1) := by decide +kernel
theorem dX2_save_71 : decode cX2_save 71 = .ok (.iadd, 1) := by decide +kernel
theorem dX2_save_72 : decode cX2_save 72 = .ok (.istore 4, 2) := by decide +kernel
theorem dX2_save_74 : decode cX2_save 74 = .ok (.iconst 0, 1) := by decide +kernel
theorem dX2_save_75 : decode cX2_save 75 = .ok (.istore 5, 2) := by decide +kernel
theorem dX2_save_77 : decode cX2_save 77 = .ok (.iload 5, 2) := by decide +kernel
theorem dX2_save_79 : decode cX2_save 79 = .ok (.aload_n 2, 1) := by decide +kernel
theorem dX2_save_80 : decode cX2_save 80 = .ok (.iconst 0, 1) := by decide +kernel
theorem dX2_save_81 : decode cX2_save 81 = .ok (.iaload, 1) := by decide +kernel
theorem dX2_save_82 : decode cX2_save 82 = .ok (.if_icmp .gt 45, 3) := by decide +kernel
theorem dX2_save_85 : decode cX2_save 85 = .ok (.iload 4, 2) := by decide +kernel
theorem dX2_save_87 : decode cX2_save 87 = .ok (.iload 5, 2) := by decide +kernel
theorem dX2_save_89 : decode cX2_save 89 = .ok (.iadd, 1) := by decide +kernel
theorem dX2_save_90 : decode cX2_save 90 = .ok (.aload_n 2, 1) := by decide +kernel
theorem dX2_save_91 : decode cX2_save 91 = .ok (.arraylength, 1) := by decide +kernel
theorem dX2_save_92 : decode cX2_save 92 = .ok (.if_icmp .ge 35, 3) := by decide +kernel
theorem dX2_save_95 : decode cX2_save 95 = .ok (.aload_n 2, 1) := by decide +kernel
theorem dX2_save_96 : decode cX2_save 96 = .ok (.iload 4, 2) := by decide +kernel
theorem dX2_save_98 : decode cX2_save 98 = .ok (.iload 5, 2) := by decide +kernel
theorem dX2_save_100 : decode cX2_save 100 = .ok (.iadd, 1) := by decide +kernel
theorem dX2_save_101 : decode cX2_save 101 = .ok (.aload_n 0, 1) := by decide +kernel
theorem dX2_save_102 : decode cX2_save 102 = .ok (.getfield 9, 3) := by decide +kernel
theorem dX2_save_105 : decode cX2_save 105 = .ok (.aload_n 0, 1) := by decide +kernel
theorem dX2_save_106 : decode cX2_save 106 = .ok (.getfield 9, 3) := by decide +kernel
theorem dX2_save_109 : decode cX2_save 109 = .ok (.iload_n 1, 1) := by decide +kernel
theorem dX2_save_110 : decode cX2_save 110 = .ok (.iload_n 3, 1) := by decide +kernel
theorem dX2_save_111 : decode cX2_save 111 = .ok (.invokevirtual 24, 3) := by decide +kernel
theorem dX2_save_114 : decode cX2_save 114 = .ok (.iload 5, 2) := by decide +kernel
theorem dX2_save_116 : decode cX2_save 116 = .ok (.iadd, 1) := by decide +kernel
theorem dX2_save_117 : decode cX2_save 117 = .ok (.invokevirtual 28, 3) := by decide +kernel
theorem dX2_save_120 : decode cX2_save 120 = .ok (.iastore, 1) := by decide +kernel
theorem dX2_save_121 : decode cX2_save 121 = .ok (.iinc 5 1, 3) := by decide +kernel
theorem dX2_save_124 : decode cX2_save 124 = .ok (.goto (-47), 3) := by decide +kernel
theorem dX2_save_127 : decode cX2_save 127 = .ok (.iinc 3 1, 3) := by decide +kernel
theorem dX2_save_130 : decode cX2_save 130 = .ok (.goto (-71), 3) := by decide +kernel
theorem dX2_save_133 : decode cX2_save 133 = .ok (.return_, 1) := by decide +kernel
theorem dX9_save_0 : decode cX9_save 0 = .ok (.aload_n 2, 1) := by decide +kernel
theorem dX9_save_1 : decode cX9_save 1 = .ok (.invokevirtual 111, 3) := by decide +kernel
theorem dX9_save_4 : decode cX9_save 4 = .ok (.aload_n 2, 1) := by decide +kernel
theorem dX9_save_5 : decode cX9_save 5 = .ok (.aload_n 0, 1) := by decide +kernel
theorem dX9_save_6 : decode cX9_save 6 = .ok (.iload_n 1, 1) := by decide +kernel
theorem dX9_save_7 : decode cX9_save 7 = .ok (.invokevirtual 114, 3) := by decide +kernel
theorem dX9_save_10 : decode cX9_save 10 = .ok (.putfield 84, 3) := by decide +kernel
theorem dX9_save_13 : decode cX9_save 13 = .ok (.aload_n 2, 1) := by decide +kernel
theorem dX9_save_14 : decode cX9_save 14 = .ok (.aload_n 0, 1) := by decide +kernel
theorem dX9_save_15 : decode cX9_save 15 = .ok (.getfield 11, 3) := by decide +kernel
theorem dX9_save_18 : decode cX9_save 18 = .ok (.iload_n 1, 1) := by decide +kernel
theorem dX9_save_19 : decode cX9_save 19 = .ok (.invokevirtual 117, 3) := by decide +kernel
theorem dX9_save_22 : decode cX9_save 22 = .ok (.putfield 90, 3) := by decide +kernel
theorem dX9_save_25 : decode cX9_save 25 = .ok (.aload_n 2, 1) := by decide +kernel
theorem dX9_save_26 : decode cX9_save 26 = .ok (.aload_n 0, 1) := by decide +kernel
theorem dX9_save_27 : decode cX9_save 27 = .ok (.getfield 11, 3) := by decide +kernel
theorem dX9_save_30 : decode cX9_save 30 = .ok (.iload_n 1, 1) := by decide +kernel
theorem dX9_save_31 : decode cX9_save 31 = .ok (.iconst 1, 1) := by decide +kernel
theorem dX9_save_32 : decode cX9_save 32 = .ok (.iadd, 1) := by decide +kernel
theorem dX9_save_33 : decode cX9_save 33 = .ok (.invokevirtual 117, 3) := by decide +kernel
theorem dX9_save_36 : decode cX9_save 36 = .ok (.putfield 93, 3) := by decide +kernel
theorem dX9_save_39 : decode cX9_save 39 = .ok (.aload_n 2, 1) := by decide +kernel
theorem dX9_save_40 : decode cX9_save 40 = .ok (.aload_n 0, 1) := by decide +kernel
theorem dX9_save_41 : decode cX9_save 41 = .ok (.getfield 11, 3) := by decide +kernel
theorem dX9_save_44 : decode cX9_save 44 = .ok (.iload_n 1, 1) := by decide +kernel
theorem dX9_save_45 : decode cX9_save 45 = .ok (.iconst 2, 1) := by decide +kernel
theorem dX9_save_46 : decode cX9_save 46 = .ok (.iadd, 1) := by decide +kernel
theorem dX9_save_47 : decode cX9_save 47 = .ok (.invokevirtual 117, 3) := by decide +kernel
theorem dX9_save_50 : decode cX9_save 50 = .ok (.aload_n 2, 1) := by decide +kernel
theorem dX9_save_51 : decode cX9_save 51 = .ok (.getfield 98, 3) := by decide +kernel
theorem dX9_save_54 : decode cX9_save 54 = .ok (.arraylength, 1) := by decide +kernel
theorem dX9_save_55 : decode cX9_save 55 = .ok (.iconst 4, 1) := by decide +kernel
theorem dX9_save_56 : decode cX9_save 56 = .ok (.idiv, 1) := by decide +kernel
theorem dX9_save_57 : decode cX9_save 57 = .ok (.invokestatic 120, 3) := by decide +kernel
theorem dX9_save_60 : decode cX9_save 60 = .ok (.putfield 96, 3) := by decide +kernel
theorem dX9_save_63 : decode cX9_save 63 = .ok (.iconst 0, 1) := by decide +kernel
theorem dX9_save_64 : decode cX9_save 64 = .ok (.istore_n 3, 1) := by decide +kernel
theorem dX9_save_65 : decode cX9_save 65 = .ok (.iload_n 3, 1) := by decide +kernel
theorem dX9_save_66 : decode cX9_save 66 = .ok (.aload_n 2, 1) := by decide +kernel
theorem dX9_save_67 : decode cX9_save 67 = .ok (.getfield 96, 3) := by decide +kernel
theorem dX9_save_70 : decode cX9_save 70 = .ok (.iconst 4, 1) := by decide +kernel
theorem dX9_save_71 : decode cX9_save 71 = .ok (.imul, 1) := by decide +kernel
theorem dX9_save_72 : decode cX9_save 72 = .ok (.if_icmp .ge 36, 3) := by decide +kernel
theorem dX9_save_108 : decode cX9_save 108 = .ok (.aload_n 0, 1) := by decide +kernel
theorem dX9_save_109 : decode cX9_save 109 = .ok (.getfield 15, 3) := by decide +kernel
theorem dX9_save_112 : decode cX9_save 112 = .ok (.aload_n 0, 1) := by decide +kernel
theorem dX9_save_113 : decode cX9_save 113 = .ok (.iload_n 1, 1) := by decide +kernel
theorem dX9_save_114 : decode cX9_save 114 = .ok (.invokevirtual 46, 3) := by decide +kernel
theorem dX9_save_117 : decode cX9_save 117 = .ok (.aload_n 2, 1) := by decide +kernel
theorem dX9_save_118 : decode cX9_save 118 = .ok (.getfield 101, 3) := by decide +kernel
theorem dX9_save_121 : decode cX9_save 121 = .ok (.invokevirtual 126, 3) := by decide +kernel
theorem dX9_save_124 : decode cX9_save 124 = .ok (.aload_n 0, 1) := by decide +kernel
theorem dX9_save_125 : decode cX9_save 125 = .ok (.getfield 15, 3) := by decide +kernel
theorem dX9_save_128 : decode cX9_save 128 = .ok (.aload_n 0, 1) := by decide +kernel
theorem dX9_save_129 : decode cX9_save 129 = .ok (.getfield 23, 3) := by decide +kernel
theorem dX9_save_132 : decode cX9_save 132 = .ok (.aload_n 0, 1) := by decide +kernel
theorem dX9_save_133 : decode cX9_save 133 = .ok (.iload_n 1, 1) := by decide +kernel
theorem dX9_save_134 : decode cX9_save 134 = .ok (.invokevirtual 46, 3) := by decide +kernel
theorem dX9_save_137 : decode cX9_save 137 = .ok (.invokevirtual 52, 3) := by decide +kernel
theorem dX9_save_140 : decode cX9_save 140 = .ok (.aload_n 2, 1) := by decide +kernel
theorem dX9_save_141 : decode cX9_save 141 = .ok (.getfield 108, 3) := by decide +kernel
theorem dX9_save_144 : decode cX9_save 144 = .ok (.invokevirtual 126, 3) := by decide +kernel
theorem dX9_save_147 : decode cX9_save 147 = .ok (.aload_n 2, 1) := by decide +kernel
theorem dX9_save_148 : decode cX9_save 148 = .ok (.getfield 84, 3) := by decide +kernel
theorem dX9_save_151 : decode cX9_save 151 = .ok (.ireturn, 1) := by decide +kernel
theorem dX11_keep_0 : decode cX11_keep 0 = .ok (.iload_n 1, 1) := by decide +kernel
theorem dX11_keep_1 : decode cX11_keep 1 = .ok (.ifCond .lt 13, 3) := by decide +kernel
theorem dX11_keep_4 : decode cX11_keep 4 = .ok (.aload_n 0, 1) := by decide +kernel
theorem dX11_keep_5 : decode cX11_keep 5 = .ok (.getfield 42, 3) := by decide +kernel
theorem dX11_keep_8 : decode cX11_keep 8 = .ok (.getfield 163, 3) := by decide +kernel
theorem dX11_keep_11 : decode cX11_keep 11 = .ok (.ifCond .eq 8, 3) := by decide +kernel
theorem dX11_keep_19 : decode cX11_keep 19 = .ok (.aload_n 0, 1) := by decide +kernel
theorem dX11_keep_20 : decode cX11_keep 20 = .ok (.getfield 58, 3) := by decide +kernel
theorem dX11_keep_23 : decode cX11_keep 23 = .ok (.iload_n 1, 1) := by decide +kernel
theorem dX11_keep_24 : decode cX11_keep 24 = .ok (.aload_n 2, 1) := by decide +kernel
theorem dX11_keep_25 : decode cX11_keep 25 = .ok (.invokevirtual 173, 3) := by decide +kernel
theorem dX11_keep_28 : decode cX11_keep 28 = .ok (.ireturn, 1) := by decide +kernel
theorem dX11_change_0 : decode cX11_change 0 = .ok (.aload_n 0, 1) := by decide +kernel
theorem dX11_change_1 : decode cX11_change 1 = .ok (.iload_n 2, 1) := by decide +kernel
theorem dX11_change_2 : decode cX11_change 2 = .ok (.invokevirtual 107, 3) := by decide +kernel
theorem dX11_change_5 : decode cX11_change 5 = .ok (.astore 5, 2) := by decide +kernel
theorem dX11_change_7 : decode cX11_change 7 = .ok (.aload_n 0, 1) := by decide +kernel
theorem dX11_change_8 : decode cX11_change 8 = .ok (.iload 4, 2) := by decide +kernel
theorem dX11_change_10 : decode cX11_change 10 = .ok (.invokevirtual 107, 3) := by decide +kernel
theorem dX11_change_13 : decode cX11_change 13 = .ok (.astore 6, 2) := by decide +kernel
theorem dX11_change_15 : decode cX11_change 15 = .ok (.aload 5, 2) := by decide +kernel
theorem dX11_change_17 : decode cX11_change 17 = .ok (.ifnull 8, 3) := by decide +kernel
theorem dX11_change_25 : decode cX11_change 25 = .ok (.iconst (-1), 1) := by decide +kernel
theorem dX11_change_26 : decode cX11_change 26 = .ok (.ireturn, 1) := by decide +kernel
theorem dX11_change_20 : decode cX11_change 20 = .ok (.aload 6, 2) := by decide +kernel
theorem dX11_change_22 : decode cX11_change 22 = .ok (.ifnonnull 5, 3) := by decide +kernel
theorem dX11_change_27 : decode cX11_change 27 = .ok (.aload_n 0, 1) := by decide +kernel
theorem dX11_change_28 : decode cX11_change 28 = .ok (.getfield 42, 3) := by decide +kernel
theorem dX11_change_31 : decode cX11_change 31 = .ok (.invokevirtual 111, 3) := by decide +kernel
theorem dX11_change_34 : decode cX11_change 34 = .ok (.iload_n 1, 1) := by decide +kernel
theorem dX11_change_35 : decode cX11_change 35 = .ok (.bipush 10, 2) := by decide +kernel
theorem dX11_change_37 : decode cX11_change 37 = .ok (.if_icmp .ne 22, 3) := by decide +kernel
theorem dX11_change_59 : decode cX11_change 59 = .ok (.aload 5, 2) := by decide +kernel
theorem dX11_change_61 : decode cX11_change 61 = .ok (.invokestatic 177, 3) := by decide +kernel
theorem dX11_change_64 : decode cX11_change 64 = .ok (.ifCond .ne 6, 3) := by decide +kernel
theorem dX11_change_67 : decode cX11_change 67 = .ok (.bipush (-3), 2) := by decide +kernel
theorem dX11_change_69 : decode cX11_change 69 = .ok (.ireturn, 1) := by decide +kernel
theorem dX11_change_40 : decode cX11_change 40 = .ok (.aload_n 0, 1) := by decide +kernel
theorem dX11_change_41 : decode cX11_change 41 = .ok (.aload_n 0, 1) := by decide +kernel
theorem dX11_change_42 : decode cX11_change 42 = .ok (.getfield 58, 3) := by decide +kernel
theorem dX11_change_45 : decode cX11_change 45 = .ok (.iload_n 3, 1) := by decide +kernel
theorem dX11_change_46 : decode cX11_change 46 = .ok (.i2l, 1) := by decide +kernel
theorem dX11_change_47 : decode cX11_change 47 = .ok (.invokestatic 278, 3) := by decide +kernel
theorem dX11_change_50 : decode cX11_change 50 = .ok (.invokevirtual 151, 3) := by decide +kernel
theorem dX11_change_53 : decode cX11_change 53 = .ok (.aload 6, 2) := by decide +kernel
theorem dX11_change_55 : decode cX11_change 55 = .ok (.invokevirtual 247, 3) := by decide +kernel
theorem dX11_change_58 : decode cX11_change 58 = .ok (.ireturn, 1) := by decide +kernel
def zA1 : Nat → Int32 := zputA (zputA (zclear (fun _ => 0) 2048 99) 2048 1) 2049 1
def zA2 (x : Int32) : Nat → Int32 := zcst (zcst zA1 2147 x) 2150 1
theorem zA2_x (x : Int32) : zget (zA2 x) 2048 = 1 := rfl
theorem zA2_y (x : Int32) : zget (zA2 x) 2049 = 1 := rfl
theorem zA2_m (x : Int32) : zget (zA2 x) 2050 = 0 := rfl
theorem zA2_w (x : Int32) : zwidth (zA2 x) 2147 = 0 := rfl
theorem zA2_h (x : Int32) : zheight (zA2 x) 2147 = 0 := rfl
theorem zA2_w2 (x : Int32) : zwidth (zA2 x) 2150 = 0 := rfl
theorem zA2_h2 (x : Int32) : zheight (zA2 x) 2150 = 0 := rfl
theorem zA2_s (x : Int32) : zspan (zA2 x) 2147 = 3 := rfl

set_option maxHeartbeats 4000000 in
set_option maxRecDepth 100000 in
theorem c_X9_open (l : Launch) (dC : Nat → ClassId) (dI : Nat → Nat → Nat) (aC : Nat → ClassId) (b : Nat) (sz : Nat) : Met l yX9_open w_X9_open ({ frames := 2, cells := 0, slots := 0, locals := 47 }) (zPre (dC, dI) aC [(b + 81, .inr (8, [.ref (b + 73), .ref (b + 75), .ref (b + 76), .ref (b + 80), .ref (b + 82), .ref (b + 83), .int 0, .int 0])), (b + 73, .inr (3, [.ref (b + 74), .int (nI 2048), .int 0])), (b + 74, .inl (aC 0, 131072, .inl (fun _ => 0)))] sz [.ref (b + 81)]) (va_Qi (fun (r : Int32) (u : Unit) => r = 2048) (fun u zt => zB (dC, dI) [(b + 81, .inr (8, [.ref (b + 73), .ref (b + 75), .ref (b + 76), .ref (b + 80), .ref (b + 82), .ref (b + 83), .int 0, .int 0])), (b + 73, .inr (3, [.ref (b + 74), .int (nI 2147), .int 0])), (b + 74, .inl (aC 0, 131072, .inl zA1))] (va_A [(b + 81, .inr (8, [.ref (b + 73), .ref (b + 75), .ref (b + 76), .ref (b + 80), .ref (b + 82), .ref (b + 83), .int 0, .int 0])), (b + 73, .inr (3, [.ref (b + 74), .int (nI 2048), .int 0])), (b + 74, .inl (aC 0, 131072, .inl (fun _ => 0)))] sz) (sz + 0) zt) (va_A [(b + 81, .inr (8, [.ref (b + 73), .ref (b + 75), .ref (b + 76), .ref (b + 80), .ref (b + 82), .ref (b + 83), .int 0, .int 0])), (b + 73, .inr (3, [.ref (b + 74), .int (nI 2048), .int 0])), (b + 74, .inl (aC 0, 131072, .inl (fun _ => 0)))] sz)) 0 0 (va_A [(b + 81, .inr (8, [.ref (b + 73), .ref (b + 75), .ref (b + 76), .ref (b + 80), .ref (b + 82), .ref (b + 83), .int 0, .int 0])), (b + 73, .inr (3, [.ref (b + 74), .int (nI 2048), .int 0])), (b + 74, .inl (aC 0, 131072, .inl (fun _ => 0)))] sz) := by
  refine Met.ofW (cc := cX9_open) (maxL := 2) (ret := (some .int)) (by decide) rfl ?_
  intro p e s m args below meth c s₁ B hml hv
  generalize hQ : MQ below _ _ s _ _ _ = QQ
  obtain ⟨rfl, hsz, hP, hK, hD0⟩ := hv
  have hx := B.exec
  have hb := B.bytes
  have hr := B.returns
  have hts := atoms_spec (ws := w_X9_open) B.pre
  have hall := fun (w : Cond) (h : w ∈ zAll) => hts w (List.mem_cons_of_mem _ h)
  have hown : s.vm.findClass RX9 = some m.cls := findClass_of_methodNamed B.named
  have hlocks := B.notSynchronized
  subst hsz
  have hD := hD0.self (sz := s.heap.size)
  generalize hAe : va_A [(b + 81, .inr (8, [.ref (b + 73), .ref (b + 75), .ref (b + 76), .ref (b + 80), .ref (b + 82), .ref (b + 83), .int 0, .int 0])), (b + 73, .inr (3, [.ref (b + 74), .int (nI 2048), .int 0])), (b + 74, .inl (aC 0, 131072, .inl (fun _ => 0)))] s.heap.size = A at hD ⊢
  have hA : ∀ q : Nat, s.heap.size ≤ q → A q := fun q h => by rw [← hAe]; exact Or.inr h
  have hS : va_S A s.heap s.heap [] := va_S.rf
  have hz0 : s.heap.size = s.heap.size + 0 := rfl
  have hl := lv_entry ([.ref (b + 81)]) (n := 2) (Nat.le_of_ble_eq_true rfl)
  rw [lg_entry_eq]
  generalize (lg_sl ([.ref (b + 81)]) ++ List.replicate (2 - (lg_sl ([.ref (b + 81)])).length) Slot.unset).toArray = ls at hl ⊢
  have hl : lv_has ls 2 [(0, .ref (b + 81))] := hl
  refine lv_aload_n hx hb dX9_open_0 rfl (lv_at hl 0 rfl) ?_
  refine va_get (D := (dC, dI)) (ci := 8) (v := .ref (b + 73)) (C := RX9) (T := TX9) (N := 8) hx hb hall zx_9 hown hK.1 hP 0 rfl rfl 0 (by decide) (hall _ zw_89) (fun _ h9 => h9) rfl dX9_open_1 ?_
  refine lv_bipush (v := 99) hx hb dX9_open_4 (by decide) ?_
  refine zrw_i (f := fun _ => False) (B := fun _ _ => True) (k := 0) (wr := [(b + 81, .inr (8, [.ref (b + 73), .ref (b + 75), .ref (b + 76), .ref (b + 80), .ref (b + 82), .ref (b + 83), .int 0, .int 0]))]) (wc := [(b + 73, .inr (3, [.ref (b + 74), .int (nI 2048), .int 0])), (b + 74, .inl (aC 0, 131072, .inl (fun _ => 0)))]) (w1 := fun _ => [((b + 73), .inr (3, [.ref (b + 74), .int (nI (2048 + 99)), .int 0])), ((b + 74), .inl (aC 0, 131072, .inl (zclear (fun _ => 0) 2048 99)))]) hP hD hS hA [1, 2] [0] rfl rfl (by decide +kernel) (by decide +kernel) (va_runV (As := [.int 99]) (rest := []) ⟨hx, hb, hml, hown, hall⟩ (c_X4_take l dC dI aC (b + 73) (b + 74) 2048 99 0 (fun _ => 0) s.heap.size (by decide)) (cwV 1 hall (zgV zw_96 zw_98 zw_99 zw_788 g_X4_take rfl) rfl rfl rfl (by decide +kernel) ⟨Nat.le_of_ble_eq_true rfl, Nat.le_of_ble_eq_true rfl⟩) (zPre_V (As := [.int 99]) hK hP hD [1, 2] rfl (by decide +kernel) (ci := 3) (q0 := 0) rfl rfl) rfl rfl hl.1 rfl (lv_room (Nat.le_of_ble_eq_true rfl)) dX9_open_6 ⟨Nat.le_of_ble_eq_true rfl, Nat.le_of_ble_eq_true rfl⟩) (fun r20001 u H20002 L20003 hw hz hk hP' hD' hS' => ?_)
  try rw [hz0] at hP'
  try rw [hz0] at hD'
  rw [hz0] at hz
  replace hz0 : H20002.size = s.heap.size + 0 := by omega
  clear hz
  clear hP hD hS hk
  have hP : va_P (dC, dI) vwCl [(b + 81, .inr (8, [.ref (b + 73), .ref (b + 75), .ref (b + 76), .ref (b + 80), .ref (b + 82), .ref (b + 83), .int 0, .int 0])), ((b + 73), .inr (3, [.ref (b + 74), .int (nI (2048 + 99)), .int 0])), ((b + 74), .inl (aC 0, 131072, .inl (zclear (fun _ => 0) 2048 99)))] H20002 := hP'
  have hD : va_D A [(b + 81, .inr (8, [.ref (b + 73), .ref (b + 75), .ref (b + 76), .ref (b + 80), .ref (b + 82), .ref (b + 83), .int 0, .int 0])), ((b + 73), .inr (3, [.ref (b + 74), .int (nI (2048 + 99)), .int 0])), ((b + 74), .inl (aC 0, 131072, .inl (zclear (fun _ => 0) 2048 99)))] := hD'
  have hS : va_S A s.heap H20002 L20003 := hS'
  clear hP' hD' hS'
  obtain rfl : r20001 = 2048 := hw
  try clear hw
  replace hP : va_P (dC, dI) vwCl [(b + 81, .inr (8, [.ref (b + 73), .ref (b + 75), .ref (b + 76), .ref (b + 80), .ref (b + 82), .ref (b + 83), .int 0, .int 0])), (b + 73, .inr (3, [.ref (b + 74), .int (nI 2147), .int 0])), (b + 74, .inl (aC 0, 131072, .inl (zclear (fun _ => 0) 2048 99)))] H20002 := hP
  replace hD : va_D A [(b + 81, .inr (8, [.ref (b + 73), .ref (b + 75), .ref (b + 76), .ref (b + 80), .ref (b + 82), .ref (b + 83), .int 0, .int 0])), (b + 73, .inr (3, [.ref (b + 74), .int (nI 2147), .int 0])), (b + 74, .inl (aC 0, 131072, .inl (zclear (fun _ => 0) 2048 99)))] := hD
  refine lv_istore_n (lv' := [(1, .int 2048), (0, .ref (b + 81))]) hx hb dX9_open_9 rfl hl (by decide) rfl (fun ls20004 hl' => ?_)
  clear hl
  have hl : lv_has ls20004 2 [(1, .int 2048), (0, .ref (b + 81))] := hl'
  clear hl'
  show W p l e _ s m _ below meth c _ _ _ _ QQ (F0 m 10 ls20004 [])
  refine lv_aload_n hx hb dX9_open_10 rfl (lv_at hl 1 rfl) ?_
  refine va_get (D := (dC, dI)) (ci := 8) (v := .ref (b + 73)) (C := RX9) (T := TX9) (N := 8) hx hb hall zx_9 hown hK.1 hP 0 rfl rfl 0 (by decide) (hall _ zw_89) (fun _ h9 => h9) rfl dX9_open_11 ?_
  refine lv_iload_n hx hb dX9_open_14 rfl (lv_at hl 0 rfl) ?_
  refine lv_iconst (v := 1) hx hb dX9_open_15 (by decide) ?_
  refine zrw_v (k := 0) (wr := [(b + 81, .inr (8, [.ref (b + 73), .ref (b + 75), .ref (b + 76), .ref (b + 80), .ref (b + 82), .ref (b + 83), .int 0, .int 0]))]) (wc := [(b + 73, .inr (3, [.ref (b + 74), .int (nI 2147), .int 0])), (b + 74, .inl (aC 0, 131072, .inl (zclear (fun _ => 0) 2048 99)))]) (w1 := fun _ => [((b + 73), .inr (3, [.ref (b + 74), .int (nI 2147), .int 0])), ((b + 74), .inl (aC 0, 131072, .inl (zputA (zclear (fun _ => 0) 2048 99) 2048 1)))]) hP hD hS hA [1, 2] [0] rfl rfl (by decide +kernel) (by decide +kernel) (va_runV (As := [.int 2048, .int 1]) (rest := []) ⟨hx, hb, hml, hown, hall⟩ (c_X4_put l dC dI aC (b + 73) (b + 74) (nI 2147) 0 (zclear (fun _ => 0) 2048 99) 2048 1 H20002.size) (cwV 2 hall (zgV zw_100 zw_102 zw_103 zw_788 g_X4_put rfl) rfl rfl rfl (by decide +kernel) ⟨Nat.le_of_ble_eq_true rfl, Nat.le_of_ble_eq_true rfl⟩) (zPre_V (As := [.int 2048, .int 1]) hK hP hD [1, 2] rfl (by decide +kernel) (ci := 3) (q0 := 0) rfl rfl) rfl rfl hl.1 rfl (lv_room (Nat.le_of_ble_eq_true rfl)) dX9_open_16 ⟨Nat.le_of_ble_eq_true rfl, Nat.le_of_ble_eq_true rfl⟩) (fun u H20006 L20007 hw hz hk hP' hD' hS' => ?_)
  try rw [hz0] at hP'
  try rw [hz0] at hD'
  rw [hz0] at hz
  replace hz0 : H20006.size = s.heap.size + 0 := by omega
  clear hz
  clear hP hD hS hk
  have hP : va_P (dC, dI) vwCl [(b + 81, .inr (8, [.ref (b + 73), .ref (b + 75), .ref (b + 76), .ref (b + 80), .ref (b + 82), .ref (b + 83), .int 0, .int 0])), ((b + 73), .inr (3, [.ref (b + 74), .int (nI 2147), .int 0])), ((b + 74), .inl (aC 0, 131072, .inl (zputA (zclear (fun _ => 0) 2048 99) 2048 1)))] H20006 := hP'
  have hD : va_D A [(b + 81, .inr (8, [.ref (b + 73), .ref (b + 75), .ref (b + 76), .ref (b + 80), .ref (b + 82), .ref (b + 83), .int 0, .int 0])), ((b + 73), .inr (3, [.ref (b + 74), .int (nI 2147), .int 0])), ((b + 74), .inl (aC 0, 131072, .inl (zputA (zclear (fun _ => 0) 2048 99) 2048 1)))] := hD'
  have hS : va_S A s.heap H20006 L20007 := hS'
  clear hP' hD' hS'
  clear L20003 H20002
  show W p l e _ s m _ below meth c _ _ _ _ QQ (F0 m 19 ls20004 [])
  refine lv_aload_n hx hb dX9_open_19 rfl (lv_at hl 1 rfl) ?_
  refine va_get (D := (dC, dI)) (ci := 8) (v := .ref (b + 73)) (C := RX9) (T := TX9) (N := 8) hx hb hall zx_9 hown hK.1 hP 0 rfl rfl 0 (by decide) (hall _ zw_89) (fun _ h9 => h9) rfl dX9_open_20 ?_
  refine lv_iload_n hx hb dX9_open_23 rfl (lv_at hl 0 rfl) ?_
  refine lv_iconst (v := 1) hx hb dX9_open_24 (by decide) ?_
  refine lv_iadd hx hb dX9_open_25 ?_
  refine lv_topi (fun y20008 ey20008 => ?_)
  obtain rfl : y20008 = 2049 := by rw [ey20008]; decide
  try clear ey20008
  show W p l e _ s m _ below meth c _ _ _ _ QQ (F0 m 26 ls20004 [.int 2049, .ref (b + 73)])
  refine lv_iconst (v := 1) hx hb dX9_open_26 (by decide) ?_
  refine zrw_v (k := 0) (wr := [(b + 81, .inr (8, [.ref (b + 73), .ref (b + 75), .ref (b + 76), .ref (b + 80), .ref (b + 82), .ref (b + 83), .int 0, .int 0]))]) (wc := [((b + 73), .inr (3, [.ref (b + 74), .int (nI 2147), .int 0])), ((b + 74), .inl (aC 0, 131072, .inl (zputA (zclear (fun _ => 0) 2048 99) 2048 1)))]) (w1 := fun _ => [((b + 73), .inr (3, [.ref (b + 74), .int (nI 2147), .int 0])), ((b + 74), .inl (aC 0, 131072, .inl (zputA (zputA (zclear (fun _ => 0) 2048 99) 2048 1) 2049 1)))]) hP hD hS hA [1, 2] [0] rfl rfl (by decide +kernel) (by decide +kernel) (va_runV (As := [.int 2049, .int 1]) (rest := []) ⟨hx, hb, hml, hown, hall⟩ (c_X4_put l dC dI aC (b + 73) (b + 74) (nI 2147) 0 (zputA (zclear (fun _ => 0) 2048 99) 2048 1) 2049 1 H20006.size) (cwV 2 hall (zgV zw_100 zw_102 zw_103 zw_788 g_X4_put rfl) rfl rfl rfl (by decide +kernel) ⟨Nat.le_of_ble_eq_true rfl, Nat.le_of_ble_eq_true rfl⟩) (zPre_V (As := [.int 2049, .int 1]) hK hP hD [1, 2] rfl (by decide +kernel) (ci := 3) (q0 := 0) rfl rfl) rfl rfl hl.1 rfl (lv_room (Nat.le_of_ble_eq_true rfl)) dX9_open_27 ⟨Nat.le_of_ble_eq_true rfl, Nat.le_of_ble_eq_true rfl⟩) (fun u H20010 L20011 hw hz hk hP' hD' hS' => ?_)
  try rw [hz0] at hP'
  try rw [hz0] at hD'
  rw [hz0] at hz
  replace hz0 : H20010.size = s.heap.size + 0 := by omega
  clear hz
  clear hP hD hS hk
  have hP : va_P (dC, dI) vwCl [(b + 81, .inr (8, [.ref (b + 73), .ref (b + 75), .ref (b + 76), .ref (b + 80), .ref (b + 82), .ref (b + 83), .int 0, .int 0])), ((b + 73), .inr (3, [.ref (b + 74), .int (nI 2147), .int 0])), ((b + 74), .inl (aC 0, 131072, .inl (zputA (zputA (zclear (fun _ => 0) 2048 99) 2048 1) 2049 1)))] H20010 := hP'
  have hD : va_D A [(b + 81, .inr (8, [.ref (b + 73), .ref (b + 75), .ref (b + 76), .ref (b + 80), .ref (b + 82), .ref (b + 83), .int 0, .int 0])), ((b + 73), .inr (3, [.ref (b + 74), .int (nI 2147), .int 0])), ((b + 74), .inl (aC 0, 131072, .inl (zputA (zputA (zclear (fun _ => 0) 2048 99) 2048 1) 2049 1)))] := hD'
  have hS : va_S A s.heap H20010 L20011 := hS'
  clear hP' hD' hS'
  clear L20007 H20006
  refine lv_iload_n hx hb dX9_open_30 rfl (lv_at hl 0 rfl) ?_
  refine W.widen (k := 0) (n := 0) (Nat.le_of_ble_eq_true rfl) (Nat.le_of_ble_eq_true rfl) ?_
  rw [← hQ, hAe]
  have hP := zsubP (wc := [(b + 81, .inr (8, [.ref (b + 73), .ref (b + 75), .ref (b + 76), .ref (b + 80), .ref (b + 82), .ref (b + 83), .int 0, .int 0])), ((b + 73), .inr (3, [.ref (b + 74), .int (nI 2147), .int 0])), ((b + 74), .inl (aC 0, 131072, .inl (zputA (zputA (zclear (fun _ => 0) 2048 99) 2048 1) 2049 1)))]) hP [0, 1, 2] rfl
  have hD := hD.sub (ws' := [(b + 81, .inr (8, [.ref (b + 73), .ref (b + 75), .ref (b + 76), .ref (b + 80), .ref (b + 82), .ref (b + 83), .int 0, .int 0])), ((b + 73), .inr (3, [.ref (b + 74), .int (nI 2147), .int 0])), ((b + 74), .inl (aC 0, 131072, .inl (zputA (zputA (zclear (fun _ => 0) 2048 99) 2048 1) 2049 1)))]) [0, 1, 2] (by decide) rfl
  exact W.iret (v := 2048) hx hb hr (fun zt ht hW => ⟨⟨2048, (), rfl, rfl, by rw [ht]; exact hP, hD, by rw [ht]; exact hz0⟩, hS.F ht⟩) hS.2.2 dX9_open_31

set_option maxHeartbeats 4000000 in
set_option maxRecDepth 100000 in
theorem c_X9_ofNumber (l : Launch) (dC : Nat → ClassId) (dI : Nat → Nat → Nat) (aC : Nat → ClassId) (b : Nat) (x : Int32) (sz : Nat) : Met l yX9_ofNumber w_X9_ofNumber ({ frames := 3, cells := 0, slots := 0, locals := 68 }) (zPre (dC, dI) aC [(b + 81, .inr (8, [.ref (b + 73), .ref (b + 75), .ref (b + 76), .ref (b + 80), .ref (b + 82), .ref (b + 83), .int 0, .int 0])), (b + 73, .inr (3, [.ref (b + 74), .int (nI 2048), .int 0])), (b + 74, .inl (aC 0, 131072, .inl (fun _ => 0)))] sz [.ref (b + 81), .int x]) (va_Qi (fun (r : Int32) (u : Unit) => r = 2048) (fun u zt => zB (dC, dI) [(b + 81, .inr (8, [.ref (b + 73), .ref (b + 75), .ref (b + 76), .ref (b + 80), .ref (b + 82), .ref (b + 83), .int 0, .int 0])), (b + 73, .inr (3, [.ref (b + 74), .int (nI 2153), .int 0])), (b + 74, .inl (aC 0, 131072, .inl (zA2 x)))] (va_A [(b + 81, .inr (8, [.ref (b + 73), .ref (b + 75), .ref (b + 76), .ref (b + 80), .ref (b + 82), .ref (b + 83), .int 0, .int 0])), (b + 73, .inr (3, [.ref (b + 74), .int (nI 2048), .int 0])), (b + 74, .inl (aC 0, 131072, .inl (fun _ => 0)))] sz) (sz + 0) zt) (va_A [(b + 81, .inr (8, [.ref (b + 73), .ref (b + 75), .ref (b + 76), .ref (b + 80), .ref (b + 82), .ref (b + 83), .int 0, .int 0])), (b + 73, .inr (3, [.ref (b + 74), .int (nI 2048), .int 0])), (b + 74, .inl (aC 0, 131072, .inl (fun _ => 0)))] sz)) 0 0 (va_A [(b + 81, .inr (8, [.ref (b + 73), .ref (b + 75), .ref (b + 76), .ref (b + 80), .ref (b + 82), .ref (b + 83), .int 0, .int 0])), (b + 73, .inr (3, [.ref (b + 74), .int (nI 2048), .int 0])), (b + 74, .inl (aC 0, 131072, .inl (fun _ => 0)))] sz) := by
  refine Met.ofW (cc := cX9_ofNumber) (maxL := 3) (ret := (some .int)) (by decide) rfl ?_
  intro p e s m args below meth c s₁ B hml hv
  generalize hQ : MQ below _ _ s _ _ _ = QQ
  obtain ⟨rfl, hsz, hP, hK, hD0⟩ := hv
  have hx := B.exec
  have hb := B.bytes
  have hr := B.returns
  have hts := atoms_spec (ws := w_X9_ofNumber) B.pre
  have hall := fun (w : Cond) (h : w ∈ zAll) => hts w (List.mem_cons_of_mem _ h)
  have hown : s.vm.findClass RX9 = some m.cls := findClass_of_methodNamed B.named
  have hlocks := B.notSynchronized
  subst hsz
  have hD := hD0.self (sz := s.heap.size)
  generalize hAe : va_A [(b + 81, .inr (8, [.ref (b + 73), .ref (b + 75), .ref (b + 76), .ref (b + 80), .ref (b + 82), .ref (b + 83), .int 0, .int 0])), (b + 73, .inr (3, [.ref (b + 74), .int (nI 2048), .int 0])), (b + 74, .inl (aC 0, 131072, .inl (fun _ => 0)))] s.heap.size = A at hD ⊢
  have hA : ∀ q : Nat, s.heap.size ≤ q → A q := fun q h => by rw [← hAe]; exact Or.inr h
  have hS : va_S A s.heap s.heap [] := va_S.rf
  have hz0 : s.heap.size = s.heap.size + 0 := rfl
  have hl := lv_entry ([.ref (b + 81), .int x]) (n := 3) (Nat.le_of_ble_eq_true rfl)
  rw [lg_entry_eq]
  generalize (lg_sl ([.ref (b + 81), .int x]) ++ List.replicate (3 - (lg_sl ([.ref (b + 81), .int x])).length) Slot.unset).toArray = ls at hl ⊢
  have hl : lv_has ls 3 [(0, .ref (b + 81)), (1, .int x)] := hl
  refine lv_aload_n hx hb dX9_ofNumber_0 rfl (lv_at hl 0 rfl) ?_
  refine zrw_i (f := fun _ => False) (B := fun _ _ => True) (k := 0) (wr := []) (wc := [(b + 81, .inr (8, [.ref (b + 73), .ref (b + 75), .ref (b + 76), .ref (b + 80), .ref (b + 82), .ref (b + 83), .int 0, .int 0])), (b + 73, .inr (3, [.ref (b + 74), .int (nI 2048), .int 0])), (b + 74, .inl (aC 0, 131072, .inl (fun _ => 0)))]) (w1 := fun _ => [(b + 81, .inr (8, [.ref (b + 73), .ref (b + 75), .ref (b + 76), .ref (b + 80), .ref (b + 82), .ref (b + 83), .int 0, .int 0])), (b + 73, .inr (3, [.ref (b + 74), .int (nI 2147), .int 0])), (b + 74, .inl (aC 0, 131072, .inl zA1))]) hP hD hS hA [0, 1, 2] [] rfl rfl (by decide +kernel) (by decide +kernel) (va_runV (As := []) (rest := []) ⟨hx, hb, hml, hown, hall⟩ (c_X9_open l dC dI aC b s.heap.size) (cwV 0 hall (zgV zw_104 zw_106 zw_107 zw_798 g_X9_open rfl) rfl rfl rfl (by decide +kernel) ⟨Nat.le_of_ble_eq_true rfl, Nat.le_of_ble_eq_true rfl⟩) (zPre_V (As := []) hK hP hD [0, 1, 2] rfl (by decide +kernel) (ci := 8) (q0 := 0) rfl rfl) rfl rfl hl.1 rfl (lv_room (Nat.le_of_ble_eq_true rfl)) dX9_ofNumber_1 ⟨Nat.le_of_ble_eq_true rfl, Nat.le_of_ble_eq_true rfl⟩) (fun r20012 u H20013 L20014 hw hz hk hP' hD' hS' => ?_)
  try rw [hz0] at hP'
  try rw [hz0] at hD'
  rw [hz0] at hz
  replace hz0 : H20013.size = s.heap.size + 0 := by omega
  clear hz
  clear hP hD hS hk
  have hP : va_P (dC, dI) vwCl [(b + 81, .inr (8, [.ref (b + 73), .ref (b + 75), .ref (b + 76), .ref (b + 80), .ref (b + 82), .ref (b + 83), .int 0, .int 0])), (b + 73, .inr (3, [.ref (b + 74), .int (nI 2147), .int 0])), (b + 74, .inl (aC 0, 131072, .inl zA1))] H20013 := hP'
  have hD : va_D A [(b + 81, .inr (8, [.ref (b + 73), .ref (b + 75), .ref (b + 76), .ref (b + 80), .ref (b + 82), .ref (b + 83), .int 0, .int 0])), (b + 73, .inr (3, [.ref (b + 74), .int (nI 2147), .int 0])), (b + 74, .inl (aC 0, 131072, .inl zA1))] := hD'
  have hS : va_S A s.heap H20013 L20014 := hS'
  clear hP' hD' hS'
  obtain rfl : r20012 = 2048 := hw
  try clear hw
  refine lv_istore_n (lv' := [(2, .int 2048), (0, .ref (b + 81)), (1, .int x)]) hx hb dX9_ofNumber_4 rfl hl (by decide) rfl (fun ls20015 hl' => ?_)
  clear hl
  have hl : lv_has ls20015 3 [(2, .int 2048), (0, .ref (b + 81)), (1, .int x)] := hl'
  clear hl'
  refine lv_aload_n hx hb dX9_ofNumber_5 rfl (lv_at hl 1 rfl) ?_
  refine va_get (D := (dC, dI)) (ci := 8) (v := .ref (b + 73)) (C := RX9) (T := TX9) (N := 8) hx hb hall zx_9 hown hK.1 hP 0 rfl rfl 0 (by decide) (hall _ zw_89) (fun _ h9 => h9) rfl dX9_ofNumber_6 ?_
  show W p l e _ s m _ below meth c _ _ _ _ QQ (F0 m 9 ls20015 [.ref (b + 73)])
  refine lv_iload_n hx hb dX9_ofNumber_9 rfl (lv_at hl 2 rfl) ?_
  refine zrw_i (f := fun _ => False) (B := fun _ _ => True) (k := 0) (wr := [(b + 81, .inr (8, [.ref (b + 73), .ref (b + 75), .ref (b + 76), .ref (b + 80), .ref (b + 82), .ref (b + 83), .int 0, .int 0]))]) (wc := [(b + 73, .inr (3, [.ref (b + 74), .int (nI 2147), .int 0])), (b + 74, .inl (aC 0, 131072, .inl zA1))]) (w1 := fun _ => [((b + 73), .inr (3, [.ref (b + 74), .int (nI (2147 + 3)), .int 0])), ((b + 74), .inl (aC 0, 131072, .inl (zcst zA1 2147 x)))]) hP hD hS hA [1, 2] [0] rfl rfl (by decide +kernel) (by decide +kernel) (va_runV (As := [.int x]) (rest := []) ⟨hx, hb, hml, hown, hall⟩ (c_X4_constant l dC dI aC (b + 73) (b + 74) 2147 0 zA1 x H20013.size (by decide)) (cwV 1 hall (zgV zw_108 zw_110 zw_111 zw_788 g_X4_constant rfl) rfl rfl rfl (by decide +kernel) ⟨Nat.le_of_ble_eq_true rfl, Nat.le_of_ble_eq_true rfl⟩) (zPre_V (As := [.int x]) hK hP hD [1, 2] rfl (by decide +kernel) (ci := 3) (q0 := 0) rfl rfl) rfl rfl hl.1 rfl (lv_room (Nat.le_of_ble_eq_true rfl)) dX9_ofNumber_10 ⟨Nat.le_of_ble_eq_true rfl, Nat.le_of_ble_eq_true rfl⟩) (fun r20016 u H20017 L20018 hw hz hk hP' hD' hS' => ?_)
  try rw [hz0] at hP'
  try rw [hz0] at hD'
  rw [hz0] at hz
  replace hz0 : H20017.size = s.heap.size + 0 := by omega
  clear hz
  clear hP hD hS hk
  have hP : va_P (dC, dI) vwCl [(b + 81, .inr (8, [.ref (b + 73), .ref (b + 75), .ref (b + 76), .ref (b + 80), .ref (b + 82), .ref (b + 83), .int 0, .int 0])), ((b + 73), .inr (3, [.ref (b + 74), .int (nI (2147 + 3)), .int 0])), ((b + 74), .inl (aC 0, 131072, .inl (zcst zA1 2147 x)))] H20017 := hP'
  have hD : va_D A [(b + 81, .inr (8, [.ref (b + 73), .ref (b + 75), .ref (b + 76), .ref (b + 80), .ref (b + 82), .ref (b + 83), .int 0, .int 0])), ((b + 73), .inr (3, [.ref (b + 74), .int (nI (2147 + 3)), .int 0])), ((b + 74), .inl (aC 0, 131072, .inl (zcst zA1 2147 x)))] := hD'
  have hS : va_S A s.heap H20017 L20018 := hS'
  clear hP' hD' hS'
  clear L20014 H20013
  replace hP : va_P (dC, dI) vwCl [(b + 81, .inr (8, [.ref (b + 73), .ref (b + 75), .ref (b + 76), .ref (b + 80), .ref (b + 82), .ref (b + 83), .int 0, .int 0])), (b + 73, .inr (3, [.ref (b + 74), .int (nI 2150), .int 0])), (b + 74, .inl (aC 0, 131072, .inl (zcst zA1 2147 x)))] H20017 := hP
  replace hD : va_D A [(b + 81, .inr (8, [.ref (b + 73), .ref (b + 75), .ref (b + 76), .ref (b + 80), .ref (b + 82), .ref (b + 83), .int 0, .int 0])), (b + 73, .inr (3, [.ref (b + 74), .int (nI 2150), .int 0])), (b + 74, .inl (aC 0, 131072, .inl (zcst zA1 2147 x)))] := hD
  refine lv_pop hx hb dX9_ofNumber_13 rfl ?_
  refine lv_aload_n hx hb dX9_ofNumber_14 rfl (lv_at hl 1 rfl) ?_
  refine va_get (D := (dC, dI)) (ci := 8) (v := .ref (b + 73)) (C := RX9) (T := TX9) (N := 8) hx hb hall zx_9 hown hK.1 hP 0 rfl rfl 0 (by decide) (hall _ zw_89) (fun _ h9 => h9) rfl dX9_ofNumber_15 ?_
  show W p l e _ s m _ below meth c _ _ _ _ QQ (F0 m 18 ls20015 [.ref (b + 73)])
  refine lv_iconst (v := 1) hx hb dX9_ofNumber_18 (by decide) ?_
  refine zrw_i (f := fun _ => False) (B := fun _ _ => True) (k := 0) (wr := [(b + 81, .inr (8, [.ref (b + 73), .ref (b + 75), .ref (b + 76), .ref (b + 80), .ref (b + 82), .ref (b + 83), .int 0, .int 0]))]) (wc := [(b + 73, .inr (3, [.ref (b + 74), .int (nI 2150), .int 0])), (b + 74, .inl (aC 0, 131072, .inl (zcst zA1 2147 x)))]) (w1 := fun _ => [((b + 73), .inr (3, [.ref (b + 74), .int (nI (2150 + 3)), .int 0])), ((b + 74), .inl (aC 0, 131072, .inl (zcst (zcst zA1 2147 x) 2150 1)))]) hP hD hS hA [1, 2] [0] rfl rfl (by decide +kernel) (by decide +kernel) (va_runV (As := [.int 1]) (rest := []) ⟨hx, hb, hml, hown, hall⟩ (c_X4_constant l dC dI aC (b + 73) (b + 74) 2150 0 (zcst zA1 2147 x) 1 H20017.size (by decide)) (cwV 1 hall (zgV zw_108 zw_110 zw_111 zw_788 g_X4_constant rfl) rfl rfl rfl (by decide +kernel) ⟨Nat.le_of_ble_eq_true rfl, Nat.le_of_ble_eq_true rfl⟩) (zPre_V (As := [.int 1]) hK hP hD [1, 2] rfl (by decide +kernel) (ci := 3) (q0 := 0) rfl rfl) rfl rfl hl.1 rfl (lv_room (Nat.le_of_ble_eq_true rfl)) dX9_ofNumber_19 ⟨Nat.le_of_ble_eq_true rfl, Nat.le_of_ble_eq_true rfl⟩) (fun r20019 u H20020 L20021 hw hz hk hP' hD' hS' => ?_)
  try rw [hz0] at hP'
  try rw [hz0] at hD'
  rw [hz0] at hz
  replace hz0 : H20020.size = s.heap.size + 0 := by omega
  clear hz
  clear hP hD hS hk
  have hP : va_P (dC, dI) vwCl [(b + 81, .inr (8, [.ref (b + 73), .ref (b + 75), .ref (b + 76), .ref (b + 80), .ref (b + 82), .ref (b + 83), .int 0, .int 0])), ((b + 73), .inr (3, [.ref (b + 74), .int (nI (2150 + 3)), .int 0])), ((b + 74), .inl (aC 0, 131072, .inl (zcst (zcst zA1 2147 x) 2150 1)))] H20020 := hP'
  have hD : va_D A [(b + 81, .inr (8, [.ref (b + 73), .ref (b + 75), .ref (b + 76), .ref (b + 80), .ref (b + 82), .ref (b + 83), .int 0, .int 0])), ((b + 73), .inr (3, [.ref (b + 74), .int (nI (2150 + 3)), .int 0])), ((b + 74), .inl (aC 0, 131072, .inl (zcst (zcst zA1 2147 x) 2150 1)))] := hD'
  have hS : va_S A s.heap H20020 L20021 := hS'
  clear hP' hD' hS'
  clear L20018 H20017
  replace hP : va_P (dC, dI) vwCl [(b + 81, .inr (8, [.ref (b + 73), .ref (b + 75), .ref (b + 76), .ref (b + 80), .ref (b + 82), .ref (b + 83), .int 0, .int 0])), (b + 73, .inr (3, [.ref (b + 74), .int (nI 2153), .int 0])), (b + 74, .inl (aC 0, 131072, .inl (zA2 x)))] H20020 := hP
  replace hD : va_D A [(b + 81, .inr (8, [.ref (b + 73), .ref (b + 75), .ref (b + 76), .ref (b + 80), .ref (b + 82), .ref (b + 83), .int 0, .int 0])), (b + 73, .inr (3, [.ref (b + 74), .int (nI 2153), .int 0])), (b + 74, .inl (aC 0, 131072, .inl (zA2 x)))] := hD
  refine lv_pop hx hb dX9_ofNumber_22 rfl ?_
  refine lv_iload_n hx hb dX9_ofNumber_23 rfl (lv_at hl 0 rfl) ?_
  refine W.widen (k := 0) (n := 0) (Nat.le_of_ble_eq_true rfl) (Nat.le_of_ble_eq_true rfl) ?_
  rw [← hQ, hAe]
  have hP := zsubP (wc := [(b + 81, .inr (8, [.ref (b + 73), .ref (b + 75), .ref (b + 76), .ref (b + 80), .ref (b + 82), .ref (b + 83), .int 0, .int 0])), (b + 73, .inr (3, [.ref (b + 74), .int (nI 2153), .int 0])), (b + 74, .inl (aC 0, 131072, .inl (zA2 x)))]) hP [0, 1, 2] rfl
  have hD := hD.sub (ws' := [(b + 81, .inr (8, [.ref (b + 73), .ref (b + 75), .ref (b + 76), .ref (b + 80), .ref (b + 82), .ref (b + 83), .int 0, .int 0])), (b + 73, .inr (3, [.ref (b + 74), .int (nI 2153), .int 0])), (b + 74, .inl (aC 0, 131072, .inl (zA2 x)))]) [0, 1, 2] (by decide) rfl
  exact W.iret (v := 2048) hx hb hr (fun zt ht hW => ⟨⟨2048, (), rfl, rfl, by rw [ht]; exact hP, hD, by rw [ht]; exact hz0⟩, hS.F ht⟩) hS.2.2 dX9_ofNumber_24

set_option maxHeartbeats 4000000 in
set_option maxRecDepth 100000 in
theorem c_X9_kindOf (l : Launch) (dC : Nat → ClassId) (dI : Nat → Nat → Nat) (aC : Nat → ClassId) (b : Nat) (x : Int32) (sz : Nat) : Met l yX9_kindOf w_X9_kindOf ({ frames := 2, cells := 0, slots := 0, locals := 45 }) (zPre (dC, dI) aC [(b + 81, .inr (8, [.ref (b + 73), .ref (b + 75), .ref (b + 76), .ref (b + 80), .ref (b + 82), .ref (b + 83), .int 0, .int 0])), (b + 73, .inr (3, [.ref (b + 74), .int (nI 2153), .int 0])), (b + 74, .inl (aC 0, 131072, .inl (zA2 x)))] sz [.ref (b + 81), .int 2048]) (va_Qi (fun (r : Int32) (_ : Unit) => r = 1) (fun _ zt => zt.heap.size = sz) (zN sz)) 0 0 (zN sz) := by
  refine Met.ofW (cc := cX9_kindOf) (maxL := 2) (ret := (some .int)) (by decide) rfl ?_
  intro p e s m args below meth c s₁ B hml hv
  generalize hQ : MQ below _ _ s _ _ _ = QQ
  obtain ⟨rfl, hsz, hP, hK, hD0⟩ := hv
  have hx := B.exec
  have hb := B.bytes
  have hr := B.returns
  have hts := atoms_spec (ws := w_X9_kindOf) B.pre
  have hall := fun (w : Cond) (h : w ∈ zAll) => hts w (List.mem_cons_of_mem _ h)
  have hown : s.vm.findClass RX9 = some m.cls := findClass_of_methodNamed B.named
  have hlocks := B.notSynchronized
  subst hsz
  have hA : ∀ q : Nat, s.heap.size ≤ q → zN s.heap.size q := fun q h => h
  have hS : va_S (zN s.heap.size) s.heap s.heap [] := va_S.rf
  have hD := hD0
  have hl := lv_entry ([.ref (b + 81), .int 2048]) (n := 2) (Nat.le_of_ble_eq_true rfl)
  rw [lg_entry_eq]
  generalize (lg_sl ([.ref (b + 81), .int 2048]) ++ List.replicate (2 - (lg_sl ([.ref (b + 81), .int 2048])).length) Slot.unset).toArray = ls at hl ⊢
  have hl : lv_has ls 2 [(0, .ref (b + 81)), (1, .int 2048)] := hl
  refine lv_aload_n hx hb dX9_kindOf_0 rfl (lv_at hl 0 rfl) ?_
  refine va_get (D := (dC, dI)) (ci := 8) (v := .ref (b + 73)) (C := RX9) (T := TX9) (N := 8) hx hb hall zx_9 hown hK.1 hP 0 rfl rfl 0 (by decide) (hall _ zw_89) (fun _ h9 => h9) rfl dX9_kindOf_1 ?_
  refine lv_iload_n hx hb dX9_kindOf_4 rfl (lv_at hl 1 rfl) ?_
  refine zro_i hS hA (va_runV (As := [.int 2048]) (rest := []) ⟨hx, hb, hml, hown, hall⟩ (c_X4_get l dC dI aC (b + 73) (b + 74) (nI 2153) 0 (zA2 x) 2048 s.heap.size) (cwV 1 hall (zgV zw_121 zw_42 zw_43 zw_788 g_X4_get rfl) rfl rfl rfl (by decide +kernel) ⟨Nat.le_of_ble_eq_true rfl, Nat.le_of_ble_eq_true rfl⟩) (zPre_V (As := [.int 2048]) hK hP hD [1, 2] rfl (by decide +kernel) (ci := 3) (q0 := 0) rfl rfl) rfl rfl hl.1 rfl (lv_room (Nat.le_of_ble_eq_true rfl)) dX9_kindOf_5 ⟨Nat.le_of_ble_eq_true rfl, Nat.le_of_ble_eq_true rfl⟩) (fun r20022 L20023 hw hS' => ?_)
  clear hS
  have hS := hS'
  clear hS'
  obtain rfl : r20022 = 1 := hw.trans (zA2_x x)
  try clear hw
  refine lv_iconst (v := 1) hx hb dX9_kindOf_8 (by decide) ?_
  refine lv_icmp_ne (tgt := 43) hx hb dX9_kindOf_9 (by decide) (fun c_9_b20024 => absurd (by decide) c_9_b20024) (fun _ => ?_)
  show W p l e _ s m _ below meth c _ _ _ _ QQ (F0 m 12 ls [])
  refine lv_aload_n hx hb dX9_kindOf_12 rfl (lv_at hl 0 rfl) ?_
  refine va_get (D := (dC, dI)) (ci := 8) (v := .ref (b + 73)) (C := RX9) (T := TX9) (N := 8) hx hb hall zx_9 hown hK.1 hP 0 rfl rfl 0 (by decide) (hall _ zw_89) (fun _ h9 => h9) rfl dX9_kindOf_13 ?_
  refine lv_iload_n hx hb dX9_kindOf_16 rfl (lv_at hl 1 rfl) ?_
  refine lv_iconst (v := 1) hx hb dX9_kindOf_17 (by decide) ?_
  refine lv_iadd hx hb dX9_kindOf_18 ?_
  refine lv_topi (fun y20025 ey20025 => ?_)
  obtain rfl : y20025 = 2049 := by rw [ey20025]; decide
  try clear ey20025
  show W p l e _ s m _ below meth c _ _ _ _ QQ (F0 m 19 ls [.int 2049, .ref (b + 73)])
  refine zro_i hS hA (va_runV (As := [.int 2049]) (rest := []) ⟨hx, hb, hml, hown, hall⟩ (c_X4_get l dC dI aC (b + 73) (b + 74) (nI 2153) 0 (zA2 x) 2049 s.heap.size) (cwV 1 hall (zgV zw_121 zw_42 zw_43 zw_788 g_X4_get rfl) rfl rfl rfl (by decide +kernel) ⟨Nat.le_of_ble_eq_true rfl, Nat.le_of_ble_eq_true rfl⟩) (zPre_V (As := [.int 2049]) hK hP hD [1, 2] rfl (by decide +kernel) (ci := 3) (q0 := 0) rfl rfl) rfl rfl hl.1 rfl (lv_room (Nat.le_of_ble_eq_true rfl)) dX9_kindOf_19 ⟨Nat.le_of_ble_eq_true rfl, Nat.le_of_ble_eq_true rfl⟩) (fun r20026 L20027 hw hS' => ?_)
  clear hS
  have hS := hS'
  clear hS'
  obtain rfl : r20026 = 1 := hw.trans (zA2_y x)
  try clear hw
  refine lv_iconst (v := 1) hx hb dX9_kindOf_22 (by decide) ?_
  refine lv_icmp_ne (tgt := 43) hx hb dX9_kindOf_23 (by decide) (fun c_23_b20028 => absurd (by decide) c_23_b20028) (fun _ => ?_)
  refine lv_aload_n hx hb dX9_kindOf_26 rfl (lv_at hl 0 rfl) ?_
  refine va_get (D := (dC, dI)) (ci := 8) (v := .ref (b + 73)) (C := RX9) (T := TX9) (N := 8) hx hb hall zx_9 hown hK.1 hP 0 rfl rfl 0 (by decide) (hall _ zw_89) (fun _ h9 => h9) rfl dX9_kindOf_27 ?_
  show W p l e _ s m _ below meth c _ _ _ _ QQ (F0 m 30 ls [.ref (b + 73)])
  refine lv_iload_n hx hb dX9_kindOf_30 rfl (lv_at hl 1 rfl) ?_
  refine lv_iconst (v := 2) hx hb dX9_kindOf_31 (by decide) ?_
  refine lv_iadd hx hb dX9_kindOf_32 ?_
  refine lv_topi (fun y20029 ey20029 => ?_)
  obtain rfl : y20029 = 2050 := by rw [ey20029]; decide
  try clear ey20029
  refine zro_i hS hA (va_runV (As := [.int 2050]) (rest := []) ⟨hx, hb, hml, hown, hall⟩ (c_X4_get l dC dI aC (b + 73) (b + 74) (nI 2153) 0 (zA2 x) 2050 s.heap.size) (cwV 1 hall (zgV zw_121 zw_42 zw_43 zw_788 g_X4_get rfl) rfl rfl rfl (by decide +kernel) ⟨Nat.le_of_ble_eq_true rfl, Nat.le_of_ble_eq_true rfl⟩) (zPre_V (As := [.int 2050]) hK hP hD [1, 2] rfl (by decide +kernel) (ci := 3) (q0 := 0) rfl rfl) rfl rfl hl.1 rfl (lv_room (Nat.le_of_ble_eq_true rfl)) dX9_kindOf_33 ⟨Nat.le_of_ble_eq_true rfl, Nat.le_of_ble_eq_true rfl⟩) (fun r20030 L20031 hw hS' => ?_)
  clear hS
  have hS := hS'
  clear hS'
  obtain rfl : r20030 = 0 := hw.trans (zA2_m x)
  try clear hw
  refine lv_if_ne (tgt := 43) hx hb dX9_kindOf_36 (by decide) (fun c_36_b20032 => absurd (by decide) c_36_b20032) (fun _ => ?_)
  show W p l e _ s m _ below meth c _ _ _ _ QQ (F0 m 39 ls [])
  refine lv_iconst (v := 1) hx hb dX9_kindOf_39 (by decide) ?_
  refine lv_goto (tgt := 44) hx hb dX9_kindOf_40 (by decide) ?_
  rw [← hQ]
  exact W.iret (v := 1) hx hb hr (fun zt ht hW => ⟨⟨1, (), rfl, rfl, (show zt.heap.size = s.heap.size by rw [ht])⟩, hS.F ht⟩) hS.2.2 dX9_kindOf_44

set_option maxHeartbeats 4000000 in
set_option maxRecDepth 100000 in
theorem c_X3_under (l : Launch) (dC : Nat → ClassId) (dI : Nat → Nat → Nat) (aC : Nat → ClassId) (b : Nat) (x : Int32) (sz : Nat) : Met l yX3_under w_X3_under ({ frames := 2, cells := 0, slots := 0, locals := 45 }) (zPre (dC, dI) aC [(b + 80, .inr (2, [.ref (b + 73), .ref (b + 75), .ref (b + 76)])), (b + 73, .inr (3, [.ref (b + 74), .int (nI 2153), .int 0])), (b + 74, .inl (aC 0, 131072, .inl (zA2 x)))] sz [.ref (b + 80), .int 2147]) (va_Qi (fun (r : Int32) (_ : Unit) => r = 2150) (fun _ zt => zt.heap.size = sz) (zN sz)) 0 0 (zN sz) := by
  refine Met.ofW (cc := cX3_under) (maxL := 2) (ret := (some .int)) (by decide) rfl ?_
  intro p e s m args below meth c s₁ B hml hv
  generalize hQ : MQ below _ _ s _ _ _ = QQ
  obtain ⟨rfl, hsz, hP, hK, hD0⟩ := hv
  have hx := B.exec
  have hb := B.bytes
  have hr := B.returns
  have hts := atoms_spec (ws := w_X3_under) B.pre
  have hall := fun (w : Cond) (h : w ∈ zAll) => hts w (List.mem_cons_of_mem _ h)
  have hown : s.vm.findClass RX3 = some m.cls := findClass_of_methodNamed B.named
  have hlocks := B.notSynchronized
  subst hsz
  have hA : ∀ q : Nat, s.heap.size ≤ q → zN s.heap.size q := fun q h => h
  have hS : va_S (zN s.heap.size) s.heap s.heap [] := va_S.rf
  have hD := hD0
  have hl := lv_entry ([.ref (b + 80), .int 2147]) (n := 2) (Nat.le_of_ble_eq_true rfl)
  rw [lg_entry_eq]
  generalize (lg_sl ([.ref (b + 80), .int 2147]) ++ List.replicate (2 - (lg_sl ([.ref (b + 80), .int 2147])).length) Slot.unset).toArray = ls at hl ⊢
  have hl : lv_has ls 2 [(0, .ref (b + 80)), (1, .int 2147)] := hl
  refine lv_iload_n hx hb dX3_under_0 rfl (lv_at hl 1 rfl) ?_
  refine lv_aload_n hx hb dX3_under_1 rfl (lv_at hl 0 rfl) ?_
  refine va_get (D := (dC, dI)) (ci := 2) (v := .ref (b + 73)) (C := RX3) (T := TX3) (N := 3) hx hb hall zx_3 hown hK.1 hP 0 rfl rfl 0 (by decide) (hall _ zw_45) (fun _ h9 => h9) rfl dX3_under_2 ?_
  refine lv_iload_n hx hb dX3_under_5 rfl (lv_at hl 1 rfl) ?_
  refine zro_i hS hA (va_runV (As := [.int 2147]) (rest := [.int 2147]) ⟨hx, hb, hml, hown, hall⟩ (c_X4_span l dC dI aC (b + 73) (b + 74) (nI 2153) 0 (zA2 x) 2147 s.heap.size) (cwV 1 hall (zgV zw_48 zw_50 zw_51 zw_788 g_X4_span rfl) rfl rfl rfl (by decide +kernel) ⟨Nat.le_of_ble_eq_true rfl, Nat.le_of_ble_eq_true rfl⟩) (zPre_V (As := [.int 2147]) hK hP hD [1, 2] rfl (by decide +kernel) (ci := 3) (q0 := 0) rfl rfl) rfl rfl hl.1 rfl (lv_room (Nat.le_of_ble_eq_true rfl)) dX3_under_6 ⟨Nat.le_of_ble_eq_true rfl, Nat.le_of_ble_eq_true rfl⟩) (fun r20033 L20034 hw hS' => ?_)
  clear hS
  have hS := hS'
  clear hS'
  obtain rfl : r20033 = 3 := hw.trans (zA2_s x)
  try clear hw
  show W p l e _ s m _ below meth c _ _ _ _ QQ (F0 m 9 ls [.int 3, .int 2147])
  refine lv_iadd hx hb dX3_under_9 ?_
  refine lv_topi (fun y20035 ey20035 => ?_)
  obtain rfl : y20035 = 2150 := by rw [ey20035]; decide
  try clear ey20035
  rw [← hQ]
  exact W.iret (v := 2150) hx hb hr (fun zt ht hW => ⟨⟨2150, (), rfl, rfl, (show zt.heap.size = s.heap.size by rw [ht])⟩, hS.F ht⟩) hS.2.2 dX3_under_10

set_option maxHeartbeats 4000000 in
set_option maxRecDepth 100000 in
theorem c_X9_ratioOf (l : Launch) (dC : Nat → ClassId) (dI : Nat → Nat → Nat) (aC : Nat → ClassId) (b : Nat) (sz : Nat) : Met l yX9_ratioOf w_X9_ratioOf ({ frames := 1, cells := 0, slots := 0, locals := 24 }) (zPre (dC, dI) aC [(b + 81, .inr (8, [.ref (b + 73), .ref (b + 75), .ref (b + 76), .ref (b + 80), .ref (b + 82), .ref (b + 83), .int 0, .int 0]))] sz [.ref (b + 81), .int 2048]) (va_Qi (fun (r : Int32) (_ : Unit) => r = 2147) (fun _ zt => zt.heap.size = sz) (zN sz)) 0 0 (zN sz) := by
  refine Met.ofW (cc := cX9_ratioOf) (maxL := 2) (ret := (some .int)) (by decide) rfl ?_
  intro p e s m args below meth c s₁ B hml hv
  generalize hQ : MQ below _ _ s _ _ _ = QQ
  obtain ⟨rfl, hsz, hP, hK, hD0⟩ := hv
  have hx := B.exec
  have hb := B.bytes
  have hr := B.returns
  have hts := atoms_spec (ws := w_X9_ratioOf) B.pre
  have hall := fun (w : Cond) (h : w ∈ zAll) => hts w (List.mem_cons_of_mem _ h)
  have hown : s.vm.findClass RX9 = some m.cls := findClass_of_methodNamed B.named
  have hlocks := B.notSynchronized
  subst hsz
  have hA : ∀ q : Nat, s.heap.size ≤ q → zN s.heap.size q := fun q h => h
  have hS : va_S (zN s.heap.size) s.heap s.heap [] := va_S.rf
  have hD := hD0
  have hl := lv_entry ([.ref (b + 81), .int 2048]) (n := 2) (Nat.le_of_ble_eq_true rfl)
  rw [lg_entry_eq]
  generalize (lg_sl ([.ref (b + 81), .int 2048]) ++ List.replicate (2 - (lg_sl ([.ref (b + 81), .int 2048])).length) Slot.unset).toArray = ls at hl ⊢
  have hl : lv_has ls 2 [(0, .ref (b + 81)), (1, .int 2048)] := hl
  refine lv_iload_n hx hb dX9_ratioOf_0 rfl (lv_at hl 1 rfl) ?_
  refine lv_bipush (v := 99) hx hb dX9_ratioOf_1 (by decide) ?_
  refine lv_iadd hx hb dX9_ratioOf_3 ?_
  refine lv_topi (fun y20036 ey20036 => ?_)
  obtain rfl : y20036 = 2147 := by rw [ey20036]; decide
  try clear ey20036
  rw [← hQ]
  exact W.iret (v := 2147) hx hb hr (fun zt ht hW => ⟨⟨2147, (), rfl, rfl, (show zt.heap.size = s.heap.size by rw [ht])⟩, hS.F ht⟩) hS.2.2 dX9_ratioOf_4

set_option maxHeartbeats 4000000 in
set_option maxRecDepth 100000 in
theorem c_X2_save (l : Launch) (dC : Nat → ClassId) (dI : Nat → Nat → Nat) (aC : Nat → ClassId) (b sd : Nat) (t fl : Int32) (f g : Nat → Int32) (x : Int32) (sz : Nat) (hw0 : zwidth f x = 0) (hh0 : zheight f x = 0) : Met l yX2_save w_X2_save ({ frames := 2, cells := 0, slots := 0, locals := 46 }) (zPre (dC, dI) aC [(b + 75, .inr (1, [.ref (b + 73)])), (b + 73, .inr (3, [.ref (b + 74), .int t, .int fl])), (b + 74, .inl (aC 0, 131072, .inl f)), (sd, .inl (aC 0, 327, .inl g))] sz [.ref (b + 75), .int x, .ref sd]) (va_Qv (fun (u : Unit) => True) (fun u zt => zB (dC, dI) [(b + 75, .inr (1, [.ref (b + 73)])), (b + 73, .inr (3, [.ref (b + 74), .int t, .int fl])), (b + 74, .inl (aC 0, 131072, .inl f))] (va_A [(b + 75, .inr (1, [.ref (b + 73)])), (b + 73, .inr (3, [.ref (b + 74), .int t, .int fl])), (b + 74, .inl (aC 0, 131072, .inl f)), (sd, .inl (aC 0, 327, .inl g))] sz) (sz + 0) zt) (va_A [(b + 75, .inr (1, [.ref (b + 73)])), (b + 73, .inr (3, [.ref (b + 74), .int t, .int fl])), (b + 74, .inl (aC 0, 131072, .inl f)), (sd, .inl (aC 0, 327, .inl g))] sz)) 0 0 (va_A [(b + 75, .inr (1, [.ref (b + 73)])), (b + 73, .inr (3, [.ref (b + 74), .int t, .int fl])), (b + 74, .inl (aC 0, 131072, .inl f)), (sd, .inl (aC 0, 327, .inl g))] sz) := by
  refine Met.ofW (cc := cX2_save) (maxL := 6) (ret := none) (by decide) rfl ?_
  intro p e s m args below meth c s₁ B hml hv
  generalize hQ : MQ below _ _ s _ _ _ = QQ
  obtain ⟨rfl, hsz, hP, hK, hD0⟩ := hv
  have hx := B.exec
  have hb := B.bytes
  have hr := B.returns
  have hts := atoms_spec (ws := w_X2_save) B.pre
  have hall := fun (w : Cond) (h : w ∈ zAll) => hts w (List.mem_cons_of_mem _ h)
  have hown : s.vm.findClass RX2 = some m.cls := findClass_of_methodNamed B.named
  have hlocks := B.notSynchronized
  subst hsz
  have hD := hD0.self (sz := s.heap.size)
  generalize hAe : va_A [(b + 75, .inr (1, [.ref (b + 73)])), (b + 73, .inr (3, [.ref (b + 74), .int t, .int fl])), (b + 74, .inl (aC 0, 131072, .inl f)), (sd, .inl (aC 0, 327, .inl g))] s.heap.size = A at hD ⊢
  have hA : ∀ q : Nat, s.heap.size ≤ q → A q := fun q h => by rw [← hAe]; exact Or.inr h
  have hS : va_S A s.heap s.heap [] := va_S.rf
  have hz0 : s.heap.size = s.heap.size + 0 := rfl
  have hl := lv_entry ([.ref (b + 75), .int x, .ref sd]) (n := 6) (Nat.le_of_ble_eq_true rfl)
  rw [lg_entry_eq]
  generalize (lg_sl ([.ref (b + 75), .int x, .ref sd]) ++ List.replicate (6 - (lg_sl ([.ref (b + 75), .int x, .ref sd])).length) Slot.unset).toArray = ls at hl ⊢
  have hl : lv_has ls 6 [(0, .ref (b + 75)), (1, .int x), (2, .ref sd)] := hl
  refine lv_iconst (v := 0) hx hb dX2_save_0 (by decide) ?_
  refine lv_istore_n (lv' := [(3, .int 0), (0, .ref (b + 75)), (1, .int x), (2, .ref sd)]) hx hb dX2_save_1 rfl hl (by decide) rfl (fun ls20037 hl' => ?_)
  clear hl
  have hl : lv_has ls20037 6 [(3, .int 0), (0, .ref (b + 75)), (1, .int x), (2, .ref sd)] := hl'
  clear hl'
  have key : ∀ (n i : Nat), i ≤ 327 → 327 < i + n → ∀ (H : Heap) (locs : List Loc) (ls : Array Slot), H.size = s.heap.size + 0 → va_P (dC, dI) vwCl [(b + 75, .inr (1, [.ref (b + 73)])), (b + 73, .inr (3, [.ref (b + 74), .int t, .int fl])), (b + 74, .inl (aC 0, 131072, .inl f)), (sd, .inl (aC 0, 327, .inl (zclear g 0 i)))] H → va_D A [(b + 75, .inr (1, [.ref (b + 73)])), (b + 73, .inr (3, [.ref (b + 74), .int t, .int fl])), (b + 74, .inl (aC 0, 131072, .inl f)), (sd, .inl (aC 0, 327, .inl (zclear g 0 i)))] → va_S A s.heap H locs → lv_has ls 6 [(3, .int (nI i)), (0, .ref (b + 75)), (1, .int x), (2, .ref sd)] → W p l e (headSpec w_X2_save ({ frames := 2, cells := 0, slots := 0, locals := 46 })).room s m ([.ref (b + 75), .int x, .ref sd] : List Value).toArray below meth c H locs 0 0 QQ (F0 m 2 ls []) := by
    intro n
    induction n with
    | zero => exact fun i h1 h2 => absurd h2 (by omega)
    | succ n ih =>
      intro i hi hfu H locs ls hz0 hP hD hS hl
      rcases Nat.lt_or_ge i 327 with hlt | hge
      · refine lv_iload_n hx hb dX2_save_2 rfl (lv_at hl 0 rfl) ?_
        refine lv_aload_n hx hb dX2_save_3 rfl (lv_at hl 3 rfl) ?_
        refine va_alen (v := 327) hx hb hK.1 hP 3 0 rfl rfl rfl dX2_save_4 ?_
        refine lv_icmp_ge (tgt := 18) hx hb dX2_save_5 (by decide) (fun c_5_b20038 => absurd c_5_b20038 (nI_ge hlt (by decide))) (fun _ => ?_)
        show W p l e _ s m _ below meth c _ _ _ _ QQ (F0 m 8 ls [])
        refine lv_aload_n hx hb dX2_save_8 rfl (lv_at hl 3 rfl) ?_
        refine lv_iload_n hx hb dX2_save_9 rfl (lv_at hl 0 rfl) ?_
        refine lv_iconst (v := 0) hx hb dX2_save_10 (by decide) ?_
        refine ziast hx hb hK.1 hP hD hS 3 0 rfl rfl (vp_in_nI hlt (by decide)) dX2_save_11 (fun H20039 L20040 hB hP' hD' hS' => ?_)
        replace hz0 : H20039.size = s.heap.size + 0 := hB.1.trans hz0
        clear hP hD hS hB
        have hP : va_P (dC, dI) vwCl [(b + 75, .inr (1, [.ref (b + 73)])), (b + 73, .inr (3, [.ref (b + 74), .int t, .int fl])), (b + 74, .inl (aC 0, 131072, .inl f)), (sd, .inl (aC 0, 327, .inl (upd (zclear g 0 i) (nI i).toNatClampNeg 0)))] H20039 := hP'
        have hD : va_D A [(b + 75, .inr (1, [.ref (b + 73)])), (b + 73, .inr (3, [.ref (b + 74), .int t, .int fl])), (b + 74, .inl (aC 0, 131072, .inl f)), (sd, .inl (aC 0, 327, .inl (upd (zclear g 0 i) (nI i).toNatClampNeg 0)))] := hD'
        have hS : va_S A s.heap H20039 L20040 := hS'
        clear hP' hD' hS'
        rw [nI_clamp (show i < 2 ^ 31 by omega)] at hP hD
        replace hP : va_P (dC, dI) vwCl [(b + 75, .inr (1, [.ref (b + 73)])), (b + 73, .inr (3, [.ref (b + 74), .int t, .int fl])), (b + 74, .inl (aC 0, 131072, .inl f)), (sd, .inl (aC 0, 327, .inl (upd (zclear g 0 i) i 0)))] H20039 := hP
        replace hD : va_D A [(b + 75, .inr (1, [.ref (b + 73)])), (b + 73, .inr (3, [.ref (b + 74), .int t, .int fl])), (b + 74, .inl (aC 0, 131072, .inl f)), (sd, .inl (aC 0, 327, .inl (upd (zclear g 0 i) i 0)))] := hD
        rw [show upd (zclear g 0 i) i 0 = zclear g 0 (i + 1) from (by have := zclear_1 g 0 i; rwa [Nat.zero_add] at this)] at hP hD
        replace hP : va_P (dC, dI) vwCl [(b + 75, .inr (1, [.ref (b + 73)])), (b + 73, .inr (3, [.ref (b + 74), .int t, .int fl])), (b + 74, .inl (aC 0, 131072, .inl f)), (sd, .inl (aC 0, 327, .inl (zclear g 0 (i + 1))))] H20039 := hP
        replace hD : va_D A [(b + 75, .inr (1, [.ref (b + 73)])), (b + 73, .inr (3, [.ref (b + 74), .int t, .int fl])), (b + 74, .inl (aC 0, 131072, .inl f)), (sd, .inl (aC 0, 327, .inl (zclear g 0 (i + 1))))] := hD
        obtain ⟨y20041, ey20041⟩ : ∃ z : Int32, z = (nI i) + 1 := ⟨_, rfl⟩
        refine lv_iinc (v := y20041) (lv' := [(3, .int y20041), (0, .ref (b + 75)), (1, .int x), (2, .ref sd)]) hx hb dX2_save_12 hl (k := 0) rfl (by rw [ey20041]; rfl) (by decide) rfl (fun ls20042 hl' => ?_)
        clear hl
        have hl : lv_has ls20042 6 [(3, .int y20041), (0, .ref (b + 75)), (1, .int x), (2, .ref sd)] := hl'
        clear hl'
        refine lv_goto (tgt := 2) hx hb dX2_save_15 (by decide) ?_
        have ey : y20041 = nI (i + 1) := by rw [ey20041]; exact nI_1 i
        rw [ey] at hl
        exact ih (i + 1) hlt (by omega) H20039 L20040 ls20042 hz0 hP hD hS (lv_sub hl [0, 1, 2, 3] rfl)
      · have ei : i = 327 := by omega
        try rw [ei] at hP
        try rw [ei] at hD
        try rw [ei] at hl
        refine lv_iload_n hx hb dX2_save_2 rfl (lv_at hl 0 rfl) ?_
        refine lv_aload_n hx hb dX2_save_3 rfl (lv_at hl 3 rfl) ?_
        refine va_alen (v := 327) hx hb hK.1 hP 3 0 rfl rfl rfl dX2_save_4 ?_
        refine lv_icmp_ge (tgt := 18) hx hb dX2_save_5 (by decide) (fun _ => ?_) (fun c_5_b20043 => absurd (Int32.le_refl _) c_5_b20043)
        show W p l e _ s m _ below meth c _ _ _ _ QQ (F0 m 18 ls [])
        refine lv_aload_n hx hb dX2_save_18 rfl (lv_at hl 3 rfl) ?_
        refine va_alen (v := 327) hx hb hK.1 hP 3 0 rfl rfl rfl dX2_save_19 ?_
        refine lv_iconst (v := 2) hx hb dX2_save_20 (by decide) ?_
        refine lv_icmp_ge (tgt := 25) hx hb dX2_save_21 (by decide) (fun _ => ?_) (fun c_21_b20044 => absurd (by decide) c_21_b20044)
        refine lv_aload_n hx hb dX2_save_25 rfl (lv_at hl 3 rfl) ?_
        show W p l e _ s m _ below meth c _ _ _ _ QQ (F0 m 26 ls [.ref sd])
        refine lv_iconst (v := 0) hx hb dX2_save_26 (by decide) ?_
        refine lv_aload_n hx hb dX2_save_27 rfl (lv_at hl 1 rfl) ?_
        refine va_get (D := (dC, dI)) (ci := 1) (v := .ref (b + 73)) (C := RX2) (T := TX2) (N := 1) hx hb hall zx_2 hown hK.1 hP 0 rfl rfl 0 (by decide) (hall _ zw_24) (fun _ h9 => h9) rfl dX2_save_28 ?_
        refine lv_iload_n hx hb dX2_save_31 rfl (lv_at hl 2 rfl) ?_
        refine zro_i hS hA (va_runV (As := [.int x]) (rest := [.int 0, .ref sd]) ⟨hx, hb, hml, hown, hall⟩ (c_X4_width l dC dI aC (b + 73) (b + 74) t fl f x H.size) (cwV 1 hall (zgV zw_25 zw_27 zw_28 zw_788 g_X4_width rfl) rfl rfl rfl (by decide +kernel) ⟨Nat.le_of_ble_eq_true rfl, Nat.le_of_ble_eq_true rfl⟩) (zPre_V (As := [.int x]) hK hP hD [1, 2] rfl (by decide +kernel) (ci := 3) (q0 := 0) rfl rfl) rfl rfl hl.1 rfl (lv_room (Nat.le_of_ble_eq_true rfl)) dX2_save_32 ⟨Nat.le_of_ble_eq_true rfl, Nat.le_of_ble_eq_true rfl⟩) (fun r20045 L20046 hw hS' => ?_)
        clear hS
        have hS := hS'
        clear hS'
        obtain rfl : r20045 = 0 := hw.trans hw0
        try clear hw
        show W p l e _ s m _ below meth c _ _ _ _ QQ (F0 m 35 ls [.int 0, .int 0, .ref sd])
        refine lv_bipush (v := 24) hx hb dX2_save_35 (by decide) ?_
        refine va_mmin hx hb (hml.trans hl.1.symm) hown (hall _ zw_29) (hall _ zw_30) (hall _ zw_813) (hall _ zw_31) (Nat.le_of_ble_eq_true rfl) (Nat.le_of_ble_eq_true rfl) (Nat.le_of_ble_eq_true rfl) (Nat.le_of_ble_eq_true rfl) dX2_save_37 ?_
        refine lv_topi (fun y20047 ey20047 => ?_)
        obtain rfl : y20047 = 0 := by rw [ey20047]; decide
        try clear ey20047
        refine ziast hx hb hK.1 hP hD hS 3 0 rfl rfl (zvp (by decide)) dX2_save_40 (fun H20048 L20049 hB hP' hD' hS' => ?_)
        replace hz0 : H20048.size = s.heap.size + 0 := hB.1.trans hz0
        clear hP hD hS hB
        have hP : va_P (dC, dI) vwCl [(b + 75, .inr (1, [.ref (b + 73)])), (b + 73, .inr (3, [.ref (b + 74), .int t, .int fl])), (b + 74, .inl (aC 0, 131072, .inl f)), (sd, .inl (aC 0, 327, .inl (upd (zclear g 0 327) (0 : Int32).toNatClampNeg 0)))] H20048 := hP'
        have hD : va_D A [(b + 75, .inr (1, [.ref (b + 73)])), (b + 73, .inr (3, [.ref (b + 74), .int t, .int fl])), (b + 74, .inl (aC 0, 131072, .inl f)), (sd, .inl (aC 0, 327, .inl (upd (zclear g 0 327) (0 : Int32).toNatClampNeg 0)))] := hD'
        have hS : va_S A s.heap H20048 L20049 := hS'
        clear hP' hD' hS'
        refine lv_aload_n hx hb dX2_save_41 rfl (lv_at hl 3 rfl) ?_
        refine lv_iconst (v := 1) hx hb dX2_save_42 (by decide) ?_
        show W p l e _ s m _ below meth c _ _ _ _ QQ (F0 m 43 ls [.int 1, .ref sd])
        refine lv_aload_n hx hb dX2_save_43 rfl (lv_at hl 1 rfl) ?_
        refine va_get (D := (dC, dI)) (ci := 1) (v := .ref (b + 73)) (C := RX2) (T := TX2) (N := 1) hx hb hall zx_2 hown hK.1 hP 0 rfl rfl 0 (by decide) (hall _ zw_24) (fun _ h9 => h9) rfl dX2_save_44 ?_
        refine lv_iload_n hx hb dX2_save_47 rfl (lv_at hl 2 rfl) ?_
        refine zro_i hS hA (va_runV (As := [.int x]) (rest := [.int 1, .ref sd]) ⟨hx, hb, hml, hown, hall⟩ (c_X4_height l dC dI aC (b + 73) (b + 74) t fl f x H20048.size) (cwV 1 hall (zgV zw_32 zw_34 zw_35 zw_788 g_X4_height rfl) rfl rfl rfl (by decide +kernel) ⟨Nat.le_of_ble_eq_true rfl, Nat.le_of_ble_eq_true rfl⟩) (zPre_V (As := [.int x]) hK hP hD [1, 2] rfl (by decide +kernel) (ci := 3) (q0 := 0) rfl rfl) rfl rfl hl.1 rfl (lv_room (Nat.le_of_ble_eq_true rfl)) dX2_save_48 ⟨Nat.le_of_ble_eq_true rfl, Nat.le_of_ble_eq_true rfl⟩) (fun r20050 L20051 hw hS' => ?_)
        clear hS
        have hS := hS'
        clear hS'
        obtain rfl : r20050 = 0 := hw.trans hh0
        try clear hw
        refine lv_bipush (v := 12) hx hb dX2_save_51 (by decide) ?_
        show W p l e _ s m _ below meth c _ _ _ _ QQ (F0 m 53 ls [.int 12, .int 0, .int 1, .ref sd])
        refine va_mmin hx hb (hml.trans hl.1.symm) hown (hall _ zw_29) (hall _ zw_30) (hall _ zw_813) (hall _ zw_31) (Nat.le_of_ble_eq_true rfl) (Nat.le_of_ble_eq_true rfl) (Nat.le_of_ble_eq_true rfl) (Nat.le_of_ble_eq_true rfl) dX2_save_53 ?_
        refine lv_topi (fun y20052 ey20052 => ?_)
        obtain rfl : y20052 = 0 := by rw [ey20052]; decide
        try clear ey20052
        refine ziast hx hb hK.1 hP hD hS 3 0 rfl rfl (zvp (by decide)) dX2_save_56 (fun H20053 L20054 hB hP' hD' hS' => ?_)
        replace hz0 : H20053.size = s.heap.size + 0 := hB.1.trans hz0
        clear hP hD hS hB
        have hP : va_P (dC, dI) vwCl [(b + 75, .inr (1, [.ref (b + 73)])), (b + 73, .inr (3, [.ref (b + 74), .int t, .int fl])), (b + 74, .inl (aC 0, 131072, .inl f)), (sd, .inl (aC 0, 327, .inl (upd (upd (zclear g 0 327) (0 : Int32).toNatClampNeg 0) (1 : Int32).toNatClampNeg 0)))] H20053 := hP'
        have hD : va_D A [(b + 75, .inr (1, [.ref (b + 73)])), (b + 73, .inr (3, [.ref (b + 74), .int t, .int fl])), (b + 74, .inl (aC 0, 131072, .inl f)), (sd, .inl (aC 0, 327, .inl (upd (upd (zclear g 0 327) (0 : Int32).toNatClampNeg 0) (1 : Int32).toNatClampNeg 0)))] := hD'
        have hS : va_S A s.heap H20053 L20054 := hS'
        clear hP' hD' hS'
        clear L20051 H20048
        obtain ⟨g1, eg1⟩ : ∃ g1 : Nat → Int32, g1 = upd (upd (zclear g 0 327) (0 : Int32).toNatClampNeg 0) (1 : Int32).toNatClampNeg 0 := ⟨_, rfl⟩
        rw [← eg1] at hP hD
        have h10 : g1 (0 : Int32).toNatClampNeg = 0 := by rw [eg1]; rfl
        have h11 : g1 (1 : Int32).toNatClampNeg = 0 := by rw [eg1]; rfl
        clear eg1
        replace hP : va_P (dC, dI) vwCl [(b + 75, .inr (1, [.ref (b + 73)])), (b + 73, .inr (3, [.ref (b + 74), .int t, .int fl])), (b + 74, .inl (aC 0, 131072, .inl f)), (sd, .inl (aC 0, 327, .inl g1))] H20053 := hP
        replace hD : va_D A [(b + 75, .inr (1, [.ref (b + 73)])), (b + 73, .inr (3, [.ref (b + 74), .int t, .int fl])), (b + 74, .inl (aC 0, 131072, .inl f)), (sd, .inl (aC 0, 327, .inl g1))] := hD
        refine lv_iconst (v := 0) hx hb dX2_save_57 (by decide) ?_
        refine lv_istore_n (lv' := [(3, .int 0), (0, .ref (b + 75)), (1, .int x), (2, .ref sd)]) hx hb dX2_save_58 rfl hl (by decide) rfl (fun ls20055 hl' => ?_)
        clear hl
        have hl : lv_has ls20055 6 [(3, .int 0), (0, .ref (b + 75)), (1, .int x), (2, .ref sd)] := hl'
        clear hl'
        refine lv_iload_n hx hb dX2_save_59 rfl (lv_at hl 0 rfl) ?_
        show W p l e _ s m _ below meth c _ _ _ _ QQ (F0 m 60 ls20055 [.int 0])
        refine lv_aload_n hx hb dX2_save_60 rfl (lv_at hl 3 rfl) ?_
        refine lv_iconst (v := 1) hx hb dX2_save_61 (by decide) ?_
        refine va_iald hx hb hK.1 hP 3 0 rfl rfl (zvp (by decide)) dX2_save_62 ?_
        refine lv_topi (fun y20056 ey20056 => ?_)
        obtain rfl : y20056 = 0 := ey20056.trans h11
        try clear ey20056
        refine lv_icmp_gt (tgt := 133) hx hb dX2_save_63 (by decide) (fun c_63_b20057 => absurd c_63_b20057 (by decide)) (fun _ => ?_)
        refine lv_iconst (v := 2) hx hb dX2_save_66 (by decide) ?_
        show W p l e _ s m _ below meth c _ _ _ _ QQ (F0 m 67 ls20055 [.int 2])
        refine lv_iload_n hx hb dX2_save_67 rfl (lv_at hl 0 rfl) ?_
        refine lv_bipush (v := 25) hx hb dX2_save_68 (by decide) ?_
        refine lv_imul hx hb dX2_save_70 ?_
        refine lv_topi (fun y20058 ey20058 => ?_)
        obtain rfl : y20058 = 0 := by rw [ey20058]; decide
        try clear ey20058
        refine lv_iadd hx hb dX2_save_71 ?_
        refine lv_topi (fun y20059 ey20059 => ?_)
        obtain rfl : y20059 = 2 := by rw [ey20059]; decide
        try clear ey20059
        refine lv_istore (lv' := [(4, .int 2), (3, .int 0), (0, .ref (b + 75)), (1, .int x), (2, .ref sd)]) hx hb dX2_save_72 hl (by decide) rfl (fun ls20060 hl' => ?_)
        clear hl
        have hl : lv_has ls20060 6 [(4, .int 2), (3, .int 0), (0, .ref (b + 75)), (1, .int x), (2, .ref sd)] := hl'
        clear hl'
        show W p l e _ s m _ below meth c _ _ _ _ QQ (F0 m 74 ls20060 [])
        refine lv_iconst (v := 0) hx hb dX2_save_74 (by decide) ?_
        refine lv_istore (lv' := [(5, .int 0), (4, .int 2), (3, .int 0), (0, .ref (b + 75)), (1, .int x), (2, .ref sd)]) hx hb dX2_save_75 hl (by decide) rfl (fun ls20061 hl' => ?_)
        clear hl
        have hl : lv_has ls20061 6 [(5, .int 0), (4, .int 2), (3, .int 0), (0, .ref (b + 75)), (1, .int x), (2, .ref sd)] := hl'
        clear hl'
        refine lv_iload hx hb dX2_save_77 (lv_at hl 0 rfl) ?_
        refine lv_aload_n hx hb dX2_save_79 rfl (lv_at hl 5 rfl) ?_
        refine lv_iconst (v := 0) hx hb dX2_save_80 (by decide) ?_
        show W p l e _ s m _ below meth c _ _ _ _ QQ (F0 m 81 ls20061 [.int 0, .ref sd, .int 0])
        refine va_iald hx hb hK.1 hP 3 0 rfl rfl (zvp (by decide)) dX2_save_81 ?_
        refine lv_topi (fun y20062 ey20062 => ?_)
        obtain rfl : y20062 = 0 := ey20062.trans h10
        try clear ey20062
        refine lv_icmp_gt (tgt := 127) hx hb dX2_save_82 (by decide) (fun c_82_b20063 => absurd c_82_b20063 (by decide)) (fun _ => ?_)
        refine lv_iload hx hb dX2_save_85 (lv_at hl 1 rfl) ?_
        refine lv_iload hx hb dX2_save_87 (lv_at hl 0 rfl) ?_
        refine lv_iadd hx hb dX2_save_89 ?_
        refine lv_topi (fun y20064 ey20064 => ?_)
        obtain rfl : y20064 = 2 := by rw [ey20064]; decide
        try clear ey20064
        show W p l e _ s m _ below meth c _ _ _ _ QQ (F0 m 90 ls20061 [.int 2])
        refine lv_aload_n hx hb dX2_save_90 rfl (lv_at hl 5 rfl) ?_
        refine va_alen (v := 327) hx hb hK.1 hP 3 0 rfl rfl rfl dX2_save_91 ?_
        refine lv_icmp_ge (tgt := 127) hx hb dX2_save_92 (by decide) (fun c_92_b20065 => absurd c_92_b20065 (by decide)) (fun _ => ?_)
        refine lv_aload_n hx hb dX2_save_95 rfl (lv_at hl 5 rfl) ?_
        refine lv_iload hx hb dX2_save_96 (lv_at hl 1 rfl) ?_
        show W p l e _ s m _ below meth c _ _ _ _ QQ (F0 m 98 ls20061 [.int 2, .ref sd])
        refine lv_iload hx hb dX2_save_98 (lv_at hl 0 rfl) ?_
        refine lv_iadd hx hb dX2_save_100 ?_
        refine lv_topi (fun y20066 ey20066 => ?_)
        obtain rfl : y20066 = 2 := by rw [ey20066]; decide
        try clear ey20066
        refine lv_aload_n hx hb dX2_save_101 rfl (lv_at hl 3 rfl) ?_
        refine va_get (D := (dC, dI)) (ci := 1) (v := .ref (b + 73)) (C := RX2) (T := TX2) (N := 1) hx hb hall zx_2 hown hK.1 hP 0 rfl rfl 0 (by decide) (hall _ zw_24) (fun _ h9 => h9) rfl dX2_save_102 ?_
        refine lv_aload_n hx hb dX2_save_105 rfl (lv_at hl 3 rfl) ?_
        show W p l e _ s m _ below meth c _ _ _ _ QQ (F0 m 106 ls20061 [.ref (b + 75), .ref (b + 73), .int 2, .ref sd])
        refine va_get (D := (dC, dI)) (ci := 1) (v := .ref (b + 73)) (C := RX2) (T := TX2) (N := 1) hx hb hall zx_2 hown hK.1 hP 0 rfl rfl 0 (by decide) (hall _ zw_24) (fun _ h9 => h9) rfl dX2_save_106 ?_
        refine lv_iload_n hx hb dX2_save_109 rfl (lv_at hl 4 rfl) ?_
        refine lv_iload_n hx hb dX2_save_110 rfl (lv_at hl 2 rfl) ?_
        refine zro_i hS hA (va_runV (As := [.int x, .int 0]) (rest := [.ref (b + 73), .int 2, .ref sd]) ⟨hx, hb, hml, hown, hall⟩ (c_X4_rowOf l dC dI aC (b + 73) (b + 74) t fl f x 0 H20053.size) (cwV 2 hall (zgV zw_36 zw_38 zw_39 zw_788 g_X4_rowOf rfl) rfl rfl rfl (by decide +kernel) ⟨Nat.le_of_ble_eq_true rfl, Nat.le_of_ble_eq_true rfl⟩) (zPre_V (As := [.int x, .int 0]) hK hP hD [1, 2] rfl (by decide +kernel) (ci := 3) (q0 := 0) rfl rfl) rfl rfl hl.1 rfl (lv_room (Nat.le_of_ble_eq_true rfl)) dX2_save_111 ⟨Nat.le_of_ble_eq_true rfl, Nat.le_of_ble_eq_true rfl⟩) (fun r20067 L20068 hw hS' => ?_)
        clear hS
        have hS := hS'
        clear hS'
        clear hw
        refine lv_iload hx hb dX2_save_114 (lv_at hl 0 rfl) ?_
        show W p l e _ s m _ below meth c _ _ _ _ QQ (F0 m 116 ls20061 [.int 0, .int r20067, .ref (b + 73), .int 2, .ref sd])
        refine lv_iadd hx hb dX2_save_116 ?_
        refine zro_i hS hA (va_runV (As := [.int (r20067 + 0)]) (rest := [.int 2, .ref sd]) ⟨hx, hb, hml, hown, hall⟩ (c_X4_get l dC dI aC (b + 73) (b + 74) t fl f (r20067 + 0) H20053.size) (cwV 1 hall (zgV zw_40 zw_42 zw_43 zw_788 g_X4_get rfl) rfl rfl rfl (by decide +kernel) ⟨Nat.le_of_ble_eq_true rfl, Nat.le_of_ble_eq_true rfl⟩) (zPre_V (As := [.int (r20067 + 0)]) hK hP hD [1, 2] rfl (by decide +kernel) (ci := 3) (q0 := 0) rfl rfl) rfl rfl hl.1 rfl (lv_room (Nat.le_of_ble_eq_true rfl)) dX2_save_117 ⟨Nat.le_of_ble_eq_true rfl, Nat.le_of_ble_eq_true rfl⟩) (fun r20069 L20070 hw hS' => ?_)
        clear hS
        have hS := hS'
        clear hS'
        clear hw
        refine ziast hx hb hK.1 hP hD hS 3 0 rfl rfl (zvp (by decide)) dX2_save_120 (fun H20071 L20072 hB hP' hD' hS' => ?_)
        replace hz0 : H20071.size = s.heap.size + 0 := hB.1.trans hz0
        clear hP hD hS hB
        have hP : va_P (dC, dI) vwCl [(b + 75, .inr (1, [.ref (b + 73)])), (b + 73, .inr (3, [.ref (b + 74), .int t, .int fl])), (b + 74, .inl (aC 0, 131072, .inl f)), (sd, .inl (aC 0, 327, .inl (upd g1 (2 : Int32).toNatClampNeg r20069)))] H20071 := hP'
        have hD : va_D A [(b + 75, .inr (1, [.ref (b + 73)])), (b + 73, .inr (3, [.ref (b + 74), .int t, .int fl])), (b + 74, .inl (aC 0, 131072, .inl f)), (sd, .inl (aC 0, 327, .inl (upd g1 (2 : Int32).toNatClampNeg r20069)))] := hD'
        have hS : va_S A s.heap H20071 L20072 := hS'
        clear hP' hD' hS'
        clear L20070 H20053
        obtain ⟨g2, eg2⟩ : ∃ g2 : Nat → Int32, g2 = upd g1 (2 : Int32).toNatClampNeg r20069 := ⟨_, rfl⟩
        rw [← eg2] at hP hD
        have h20 : g2 (0 : Int32).toNatClampNeg = 0 := by rw [eg2]; exact h10
        have h21 : g2 (1 : Int32).toNatClampNeg = 0 := by rw [eg2]; exact h11
        clear eg2
        replace hP : va_P (dC, dI) vwCl [(b + 75, .inr (1, [.ref (b + 73)])), (b + 73, .inr (3, [.ref (b + 74), .int t, .int fl])), (b + 74, .inl (aC 0, 131072, .inl f)), (sd, .inl (aC 0, 327, .inl g2))] H20071 := hP
        replace hD : va_D A [(b + 75, .inr (1, [.ref (b + 73)])), (b + 73, .inr (3, [.ref (b + 74), .int t, .int fl])), (b + 74, .inl (aC 0, 131072, .inl f)), (sd, .inl (aC 0, 327, .inl g2))] := hD
        refine lv_iinc (v := 1) (lv' := [(5, .int 1), (4, .int 2), (3, .int 0), (0, .ref (b + 75)), (1, .int x), (2, .ref sd)]) hx hb dX2_save_121 hl (k := 0) rfl (by decide) (by decide) rfl (fun ls20073 hl' => ?_)
        clear hl
        have hl : lv_has ls20073 6 [(5, .int 1), (4, .int 2), (3, .int 0), (0, .ref (b + 75)), (1, .int x), (2, .ref sd)] := hl'
        clear hl'
        refine lv_goto (tgt := 77) hx hb dX2_save_124 (by decide) ?_
        show W p l e _ s m _ below meth c _ _ _ _ QQ (F0 m 77 ls20073 [])
        refine lv_iload hx hb dX2_save_77 (lv_at hl 0 rfl) ?_
        refine lv_aload_n hx hb dX2_save_79 rfl (lv_at hl 5 rfl) ?_
        refine lv_iconst (v := 0) hx hb dX2_save_80 (by decide) ?_
        refine va_iald hx hb hK.1 hP 3 0 rfl rfl (zvp (by decide)) dX2_save_81 ?_
        refine lv_topi (fun y20074 ey20074 => ?_)
        obtain rfl : y20074 = 0 := ey20074.trans h20
        try clear ey20074
        refine lv_icmp_gt (tgt := 127) hx hb dX2_save_82 (by decide) (fun _ => ?_) (fun c_82_b20075 => absurd (by decide) c_82_b20075)
        show W p l e _ s m _ below meth c _ _ _ _ QQ (F0 m 127 ls20073 [])
        refine lv_iinc (v := 1) (lv' := [(3, .int 1), (5, .int 1), (4, .int 2), (0, .ref (b + 75)), (1, .int x), (2, .ref sd)]) hx hb dX2_save_127 hl (k := 2) rfl (by decide) (by decide) rfl (fun ls20076 hl' => ?_)
        clear hl
        have hl : lv_has ls20076 6 [(3, .int 1), (5, .int 1), (4, .int 2), (0, .ref (b + 75)), (1, .int x), (2, .ref sd)] := hl'
        clear hl'
        refine lv_goto (tgt := 59) hx hb dX2_save_130 (by decide) ?_
        refine lv_iload_n hx hb dX2_save_59 rfl (lv_at hl 0 rfl) ?_
        refine lv_aload_n hx hb dX2_save_60 rfl (lv_at hl 5 rfl) ?_
        refine lv_iconst (v := 1) hx hb dX2_save_61 (by decide) ?_
        show W p l e _ s m _ below meth c _ _ _ _ QQ (F0 m 62 ls20076 [.int 1, .ref sd, .int 1])
        refine va_iald hx hb hK.1 hP 3 0 rfl rfl (zvp (by decide)) dX2_save_62 ?_
        refine lv_topi (fun y20077 ey20077 => ?_)
        obtain rfl : y20077 = 0 := ey20077.trans h21
        try clear ey20077
        refine lv_icmp_gt (tgt := 133) hx hb dX2_save_63 (by decide) (fun _ => ?_) (fun c_63_b20078 => absurd (by decide) c_63_b20078)
        refine W.widen (k := 0) (n := 0) (Nat.le_of_ble_eq_true rfl) (Nat.le_of_ble_eq_true rfl) ?_
        rw [← hQ, hAe]
        have hP := zsubP (wc := [(b + 75, .inr (1, [.ref (b + 73)])), (b + 73, .inr (3, [.ref (b + 74), .int t, .int fl])), (b + 74, .inl (aC 0, 131072, .inl f))]) hP [0, 1, 2] rfl
        have hD := hD.sub (ws' := [(b + 75, .inr (1, [.ref (b + 73)])), (b + 73, .inr (3, [.ref (b + 74), .int t, .int fl])), (b + 74, .inl (aC 0, 131072, .inl f))]) [0, 1, 2] (by decide) rfl
        exact W.vret hx hb hr (fun zt ht hW => ⟨⟨(), rfl, trivial, by rw [ht]; exact hP, hD, by rw [ht]; exact hz0⟩, hS.F ht⟩) hS.2.2 dX2_save_133
  exact key 328 0 (Nat.zero_le _) (by omega) _ _ ls20037 hz0 hP hD hS (lv_sub hl [0, 1, 2, 3] rfl)

set_option maxHeartbeats 4000000 in
set_option maxRecDepth 100000 in
theorem c_X9_save (l : Launch) (dC : Nat → ClassId) (dI : Nat → Nat → Nat) (aC : Nat → ClassId) (b a : Nat) (x : Int32) (sz : Nat) : Met l yX9_save w_X9_save ({ frames := 3, cells := 0, slots := 0, locals := 71 }) (zPre (dC, dI) aC [(b + 81, .inr (8, [.ref (b + 73), .ref (b + 75), .ref (b + 76), .ref (b + 80), .ref (b + 82), .ref (b + 83), .int 0, .int 0])), (b + 75, .inr (1, [.ref (b + 73)])), (b + 80, .inr (2, [.ref (b + 73), .ref (b + 75), .ref (b + 76)])), (b + 73, .inr (3, [.ref (b + 74), .int (nI 2153), .int 0])), (b + 74, .inl (aC 0, 131072, .inl (zA2 x))), (a, .inr (5, [.int 0, .int 0, .int 0, .int 0, .int 0, .int 0, .int 0, .ref (a + 1), .ref (a + 2), .ref (a + 3), .ref (a + 4), .ref (a + 5)])), (a + 1, .inl (aC 0, 48, .inl (fun _ => 0))), (a + 2, .inl (aC 0, 327, .inl (fun _ => 0))), (a + 3, .inl (aC 0, 327, .inl (fun _ => 0)))] sz [.ref (b + 81), .int 2048, .ref a]) (va_Qi (fun (r : Int32) (u : Unit) => r = 1) (fun u zt => zB (dC, dI) [] (va_A [(b + 81, .inr (8, [.ref (b + 73), .ref (b + 75), .ref (b + 76), .ref (b + 80), .ref (b + 82), .ref (b + 83), .int 0, .int 0])), (b + 75, .inr (1, [.ref (b + 73)])), (b + 80, .inr (2, [.ref (b + 73), .ref (b + 75), .ref (b + 76)])), (b + 73, .inr (3, [.ref (b + 74), .int (nI 2153), .int 0])), (b + 74, .inl (aC 0, 131072, .inl (zA2 x))), (a, .inr (5, [.int 0, .int 0, .int 0, .int 0, .int 0, .int 0, .int 0, .ref (a + 1), .ref (a + 2), .ref (a + 3), .ref (a + 4), .ref (a + 5)])), (a + 1, .inl (aC 0, 48, .inl (fun _ => 0))), (a + 2, .inl (aC 0, 327, .inl (fun _ => 0))), (a + 3, .inl (aC 0, 327, .inl (fun _ => 0)))] sz) (sz + 0) zt) (va_A [(b + 81, .inr (8, [.ref (b + 73), .ref (b + 75), .ref (b + 76), .ref (b + 80), .ref (b + 82), .ref (b + 83), .int 0, .int 0])), (b + 75, .inr (1, [.ref (b + 73)])), (b + 80, .inr (2, [.ref (b + 73), .ref (b + 75), .ref (b + 76)])), (b + 73, .inr (3, [.ref (b + 74), .int (nI 2153), .int 0])), (b + 74, .inl (aC 0, 131072, .inl (zA2 x))), (a, .inr (5, [.int 0, .int 0, .int 0, .int 0, .int 0, .int 0, .int 0, .ref (a + 1), .ref (a + 2), .ref (a + 3), .ref (a + 4), .ref (a + 5)])), (a + 1, .inl (aC 0, 48, .inl (fun _ => 0))), (a + 2, .inl (aC 0, 327, .inl (fun _ => 0))), (a + 3, .inl (aC 0, 327, .inl (fun _ => 0)))] sz)) 0 0 (va_A [(b + 81, .inr (8, [.ref (b + 73), .ref (b + 75), .ref (b + 76), .ref (b + 80), .ref (b + 82), .ref (b + 83), .int 0, .int 0])), (b + 75, .inr (1, [.ref (b + 73)])), (b + 80, .inr (2, [.ref (b + 73), .ref (b + 75), .ref (b + 76)])), (b + 73, .inr (3, [.ref (b + 74), .int (nI 2153), .int 0])), (b + 74, .inl (aC 0, 131072, .inl (zA2 x))), (a, .inr (5, [.int 0, .int 0, .int 0, .int 0, .int 0, .int 0, .int 0, .ref (a + 1), .ref (a + 2), .ref (a + 3), .ref (a + 4), .ref (a + 5)])), (a + 1, .inl (aC 0, 48, .inl (fun _ => 0))), (a + 2, .inl (aC 0, 327, .inl (fun _ => 0))), (a + 3, .inl (aC 0, 327, .inl (fun _ => 0)))] sz) := by
  refine Met.ofW (cc := cX9_save) (maxL := 4) (ret := (some .int)) (by decide) rfl ?_
  intro p e s m args below meth c s₁ B hml hv
  generalize hQ : MQ below _ _ s _ _ _ = QQ
  obtain ⟨rfl, hsz, hP, hK, hD0⟩ := hv
  have hx := B.exec
  have hb := B.bytes
  have hr := B.returns
  have hts := atoms_spec (ws := w_X9_save) B.pre
  have hall := fun (w : Cond) (h : w ∈ zAll) => hts w (List.mem_cons_of_mem _ h)
  have hown : s.vm.findClass RX9 = some m.cls := findClass_of_methodNamed B.named
  have hlocks := B.notSynchronized
  subst hsz
  have hD := hD0.self (sz := s.heap.size)
  generalize hAe : va_A [(b + 81, .inr (8, [.ref (b + 73), .ref (b + 75), .ref (b + 76), .ref (b + 80), .ref (b + 82), .ref (b + 83), .int 0, .int 0])), (b + 75, .inr (1, [.ref (b + 73)])), (b + 80, .inr (2, [.ref (b + 73), .ref (b + 75), .ref (b + 76)])), (b + 73, .inr (3, [.ref (b + 74), .int (nI 2153), .int 0])), (b + 74, .inl (aC 0, 131072, .inl (zA2 x))), (a, .inr (5, [.int 0, .int 0, .int 0, .int 0, .int 0, .int 0, .int 0, .ref (a + 1), .ref (a + 2), .ref (a + 3), .ref (a + 4), .ref (a + 5)])), (a + 1, .inl (aC 0, 48, .inl (fun _ => 0))), (a + 2, .inl (aC 0, 327, .inl (fun _ => 0))), (a + 3, .inl (aC 0, 327, .inl (fun _ => 0)))] s.heap.size = A at hD ⊢
  have hA : ∀ q : Nat, s.heap.size ≤ q → A q := fun q h => by rw [← hAe]; exact Or.inr h
  have hS : va_S A s.heap s.heap [] := va_S.rf
  have hz0 : s.heap.size = s.heap.size + 0 := rfl
  have hl := lv_entry ([.ref (b + 81), .int 2048, .ref a]) (n := 4) (Nat.le_of_ble_eq_true rfl)
  rw [lg_entry_eq]
  generalize (lg_sl ([.ref (b + 81), .int 2048, .ref a]) ++ List.replicate (4 - (lg_sl ([.ref (b + 81), .int 2048, .ref a])).length) Slot.unset).toArray = ls at hl ⊢
  have hl : lv_has ls 4 [(0, .ref (b + 81)), (1, .int 2048), (2, .ref a)] := hl
  refine lv_aload_n hx hb dX9_save_0 rfl (lv_at hl 2 rfl) ?_
  refine zrw_v (k := 0) (wr := [(b + 81, .inr (8, [.ref (b + 73), .ref (b + 75), .ref (b + 76), .ref (b + 80), .ref (b + 82), .ref (b + 83), .int 0, .int 0])), (b + 75, .inr (1, [.ref (b + 73)])), (b + 80, .inr (2, [.ref (b + 73), .ref (b + 75), .ref (b + 76)])), (b + 73, .inr (3, [.ref (b + 74), .int (nI 2153), .int 0])), (b + 74, .inl (aC 0, 131072, .inl (zA2 x))), (a + 1, .inl (aC 0, 48, .inl (fun _ => 0))), (a + 2, .inl (aC 0, 327, .inl (fun _ => 0))), (a + 3, .inl (aC 0, 327, .inl (fun _ => 0)))]) (wc := [(a, .inr (5, [.int 0, .int 0, .int 0, .int 0, .int 0, .int 0, .int 0, .ref (a + 1), .ref (a + 2), .ref (a + 3), .ref (a + 4), .ref (a + 5)]))]) (w1 := fun _ => [(a, .inr (5, [.int 0, .int 1, .int 1, .int 0, .int 0, .int 0, .int 0, .ref (a + 1), .ref (a + 2), .ref (a + 3), .ref (a + 4), .ref (a + 5)]))]) hP hD hS hA [5] [0, 1, 2, 3, 4, 6, 7, 8] rfl rfl (by decide +kernel) (by decide +kernel) (va_runV (As := []) (rest := []) ⟨hx, hb, hml, hown, hall⟩ (c_X6_wipe l dC dI aC a s.heap.size) (cwV 0 hall (zgV zw_112 zw_114 zw_115 zw_792 g_X6_wipe rfl) rfl rfl rfl (by decide +kernel) ⟨Nat.le_of_ble_eq_true rfl, Nat.le_of_ble_eq_true rfl⟩) (zPre_V (As := []) hK hP hD [5] rfl (by decide +kernel) (ci := 5) (q0 := 0) rfl rfl) rfl rfl hl.1 rfl (lv_room (Nat.le_of_ble_eq_true rfl)) dX9_save_1 ⟨Nat.le_of_ble_eq_true rfl, Nat.le_of_ble_eq_true rfl⟩) (fun u H20080 L20081 hw hz hk hP' hD' hS' => ?_)
  try rw [hz0] at hP'
  try rw [hz0] at hD'
  rw [hz0] at hz
  replace hz0 : H20080.size = s.heap.size + 0 := by omega
  clear hz
  clear hP hD hS hk
  have hP : va_P (dC, dI) vwCl [(b + 81, .inr (8, [.ref (b + 73), .ref (b + 75), .ref (b + 76), .ref (b + 80), .ref (b + 82), .ref (b + 83), .int 0, .int 0])), (b + 75, .inr (1, [.ref (b + 73)])), (b + 80, .inr (2, [.ref (b + 73), .ref (b + 75), .ref (b + 76)])), (b + 73, .inr (3, [.ref (b + 74), .int (nI 2153), .int 0])), (b + 74, .inl (aC 0, 131072, .inl (zA2 x))), (a + 1, .inl (aC 0, 48, .inl (fun _ => 0))), (a + 2, .inl (aC 0, 327, .inl (fun _ => 0))), (a + 3, .inl (aC 0, 327, .inl (fun _ => 0))), (a, .inr (5, [.int 0, .int 1, .int 1, .int 0, .int 0, .int 0, .int 0, .ref (a + 1), .ref (a + 2), .ref (a + 3), .ref (a + 4), .ref (a + 5)]))] H20080 := hP'
  have hD : va_D A [(b + 81, .inr (8, [.ref (b + 73), .ref (b + 75), .ref (b + 76), .ref (b + 80), .ref (b + 82), .ref (b + 83), .int 0, .int 0])), (b + 75, .inr (1, [.ref (b + 73)])), (b + 80, .inr (2, [.ref (b + 73), .ref (b + 75), .ref (b + 76)])), (b + 73, .inr (3, [.ref (b + 74), .int (nI 2153), .int 0])), (b + 74, .inl (aC 0, 131072, .inl (zA2 x))), (a + 1, .inl (aC 0, 48, .inl (fun _ => 0))), (a + 2, .inl (aC 0, 327, .inl (fun _ => 0))), (a + 3, .inl (aC 0, 327, .inl (fun _ => 0))), (a, .inr (5, [.int 0, .int 1, .int 1, .int 0, .int 0, .int 0, .int 0, .ref (a + 1), .ref (a + 2), .ref (a + 3), .ref (a + 4), .ref (a + 5)]))] := hD'
  have hS : va_S A s.heap H20080 L20081 := hS'
  clear hP' hD' hS'
  refine lv_aload_n hx hb dX9_save_4 rfl (lv_at hl 2 rfl) ?_
  refine lv_aload_n hx hb dX9_save_5 rfl (lv_at hl 0 rfl) ?_
  refine lv_iload_n hx hb dX9_save_6 rfl (lv_at hl 1 rfl) ?_
  show W p l e _ s m _ below meth c _ _ _ _ QQ (F0 m 7 ls [.int 2048, .ref (b + 81), .ref a])
  refine zro_i hS hA (va_runV (As := [.int 2048]) (rest := [.ref a]) ⟨hx, hb, hml, hown, hall⟩ (c_X9_kindOf l dC dI aC b x H20080.size) (cwV 1 hall (zgV zw_116 zw_118 zw_119 zw_798 g_X9_kindOf rfl) rfl rfl rfl (by decide +kernel) ⟨Nat.le_of_ble_eq_true rfl, Nat.le_of_ble_eq_true rfl⟩) (zPre_V (As := [.int 2048]) hK hP hD [0, 3, 4] rfl (by decide +kernel) (ci := 8) (q0 := 0) rfl rfl) rfl rfl hl.1 rfl (lv_room (Nat.le_of_ble_eq_true rfl)) dX9_save_7 ⟨Nat.le_of_ble_eq_true rfl, Nat.le_of_ble_eq_true rfl⟩) (fun r20082 L20083 hw hS' => ?_)
  clear hS
  have hS := hS'
  clear hS'
  obtain rfl : r20082 = 1 := hw
  try clear hw
  refine zput (D := (dC, dI)) (ci := 5) (v := .int 1) (ty := .int) (C := RX6) (T := TX6) (N := 12) hx hb hall zx_6 tyX6 tyX6_ok nmX6 hown hK.1 hP hD hS 8 rfl rfl 0 (by decide) (hall _ zw_120) (fun _ h9 => h9) rfl (by decide +kernel) rfl rfl (Nat.le_of_ble_eq_true rfl) dX9_save_10 (fun H20084 L20085 hB hP' hD' hS' => ?_)
  replace hz0 : H20084.size = s.heap.size + 0 := hB.1.trans hz0
  clear hP hD hS hB
  have hP : va_P (dC, dI) vwCl [(b + 81, .inr (8, [.ref (b + 73), .ref (b + 75), .ref (b + 76), .ref (b + 80), .ref (b + 82), .ref (b + 83), .int 0, .int 0])), (b + 75, .inr (1, [.ref (b + 73)])), (b + 80, .inr (2, [.ref (b + 73), .ref (b + 75), .ref (b + 76)])), (b + 73, .inr (3, [.ref (b + 74), .int (nI 2153), .int 0])), (b + 74, .inl (aC 0, 131072, .inl (zA2 x))), (a + 1, .inl (aC 0, 48, .inl (fun _ => 0))), (a + 2, .inl (aC 0, 327, .inl (fun _ => 0))), (a + 3, .inl (aC 0, 327, .inl (fun _ => 0))), (a, .inr (5, [.int 1, .int 1, .int 1, .int 0, .int 0, .int 0, .int 0, .ref (a + 1), .ref (a + 2), .ref (a + 3), .ref (a + 4), .ref (a + 5)]))] H20084 := hP'
  have hD : va_D A [(b + 81, .inr (8, [.ref (b + 73), .ref (b + 75), .ref (b + 76), .ref (b + 80), .ref (b + 82), .ref (b + 83), .int 0, .int 0])), (b + 75, .inr (1, [.ref (b + 73)])), (b + 80, .inr (2, [.ref (b + 73), .ref (b + 75), .ref (b + 76)])), (b + 73, .inr (3, [.ref (b + 74), .int (nI 2153), .int 0])), (b + 74, .inl (aC 0, 131072, .inl (zA2 x))), (a + 1, .inl (aC 0, 48, .inl (fun _ => 0))), (a + 2, .inl (aC 0, 327, .inl (fun _ => 0))), (a + 3, .inl (aC 0, 327, .inl (fun _ => 0))), (a, .inr (5, [.int 1, .int 1, .int 1, .int 0, .int 0, .int 0, .int 0, .ref (a + 1), .ref (a + 2), .ref (a + 3), .ref (a + 4), .ref (a + 5)]))] := hD'
  have hS : va_S A s.heap H20084 L20085 := hS'
  clear hP' hD' hS'
  clear L20083 H20080
  refine lv_aload_n hx hb dX9_save_13 rfl (lv_at hl 2 rfl) ?_
  refine lv_aload_n hx hb dX9_save_14 rfl (lv_at hl 0 rfl) ?_
  refine va_get (D := (dC, dI)) (ci := 8) (v := .ref (b + 73)) (C := RX9) (T := TX9) (N := 8) hx hb hall zx_9 hown hK.1 hP 0 rfl rfl 0 (by decide) (hall _ zw_89) (fun _ h9 => h9) rfl dX9_save_15 ?_
  show W p l e _ s m _ below meth c _ _ _ _ QQ (F0 m 18 ls [.ref (b + 73), .ref a])
  refine lv_iload_n hx hb dX9_save_18 rfl (lv_at hl 1 rfl) ?_
  refine zro_i hS hA (va_runV (As := [.int 2048]) (rest := [.ref a]) ⟨hx, hb, hml, hown, hall⟩ (c_X4_get l dC dI aC (b + 73) (b + 74) (nI 2153) 0 (zA2 x) 2048 H20084.size) (cwV 1 hall (zgV zw_121 zw_42 zw_43 zw_788 g_X4_get rfl) rfl rfl rfl (by decide +kernel) ⟨Nat.le_of_ble_eq_true rfl, Nat.le_of_ble_eq_true rfl⟩) (zPre_V (As := [.int 2048]) hK hP hD [3, 4] rfl (by decide +kernel) (ci := 3) (q0 := 0) rfl rfl) rfl rfl hl.1 rfl (lv_room (Nat.le_of_ble_eq_true rfl)) dX9_save_19 ⟨Nat.le_of_ble_eq_true rfl, Nat.le_of_ble_eq_true rfl⟩) (fun r20086 L20087 hw hS' => ?_)
  clear hS
  have hS := hS'
  clear hS'
  obtain rfl : r20086 = 1 := hw.trans (zA2_x x)
  try clear hw
  refine zput (D := (dC, dI)) (ci := 5) (v := .int 1) (ty := .int) (C := RX6) (T := TX6) (N := 12) hx hb hall zx_6 tyX6 tyX6_ok nmX6 hown hK.1 hP hD hS 8 rfl rfl 1 (by decide) (hall _ zw_122) (fun _ h9 => h9) rfl (by decide +kernel) rfl rfl (Nat.le_of_ble_eq_true rfl) dX9_save_22 (fun H20088 L20089 hB hP' hD' hS' => ?_)
  replace hz0 : H20088.size = s.heap.size + 0 := hB.1.trans hz0
  clear hP hD hS hB
  have hP : va_P (dC, dI) vwCl [(b + 81, .inr (8, [.ref (b + 73), .ref (b + 75), .ref (b + 76), .ref (b + 80), .ref (b + 82), .ref (b + 83), .int 0, .int 0])), (b + 75, .inr (1, [.ref (b + 73)])), (b + 80, .inr (2, [.ref (b + 73), .ref (b + 75), .ref (b + 76)])), (b + 73, .inr (3, [.ref (b + 74), .int (nI 2153), .int 0])), (b + 74, .inl (aC 0, 131072, .inl (zA2 x))), (a + 1, .inl (aC 0, 48, .inl (fun _ => 0))), (a + 2, .inl (aC 0, 327, .inl (fun _ => 0))), (a + 3, .inl (aC 0, 327, .inl (fun _ => 0))), (a, .inr (5, [.int 1, .int 1, .int 1, .int 0, .int 0, .int 0, .int 0, .ref (a + 1), .ref (a + 2), .ref (a + 3), .ref (a + 4), .ref (a + 5)]))] H20088 := hP'
  have hD : va_D A [(b + 81, .inr (8, [.ref (b + 73), .ref (b + 75), .ref (b + 76), .ref (b + 80), .ref (b + 82), .ref (b + 83), .int 0, .int 0])), (b + 75, .inr (1, [.ref (b + 73)])), (b + 80, .inr (2, [.ref (b + 73), .ref (b + 75), .ref (b + 76)])), (b + 73, .inr (3, [.ref (b + 74), .int (nI 2153), .int 0])), (b + 74, .inl (aC 0, 131072, .inl (zA2 x))), (a + 1, .inl (aC 0, 48, .inl (fun _ => 0))), (a + 2, .inl (aC 0, 327, .inl (fun _ => 0))), (a + 3, .inl (aC 0, 327, .inl (fun _ => 0))), (a, .inr (5, [.int 1, .int 1, .int 1, .int 0, .int 0, .int 0, .int 0, .ref (a + 1), .ref (a + 2), .ref (a + 3), .ref (a + 4), .ref (a + 5)]))] := hD'
  have hS : va_S A s.heap H20088 L20089 := hS'
  clear hP' hD' hS'
  clear L20087 H20084
  refine lv_aload_n hx hb dX9_save_25 rfl (lv_at hl 2 rfl) ?_
  refine lv_aload_n hx hb dX9_save_26 rfl (lv_at hl 0 rfl) ?_
  show W p l e _ s m _ below meth c _ _ _ _ QQ (F0 m 27 ls [.ref (b + 81), .ref a])
  refine va_get (D := (dC, dI)) (ci := 8) (v := .ref (b + 73)) (C := RX9) (T := TX9) (N := 8) hx hb hall zx_9 hown hK.1 hP 0 rfl rfl 0 (by decide) (hall _ zw_89) (fun _ h9 => h9) rfl dX9_save_27 ?_
  refine lv_iload_n hx hb dX9_save_30 rfl (lv_at hl 1 rfl) ?_
  refine lv_iconst (v := 1) hx hb dX9_save_31 (by decide) ?_
  refine lv_iadd hx hb dX9_save_32 ?_
  refine lv_topi (fun y20090 ey20090 => ?_)
  obtain rfl : y20090 = 2049 := by rw [ey20090]; decide
  try clear ey20090
  refine zro_i hS hA (va_runV (As := [.int 2049]) (rest := [.ref a]) ⟨hx, hb, hml, hown, hall⟩ (c_X4_get l dC dI aC (b + 73) (b + 74) (nI 2153) 0 (zA2 x) 2049 H20088.size) (cwV 1 hall (zgV zw_121 zw_42 zw_43 zw_788 g_X4_get rfl) rfl rfl rfl (by decide +kernel) ⟨Nat.le_of_ble_eq_true rfl, Nat.le_of_ble_eq_true rfl⟩) (zPre_V (As := [.int 2049]) hK hP hD [3, 4] rfl (by decide +kernel) (ci := 3) (q0 := 0) rfl rfl) rfl rfl hl.1 rfl (lv_room (Nat.le_of_ble_eq_true rfl)) dX9_save_33 ⟨Nat.le_of_ble_eq_true rfl, Nat.le_of_ble_eq_true rfl⟩) (fun r20091 L20092 hw hS' => ?_)
  clear hS
  have hS := hS'
  clear hS'
  obtain rfl : r20091 = 1 := hw.trans (zA2_y x)
  try clear hw
  show W p l e _ s m _ below meth c _ _ _ _ QQ (F0 m 36 ls [.int 1, .ref a])
  refine zput (D := (dC, dI)) (ci := 5) (v := .int 1) (ty := .int) (C := RX6) (T := TX6) (N := 12) hx hb hall zx_6 tyX6 tyX6_ok nmX6 hown hK.1 hP hD hS 8 rfl rfl 2 (by decide) (hall _ zw_123) (fun _ h9 => h9) rfl (by decide +kernel) rfl rfl (Nat.le_of_ble_eq_true rfl) dX9_save_36 (fun H20093 L20094 hB hP' hD' hS' => ?_)
  replace hz0 : H20093.size = s.heap.size + 0 := hB.1.trans hz0
  clear hP hD hS hB
  have hP : va_P (dC, dI) vwCl [(b + 81, .inr (8, [.ref (b + 73), .ref (b + 75), .ref (b + 76), .ref (b + 80), .ref (b + 82), .ref (b + 83), .int 0, .int 0])), (b + 75, .inr (1, [.ref (b + 73)])), (b + 80, .inr (2, [.ref (b + 73), .ref (b + 75), .ref (b + 76)])), (b + 73, .inr (3, [.ref (b + 74), .int (nI 2153), .int 0])), (b + 74, .inl (aC 0, 131072, .inl (zA2 x))), (a + 1, .inl (aC 0, 48, .inl (fun _ => 0))), (a + 2, .inl (aC 0, 327, .inl (fun _ => 0))), (a + 3, .inl (aC 0, 327, .inl (fun _ => 0))), (a, .inr (5, [.int 1, .int 1, .int 1, .int 0, .int 0, .int 0, .int 0, .ref (a + 1), .ref (a + 2), .ref (a + 3), .ref (a + 4), .ref (a + 5)]))] H20093 := hP'
  have hD : va_D A [(b + 81, .inr (8, [.ref (b + 73), .ref (b + 75), .ref (b + 76), .ref (b + 80), .ref (b + 82), .ref (b + 83), .int 0, .int 0])), (b + 75, .inr (1, [.ref (b + 73)])), (b + 80, .inr (2, [.ref (b + 73), .ref (b + 75), .ref (b + 76)])), (b + 73, .inr (3, [.ref (b + 74), .int (nI 2153), .int 0])), (b + 74, .inl (aC 0, 131072, .inl (zA2 x))), (a + 1, .inl (aC 0, 48, .inl (fun _ => 0))), (a + 2, .inl (aC 0, 327, .inl (fun _ => 0))), (a + 3, .inl (aC 0, 327, .inl (fun _ => 0))), (a, .inr (5, [.int 1, .int 1, .int 1, .int 0, .int 0, .int 0, .int 0, .ref (a + 1), .ref (a + 2), .ref (a + 3), .ref (a + 4), .ref (a + 5)]))] := hD'
  have hS : va_S A s.heap H20093 L20094 := hS'
  clear hP' hD' hS'
  clear L20092 H20088
  refine lv_aload_n hx hb dX9_save_39 rfl (lv_at hl 2 rfl) ?_
  refine lv_aload_n hx hb dX9_save_40 rfl (lv_at hl 0 rfl) ?_
  refine va_get (D := (dC, dI)) (ci := 8) (v := .ref (b + 73)) (C := RX9) (T := TX9) (N := 8) hx hb hall zx_9 hown hK.1 hP 0 rfl rfl 0 (by decide) (hall _ zw_89) (fun _ h9 => h9) rfl dX9_save_41 ?_
  refine lv_iload_n hx hb dX9_save_44 rfl (lv_at hl 1 rfl) ?_
  show W p l e _ s m _ below meth c _ _ _ _ QQ (F0 m 45 ls [.int 2048, .ref (b + 73), .ref a])
  refine lv_iconst (v := 2) hx hb dX9_save_45 (by decide) ?_
  refine lv_iadd hx hb dX9_save_46 ?_
  refine lv_topi (fun y20095 ey20095 => ?_)
  obtain rfl : y20095 = 2050 := by rw [ey20095]; decide
  try clear ey20095
  refine zro_i hS hA (va_runV (As := [.int 2050]) (rest := [.ref a]) ⟨hx, hb, hml, hown, hall⟩ (c_X4_get l dC dI aC (b + 73) (b + 74) (nI 2153) 0 (zA2 x) 2050 H20093.size) (cwV 1 hall (zgV zw_121 zw_42 zw_43 zw_788 g_X4_get rfl) rfl rfl rfl (by decide +kernel) ⟨Nat.le_of_ble_eq_true rfl, Nat.le_of_ble_eq_true rfl⟩) (zPre_V (As := [.int 2050]) hK hP hD [3, 4] rfl (by decide +kernel) (ci := 3) (q0 := 0) rfl rfl) rfl rfl hl.1 rfl (lv_room (Nat.le_of_ble_eq_true rfl)) dX9_save_47 ⟨Nat.le_of_ble_eq_true rfl, Nat.le_of_ble_eq_true rfl⟩) (fun r20096 L20097 hw hS' => ?_)
  clear hS
  have hS := hS'
  clear hS'
  obtain rfl : r20096 = 0 := hw.trans (zA2_m x)
  try clear hw
  refine lv_aload_n hx hb dX9_save_50 rfl (lv_at hl 2 rfl) ?_
  refine va_get (D := (dC, dI)) (ci := 5) (v := .ref (a + 1)) (C := RX6) (T := TX6) (N := 12) hx hb hall zx_6 hown hK.1 hP 8 rfl rfl 7 (by decide) (hall _ zw_124) (fun _ h9 => h9) rfl dX9_save_51 ?_
  show W p l e _ s m _ below meth c _ _ _ _ QQ (F0 m 54 ls [.ref (a + 1), .int 0, .ref a])
  refine va_alen (v := 48) hx hb hK.1 hP 5 0 rfl rfl rfl dX9_save_54 ?_
  refine lv_iconst (v := 4) hx hb dX9_save_55 (by decide) ?_
  refine lv_idiv hx hb dX9_save_56 (by decide) ?_
  refine lv_topi (fun y20098 ey20098 => ?_)
  obtain rfl : y20098 = 12 := by rw [ey20098]; decide
  try clear ey20098
  refine va_mmin hx hb (hml.trans hl.1.symm) hown (hall _ zw_125) (hall _ zw_30) (hall _ zw_813) (hall _ zw_31) (Nat.le_of_ble_eq_true rfl) (Nat.le_of_ble_eq_true rfl) (Nat.le_of_ble_eq_true rfl) (Nat.le_of_ble_eq_true rfl) dX9_save_57 ?_
  refine lv_topi (fun y20099 ey20099 => ?_)
  obtain rfl : y20099 = 0 := by rw [ey20099]; decide
  try clear ey20099
  refine zput (D := (dC, dI)) (ci := 5) (v := .int 0) (ty := .int) (C := RX6) (T := TX6) (N := 12) hx hb hall zx_6 tyX6 tyX6_ok nmX6 hown hK.1 hP hD hS 8 rfl rfl 3 (by decide) (hall _ zw_126) (fun _ h9 => h9) rfl (by decide +kernel) rfl rfl (Nat.le_of_ble_eq_true rfl) dX9_save_60 (fun H20100 L20101 hB hP' hD' hS' => ?_)
  replace hz0 : H20100.size = s.heap.size + 0 := hB.1.trans hz0
  clear hP hD hS hB
  have hP : va_P (dC, dI) vwCl [(b + 81, .inr (8, [.ref (b + 73), .ref (b + 75), .ref (b + 76), .ref (b + 80), .ref (b + 82), .ref (b + 83), .int 0, .int 0])), (b + 75, .inr (1, [.ref (b + 73)])), (b + 80, .inr (2, [.ref (b + 73), .ref (b + 75), .ref (b + 76)])), (b + 73, .inr (3, [.ref (b + 74), .int (nI 2153), .int 0])), (b + 74, .inl (aC 0, 131072, .inl (zA2 x))), (a + 1, .inl (aC 0, 48, .inl (fun _ => 0))), (a + 2, .inl (aC 0, 327, .inl (fun _ => 0))), (a + 3, .inl (aC 0, 327, .inl (fun _ => 0))), (a, .inr (5, [.int 1, .int 1, .int 1, .int 0, .int 0, .int 0, .int 0, .ref (a + 1), .ref (a + 2), .ref (a + 3), .ref (a + 4), .ref (a + 5)]))] H20100 := hP'
  have hD : va_D A [(b + 81, .inr (8, [.ref (b + 73), .ref (b + 75), .ref (b + 76), .ref (b + 80), .ref (b + 82), .ref (b + 83), .int 0, .int 0])), (b + 75, .inr (1, [.ref (b + 73)])), (b + 80, .inr (2, [.ref (b + 73), .ref (b + 75), .ref (b + 76)])), (b + 73, .inr (3, [.ref (b + 74), .int (nI 2153), .int 0])), (b + 74, .inl (aC 0, 131072, .inl (zA2 x))), (a + 1, .inl (aC 0, 48, .inl (fun _ => 0))), (a + 2, .inl (aC 0, 327, .inl (fun _ => 0))), (a + 3, .inl (aC 0, 327, .inl (fun _ => 0))), (a, .inr (5, [.int 1, .int 1, .int 1, .int 0, .int 0, .int 0, .int 0, .ref (a + 1), .ref (a + 2), .ref (a + 3), .ref (a + 4), .ref (a + 5)]))] := hD'
  have hS : va_S A s.heap H20100 L20101 := hS'
  clear hP' hD' hS'
  clear L20097 H20093
  show W p l e _ s m _ below meth c _ _ _ _ QQ (F0 m 63 ls [])
  refine lv_iconst (v := 0) hx hb dX9_save_63 (by decide) ?_
  refine lv_istore_n (lv' := [(3, .int 0), (0, .ref (b + 81)), (1, .int 2048), (2, .ref a)]) hx hb dX9_save_64 rfl hl (by decide) rfl (fun ls20102 hl' => ?_)
  clear hl
  have hl : lv_has ls20102 4 [(3, .int 0), (0, .ref (b + 81)), (1, .int 2048), (2, .ref a)] := hl'
  clear hl'
  refine lv_iload_n hx hb dX9_save_65 rfl (lv_at hl 0 rfl) ?_
  refine lv_aload_n hx hb dX9_save_66 rfl (lv_at hl 3 rfl) ?_
  refine va_get (D := (dC, dI)) (ci := 5) (v := .int 0) (C := RX6) (T := TX6) (N := 12) hx hb hall zx_6 hown hK.1 hP 8 rfl rfl 3 (by decide) (hall _ zw_126) (fun _ h9 => h9) rfl dX9_save_67 ?_
  show W p l e _ s m _ below meth c _ _ _ _ QQ (F0 m 70 ls20102 [.int 0, .int 0])
  refine lv_iconst (v := 4) hx hb dX9_save_70 (by decide) ?_
  refine lv_imul hx hb dX9_save_71 ?_
  refine lv_topi (fun y20103 ey20103 => ?_)
  obtain rfl : y20103 = 0 := by rw [ey20103]; decide
  try clear ey20103
  refine lv_icmp_ge (tgt := 108) hx hb dX9_save_72 (by decide) (fun _ => ?_) (fun c_72_b20104 => absurd (by decide) c_72_b20104)
  refine lv_aload_n hx hb dX9_save_108 rfl (lv_at hl 1 rfl) ?_
  refine va_get (D := (dC, dI)) (ci := 8) (v := .ref (b + 75)) (C := RX9) (T := TX9) (N := 8) hx hb hall zx_9 hown hK.1 hP 0 rfl rfl 1 (by decide) (hall _ zw_90) (fun _ h9 => h9) rfl dX9_save_109 ?_
  show W p l e _ s m _ below meth c _ _ _ _ QQ (F0 m 112 ls20102 [.ref (b + 75)])
  refine lv_aload_n hx hb dX9_save_112 rfl (lv_at hl 1 rfl) ?_
  refine lv_iload_n hx hb dX9_save_113 rfl (lv_at hl 2 rfl) ?_
  refine zro_i hS hA (va_runV (As := [.int 2048]) (rest := [.ref (b + 75)]) ⟨hx, hb, hml, hown, hall⟩ (c_X9_ratioOf l dC dI aC b H20100.size) (cwV 1 hall (zgV zw_127 zw_129 zw_130 zw_798 g_X9_ratioOf rfl) rfl rfl rfl (by decide +kernel) ⟨Nat.le_of_ble_eq_true rfl, Nat.le_of_ble_eq_true rfl⟩) (zPre_V (As := [.int 2048]) hK hP hD [0] rfl (by decide +kernel) (ci := 8) (q0 := 0) rfl rfl) rfl rfl hl.1 rfl (lv_room (Nat.le_of_ble_eq_true rfl)) dX9_save_114 ⟨Nat.le_of_ble_eq_true rfl, Nat.le_of_ble_eq_true rfl⟩) (fun r20105 L20106 hw hS' => ?_)
  clear hS
  have hS := hS'
  clear hS'
  obtain rfl : r20105 = 2147 := hw
  try clear hw
  refine lv_aload_n hx hb dX9_save_117 rfl (lv_at hl 3 rfl) ?_
  refine va_get (D := (dC, dI)) (ci := 5) (v := .ref (a + 2)) (C := RX6) (T := TX6) (N := 12) hx hb hall zx_6 hown hK.1 hP 8 rfl rfl 8 (by decide) (hall _ zw_131) (fun _ h9 => h9) rfl dX9_save_118 ?_
  show W p l e _ s m _ below meth c _ _ _ _ QQ (F0 m 121 ls20102 [.ref (a + 2), .int 2147, .ref (b + 75)])
  refine zrw_v (k := 0) (wr := [(b + 81, .inr (8, [.ref (b + 73), .ref (b + 75), .ref (b + 76), .ref (b + 80), .ref (b + 82), .ref (b + 83), .int 0, .int 0])), (b + 80, .inr (2, [.ref (b + 73), .ref (b + 75), .ref (b + 76)])), (a + 1, .inl (aC 0, 48, .inl (fun _ => 0))), (a + 3, .inl (aC 0, 327, .inl (fun _ => 0))), (a, .inr (5, [.int 1, .int 1, .int 1, .int 0, .int 0, .int 0, .int 0, .ref (a + 1), .ref (a + 2), .ref (a + 3), .ref (a + 4), .ref (a + 5)]))]) (wc := [(b + 75, .inr (1, [.ref (b + 73)])), (b + 73, .inr (3, [.ref (b + 74), .int (nI 2153), .int 0])), (b + 74, .inl (aC 0, 131072, .inl (zA2 x))), (a + 2, .inl (aC 0, 327, .inl (fun _ => 0)))]) (w1 := fun _ => [(b + 75, .inr (1, [.ref (b + 73)])), (b + 73, .inr (3, [.ref (b + 74), .int (nI 2153), .int 0])), (b + 74, .inl (aC 0, 131072, .inl (zA2 x)))]) hP hD hS hA [1, 3, 4, 6] [0, 2, 5, 7, 8] rfl rfl (by decide +kernel) (by decide +kernel) (va_runV (As := [.int 2147, .ref (a + 2)]) (rest := []) ⟨hx, hb, hml, hown, hall⟩ (c_X2_save l dC dI aC b (a + 2) (nI 2153) 0 (zA2 x) (fun _ => 0) 2147 H20100.size (zA2_w x) (zA2_h x)) (cwV 2 hall (zgV zw_132 zw_134 zw_135 zw_784 g_X2_save rfl) rfl rfl rfl (by decide +kernel) ⟨Nat.le_of_ble_eq_true rfl, Nat.le_of_ble_eq_true rfl⟩) (zPre_V (As := [.int 2147, .ref (a + 2)]) hK hP hD [1, 3, 4, 6] rfl (by decide +kernel) (ci := 1) (q0 := 0) rfl rfl) rfl rfl hl.1 rfl (lv_room (Nat.le_of_ble_eq_true rfl)) dX9_save_121 ⟨Nat.le_of_ble_eq_true rfl, Nat.le_of_ble_eq_true rfl⟩) (fun u H20108 L20109 hw hz hk hP' hD' hS' => ?_)
  try rw [hz0] at hP'
  try rw [hz0] at hD'
  rw [hz0] at hz
  replace hz0 : H20108.size = s.heap.size + 0 := by omega
  clear hz
  clear hP hD hS hk
  have hP : va_P (dC, dI) vwCl [(b + 81, .inr (8, [.ref (b + 73), .ref (b + 75), .ref (b + 76), .ref (b + 80), .ref (b + 82), .ref (b + 83), .int 0, .int 0])), (b + 80, .inr (2, [.ref (b + 73), .ref (b + 75), .ref (b + 76)])), (a + 1, .inl (aC 0, 48, .inl (fun _ => 0))), (a + 3, .inl (aC 0, 327, .inl (fun _ => 0))), (a, .inr (5, [.int 1, .int 1, .int 1, .int 0, .int 0, .int 0, .int 0, .ref (a + 1), .ref (a + 2), .ref (a + 3), .ref (a + 4), .ref (a + 5)])), (b + 75, .inr (1, [.ref (b + 73)])), (b + 73, .inr (3, [.ref (b + 74), .int (nI 2153), .int 0])), (b + 74, .inl (aC 0, 131072, .inl (zA2 x)))] H20108 := hP'
  have hD : va_D A [(b + 81, .inr (8, [.ref (b + 73), .ref (b + 75), .ref (b + 76), .ref (b + 80), .ref (b + 82), .ref (b + 83), .int 0, .int 0])), (b + 80, .inr (2, [.ref (b + 73), .ref (b + 75), .ref (b + 76)])), (a + 1, .inl (aC 0, 48, .inl (fun _ => 0))), (a + 3, .inl (aC 0, 327, .inl (fun _ => 0))), (a, .inr (5, [.int 1, .int 1, .int 1, .int 0, .int 0, .int 0, .int 0, .ref (a + 1), .ref (a + 2), .ref (a + 3), .ref (a + 4), .ref (a + 5)])), (b + 75, .inr (1, [.ref (b + 73)])), (b + 73, .inr (3, [.ref (b + 74), .int (nI 2153), .int 0])), (b + 74, .inl (aC 0, 131072, .inl (zA2 x)))] := hD'
  have hS : va_S A s.heap H20108 L20109 := hS'
  clear hP' hD' hS'
  clear L20106 H20100
  refine lv_aload_n hx hb dX9_save_124 rfl (lv_at hl 1 rfl) ?_
  refine va_get (D := (dC, dI)) (ci := 8) (v := .ref (b + 75)) (C := RX9) (T := TX9) (N := 8) hx hb hall zx_9 hown hK.1 hP 0 rfl rfl 1 (by decide) (hall _ zw_90) (fun _ h9 => h9) rfl dX9_save_125 ?_
  refine lv_aload_n hx hb dX9_save_128 rfl (lv_at hl 1 rfl) ?_
  refine va_get (D := (dC, dI)) (ci := 8) (v := .ref (b + 80)) (C := RX9) (T := TX9) (N := 8) hx hb hall zx_9 hown hK.1 hP 0 rfl rfl 3 (by decide) (hall _ zw_92) (fun _ h9 => h9) rfl dX9_save_129 ?_
  show W p l e _ s m _ below meth c _ _ _ _ QQ (F0 m 132 ls20102 [.ref (b + 80), .ref (b + 75)])
  refine lv_aload_n hx hb dX9_save_132 rfl (lv_at hl 1 rfl) ?_
  refine lv_iload_n hx hb dX9_save_133 rfl (lv_at hl 2 rfl) ?_
  refine zro_i hS hA (va_runV (As := [.int 2048]) (rest := [.ref (b + 80), .ref (b + 75)]) ⟨hx, hb, hml, hown, hall⟩ (c_X9_ratioOf l dC dI aC b H20108.size) (cwV 1 hall (zgV zw_127 zw_129 zw_130 zw_798 g_X9_ratioOf rfl) rfl rfl rfl (by decide +kernel) ⟨Nat.le_of_ble_eq_true rfl, Nat.le_of_ble_eq_true rfl⟩) (zPre_V (As := [.int 2048]) hK hP hD [0] rfl (by decide +kernel) (ci := 8) (q0 := 0) rfl rfl) rfl rfl hl.1 rfl (lv_room (Nat.le_of_ble_eq_true rfl)) dX9_save_134 ⟨Nat.le_of_ble_eq_true rfl, Nat.le_of_ble_eq_true rfl⟩) (fun r20110 L20111 hw hS' => ?_)
  clear hS
  have hS := hS'
  clear hS'
  obtain rfl : r20110 = 2147 := hw
  try clear hw
  refine zro_i hS hA (va_runV (As := [.int 2147]) (rest := [.ref (b + 75)]) ⟨hx, hb, hml, hown, hall⟩ (c_X3_under l dC dI aC b x H20108.size) (cwV 1 hall (zgV zw_136 zw_138 zw_139 zw_786 g_X3_under rfl) rfl rfl rfl (by decide +kernel) ⟨Nat.le_of_ble_eq_true rfl, Nat.le_of_ble_eq_true rfl⟩) (zPre_V (As := [.int 2147]) hK hP hD [1, 6, 7] rfl (by decide +kernel) (ci := 2) (q0 := 0) rfl rfl) rfl rfl hl.1 rfl (lv_room (Nat.le_of_ble_eq_true rfl)) dX9_save_137 ⟨Nat.le_of_ble_eq_true rfl, Nat.le_of_ble_eq_true rfl⟩) (fun r20112 L20113 hw hS' => ?_)
  clear hS
  have hS := hS'
  clear hS'
  obtain rfl : r20112 = 2150 := hw
  try clear hw
  refine lv_aload_n hx hb dX9_save_140 rfl (lv_at hl 3 rfl) ?_
  show W p l e _ s m _ below meth c _ _ _ _ QQ (F0 m 141 ls20102 [.ref a, .int 2150, .ref (b + 75)])
  refine va_get (D := (dC, dI)) (ci := 5) (v := .ref (a + 3)) (C := RX6) (T := TX6) (N := 12) hx hb hall zx_6 hown hK.1 hP 4 rfl rfl 9 (by decide) (hall _ zw_140) (fun _ h9 => h9) rfl dX9_save_141 ?_
  refine zrw_v (k := 0) (wr := [(b + 81, .inr (8, [.ref (b + 73), .ref (b + 75), .ref (b + 76), .ref (b + 80), .ref (b + 82), .ref (b + 83), .int 0, .int 0])), (b + 80, .inr (2, [.ref (b + 73), .ref (b + 75), .ref (b + 76)])), (a + 1, .inl (aC 0, 48, .inl (fun _ => 0))), (a, .inr (5, [.int 1, .int 1, .int 1, .int 0, .int 0, .int 0, .int 0, .ref (a + 1), .ref (a + 2), .ref (a + 3), .ref (a + 4), .ref (a + 5)]))]) (wc := [(b + 75, .inr (1, [.ref (b + 73)])), (b + 73, .inr (3, [.ref (b + 74), .int (nI 2153), .int 0])), (b + 74, .inl (aC 0, 131072, .inl (zA2 x))), (a + 3, .inl (aC 0, 327, .inl (fun _ => 0)))]) (w1 := fun _ => [(b + 75, .inr (1, [.ref (b + 73)])), (b + 73, .inr (3, [.ref (b + 74), .int (nI 2153), .int 0])), (b + 74, .inl (aC 0, 131072, .inl (zA2 x)))]) hP hD hS hA [5, 6, 7, 3] [0, 1, 2, 4] rfl rfl (by decide +kernel) (by decide +kernel) (va_runV (As := [.int 2150, .ref (a + 3)]) (rest := []) ⟨hx, hb, hml, hown, hall⟩ (c_X2_save l dC dI aC b (a + 3) (nI 2153) 0 (zA2 x) (fun _ => 0) 2150 H20108.size (zA2_w2 x) (zA2_h2 x)) (cwV 2 hall (zgV zw_132 zw_134 zw_135 zw_784 g_X2_save rfl) rfl rfl rfl (by decide +kernel) ⟨Nat.le_of_ble_eq_true rfl, Nat.le_of_ble_eq_true rfl⟩) (zPre_V (As := [.int 2150, .ref (a + 3)]) hK hP hD [5, 6, 7, 3] rfl (by decide +kernel) (ci := 1) (q0 := 0) rfl rfl) rfl rfl hl.1 rfl (lv_room (Nat.le_of_ble_eq_true rfl)) dX9_save_144 ⟨Nat.le_of_ble_eq_true rfl, Nat.le_of_ble_eq_true rfl⟩) (fun u H20115 L20116 hw hz hk hP' hD' hS' => ?_)
  try rw [hz0] at hP'
  try rw [hz0] at hD'
  rw [hz0] at hz
  replace hz0 : H20115.size = s.heap.size + 0 := by omega
  clear hz
  clear hP hD hS hk
  have hP : va_P (dC, dI) vwCl [(b + 81, .inr (8, [.ref (b + 73), .ref (b + 75), .ref (b + 76), .ref (b + 80), .ref (b + 82), .ref (b + 83), .int 0, .int 0])), (b + 80, .inr (2, [.ref (b + 73), .ref (b + 75), .ref (b + 76)])), (a + 1, .inl (aC 0, 48, .inl (fun _ => 0))), (a, .inr (5, [.int 1, .int 1, .int 1, .int 0, .int 0, .int 0, .int 0, .ref (a + 1), .ref (a + 2), .ref (a + 3), .ref (a + 4), .ref (a + 5)])), (b + 75, .inr (1, [.ref (b + 73)])), (b + 73, .inr (3, [.ref (b + 74), .int (nI 2153), .int 0])), (b + 74, .inl (aC 0, 131072, .inl (zA2 x)))] H20115 := hP'
  have hD : va_D A [(b + 81, .inr (8, [.ref (b + 73), .ref (b + 75), .ref (b + 76), .ref (b + 80), .ref (b + 82), .ref (b + 83), .int 0, .int 0])), (b + 80, .inr (2, [.ref (b + 73), .ref (b + 75), .ref (b + 76)])), (a + 1, .inl (aC 0, 48, .inl (fun _ => 0))), (a, .inr (5, [.int 1, .int 1, .int 1, .int 0, .int 0, .int 0, .int 0, .ref (a + 1), .ref (a + 2), .ref (a + 3), .ref (a + 4), .ref (a + 5)])), (b + 75, .inr (1, [.ref (b + 73)])), (b + 73, .inr (3, [.ref (b + 74), .int (nI 2153), .int 0])), (b + 74, .inl (aC 0, 131072, .inl (zA2 x)))] := hD'
  have hS : va_S A s.heap H20115 L20116 := hS'
  clear hP' hD' hS'
  clear L20113 H20108
  refine lv_aload_n hx hb dX9_save_147 rfl (lv_at hl 3 rfl) ?_
  refine va_get (D := (dC, dI)) (ci := 5) (v := .int 1) (C := RX6) (T := TX6) (N := 12) hx hb hall zx_6 hown hK.1 hP 3 rfl rfl 0 (by decide) (hall _ zw_120) (fun _ h9 => h9) rfl dX9_save_148 ?_
  refine W.widen (k := 0) (n := 0) (Nat.le_of_ble_eq_true rfl) (Nat.le_of_ble_eq_true rfl) ?_
  rw [← hQ, hAe]
  have hP := zsubP (wc := []) hP [] rfl
  have hD := hD.sub (ws' := []) [] (by decide) rfl
  exact W.iret (v := 1) hx hb hr (fun zt ht hW => ⟨⟨1, (), rfl, rfl, by rw [ht]; exact hP, hD, by rw [ht]; exact hz0⟩, hS.F ht⟩) hS.2.2 dX9_save_151

set_option maxHeartbeats 4000000 in
set_option maxRecDepth 100000 in
theorem c_X11_keep (l : Launch) (dC : Nat → ClassId) (dI : Nat → Nat → Nat) (aC : Nat → ClassId) (h0 b a : Nat) (x : Int32) (sz : Nat) : Met l yX11_keep w_X11_keep ({ frames := 4, cells := 0, slots := 0, locals := 94 }) (zPre (dC, dI) aC [(h0, .inr (10, [.ref (b + 0), .ref (b + 73), .ref (b + 75), .ref (b + 76), .ref (b + 80), .ref (b + 81), .ref (b + 88), .ref (b + 95), .ref (b + 100), .ref (b + 106), .int 0, .ref (b + 107), .int 0])), (b + 81, .inr (8, [.ref (b + 73), .ref (b + 75), .ref (b + 76), .ref (b + 80), .ref (b + 82), .ref (b + 83), .int 0, .int 0])), (b + 75, .inr (1, [.ref (b + 73)])), (b + 80, .inr (2, [.ref (b + 73), .ref (b + 75), .ref (b + 76)])), (b + 73, .inr (3, [.ref (b + 74), .int (nI 2153), .int 0])), (b + 74, .inl (aC 0, 131072, .inl (zA2 x))), (a, .inr (5, [.int 0, .int 0, .int 0, .int 0, .int 0, .int 0, .int 0, .ref (a + 1), .ref (a + 2), .ref (a + 3), .ref (a + 4), .ref (a + 5)])), (a + 1, .inl (aC 0, 48, .inl (fun _ => 0))), (a + 2, .inl (aC 0, 327, .inl (fun _ => 0))), (a + 3, .inl (aC 0, 327, .inl (fun _ => 0)))] sz [.ref h0, .int 2048, .ref a]) (va_Qi (fun (r : Int32) (u : Unit) => r = 1) (fun u zt => zB (dC, dI) [] (va_A [(h0, .inr (10, [.ref (b + 0), .ref (b + 73), .ref (b + 75), .ref (b + 76), .ref (b + 80), .ref (b + 81), .ref (b + 88), .ref (b + 95), .ref (b + 100), .ref (b + 106), .int 0, .ref (b + 107), .int 0])), (b + 81, .inr (8, [.ref (b + 73), .ref (b + 75), .ref (b + 76), .ref (b + 80), .ref (b + 82), .ref (b + 83), .int 0, .int 0])), (b + 75, .inr (1, [.ref (b + 73)])), (b + 80, .inr (2, [.ref (b + 73), .ref (b + 75), .ref (b + 76)])), (b + 73, .inr (3, [.ref (b + 74), .int (nI 2153), .int 0])), (b + 74, .inl (aC 0, 131072, .inl (zA2 x))), (a, .inr (5, [.int 0, .int 0, .int 0, .int 0, .int 0, .int 0, .int 0, .ref (a + 1), .ref (a + 2), .ref (a + 3), .ref (a + 4), .ref (a + 5)])), (a + 1, .inl (aC 0, 48, .inl (fun _ => 0))), (a + 2, .inl (aC 0, 327, .inl (fun _ => 0))), (a + 3, .inl (aC 0, 327, .inl (fun _ => 0)))] sz) (sz + 0) zt) (va_A [(h0, .inr (10, [.ref (b + 0), .ref (b + 73), .ref (b + 75), .ref (b + 76), .ref (b + 80), .ref (b + 81), .ref (b + 88), .ref (b + 95), .ref (b + 100), .ref (b + 106), .int 0, .ref (b + 107), .int 0])), (b + 81, .inr (8, [.ref (b + 73), .ref (b + 75), .ref (b + 76), .ref (b + 80), .ref (b + 82), .ref (b + 83), .int 0, .int 0])), (b + 75, .inr (1, [.ref (b + 73)])), (b + 80, .inr (2, [.ref (b + 73), .ref (b + 75), .ref (b + 76)])), (b + 73, .inr (3, [.ref (b + 74), .int (nI 2153), .int 0])), (b + 74, .inl (aC 0, 131072, .inl (zA2 x))), (a, .inr (5, [.int 0, .int 0, .int 0, .int 0, .int 0, .int 0, .int 0, .ref (a + 1), .ref (a + 2), .ref (a + 3), .ref (a + 4), .ref (a + 5)])), (a + 1, .inl (aC 0, 48, .inl (fun _ => 0))), (a + 2, .inl (aC 0, 327, .inl (fun _ => 0))), (a + 3, .inl (aC 0, 327, .inl (fun _ => 0)))] sz)) 0 0 (va_A [(h0, .inr (10, [.ref (b + 0), .ref (b + 73), .ref (b + 75), .ref (b + 76), .ref (b + 80), .ref (b + 81), .ref (b + 88), .ref (b + 95), .ref (b + 100), .ref (b + 106), .int 0, .ref (b + 107), .int 0])), (b + 81, .inr (8, [.ref (b + 73), .ref (b + 75), .ref (b + 76), .ref (b + 80), .ref (b + 82), .ref (b + 83), .int 0, .int 0])), (b + 75, .inr (1, [.ref (b + 73)])), (b + 80, .inr (2, [.ref (b + 73), .ref (b + 75), .ref (b + 76)])), (b + 73, .inr (3, [.ref (b + 74), .int (nI 2153), .int 0])), (b + 74, .inl (aC 0, 131072, .inl (zA2 x))), (a, .inr (5, [.int 0, .int 0, .int 0, .int 0, .int 0, .int 0, .int 0, .ref (a + 1), .ref (a + 2), .ref (a + 3), .ref (a + 4), .ref (a + 5)])), (a + 1, .inl (aC 0, 48, .inl (fun _ => 0))), (a + 2, .inl (aC 0, 327, .inl (fun _ => 0))), (a + 3, .inl (aC 0, 327, .inl (fun _ => 0)))] sz) := by
  refine Met.ofW (cc := cX11_keep) (maxL := 3) (ret := (some .int)) (by decide) rfl ?_
  intro p e s m args below meth c s₁ B hml hv
  generalize hQ : MQ below _ _ s _ _ _ = QQ
  obtain ⟨rfl, hsz, hP, hK, hD0⟩ := hv
  have hx := B.exec
  have hb := B.bytes
  have hr := B.returns
  have hts := atoms_spec (ws := w_X11_keep) B.pre
  have hall := fun (w : Cond) (h : w ∈ zAll) => hts w (List.mem_cons_of_mem _ h)
  have hown : s.vm.findClass RX11 = some m.cls := findClass_of_methodNamed B.named
  have hlocks := B.notSynchronized
  subst hsz
  have hD := hD0.self (sz := s.heap.size)
  generalize hAe : va_A [(h0, .inr (10, [.ref (b + 0), .ref (b + 73), .ref (b + 75), .ref (b + 76), .ref (b + 80), .ref (b + 81), .ref (b + 88), .ref (b + 95), .ref (b + 100), .ref (b + 106), .int 0, .ref (b + 107), .int 0])), (b + 81, .inr (8, [.ref (b + 73), .ref (b + 75), .ref (b + 76), .ref (b + 80), .ref (b + 82), .ref (b + 83), .int 0, .int 0])), (b + 75, .inr (1, [.ref (b + 73)])), (b + 80, .inr (2, [.ref (b + 73), .ref (b + 75), .ref (b + 76)])), (b + 73, .inr (3, [.ref (b + 74), .int (nI 2153), .int 0])), (b + 74, .inl (aC 0, 131072, .inl (zA2 x))), (a, .inr (5, [.int 0, .int 0, .int 0, .int 0, .int 0, .int 0, .int 0, .ref (a + 1), .ref (a + 2), .ref (a + 3), .ref (a + 4), .ref (a + 5)])), (a + 1, .inl (aC 0, 48, .inl (fun _ => 0))), (a + 2, .inl (aC 0, 327, .inl (fun _ => 0))), (a + 3, .inl (aC 0, 327, .inl (fun _ => 0)))] s.heap.size = A at hD ⊢
  have hA : ∀ q : Nat, s.heap.size ≤ q → A q := fun q h => by rw [← hAe]; exact Or.inr h
  have hS : va_S A s.heap s.heap [] := va_S.rf
  have hz0 : s.heap.size = s.heap.size + 0 := rfl
  have hl := lv_entry ([.ref h0, .int 2048, .ref a]) (n := 3) (Nat.le_of_ble_eq_true rfl)
  rw [lg_entry_eq]
  generalize (lg_sl ([.ref h0, .int 2048, .ref a]) ++ List.replicate (3 - (lg_sl ([.ref h0, .int 2048, .ref a])).length) Slot.unset).toArray = ls at hl ⊢
  have hl : lv_has ls 3 [(0, .ref h0), (1, .int 2048), (2, .ref a)] := hl
  refine lv_iload_n hx hb dX11_keep_0 rfl (lv_at hl 1 rfl) ?_
  refine lv_if_lt (tgt := 14) hx hb dX11_keep_1 (by decide) (fun c_1_b20117 => absurd c_1_b20117 (by decide)) (fun _ => ?_)
  refine lv_aload_n hx hb dX11_keep_4 rfl (lv_at hl 0 rfl) ?_
  refine va_get (D := (dC, dI)) (ci := 10) (v := .ref (b + 73)) (C := RX11) (T := TX11) (N := 13) hx hb hall zx_11 hown hK.1 hP 0 rfl rfl 1 (by decide) (hall _ zw_188) (fun _ h9 => h9) rfl dX11_keep_5 ?_
  refine va_get (D := (dC, dI)) (ci := 3) (v := .int 0) (C := RX4) (T := TX4) (N := 3) hx hb hall zx_4 hown hK.1 hP 4 rfl rfl 2 (by decide) (hall _ zw_216) (fun _ h9 => h9) rfl dX11_keep_8 ?_
  refine lv_if_eq (tgt := 19) hx hb dX11_keep_11 (by decide) (fun _ => ?_) (fun c_11_b20118 => absurd (by decide) c_11_b20118)
  show W p l e _ s m _ below meth c _ _ _ _ QQ (F0 m 19 ls [])
  refine lv_aload_n hx hb dX11_keep_19 rfl (lv_at hl 0 rfl) ?_
  refine va_get (D := (dC, dI)) (ci := 10) (v := .ref (b + 81)) (C := RX11) (T := TX11) (N := 13) hx hb hall zx_11 hown hK.1 hP 0 rfl rfl 5 (by decide) (hall _ zw_192) (fun _ h9 => h9) rfl dX11_keep_20 ?_
  refine lv_iload_n hx hb dX11_keep_23 rfl (lv_at hl 1 rfl) ?_
  refine lv_aload_n hx hb dX11_keep_24 rfl (lv_at hl 2 rfl) ?_
  refine zrw_i (f := fun _ => False) (B := fun _ _ => True) (k := 0) (wr := [(h0, .inr (10, [.ref (b + 0), .ref (b + 73), .ref (b + 75), .ref (b + 76), .ref (b + 80), .ref (b + 81), .ref (b + 88), .ref (b + 95), .ref (b + 100), .ref (b + 106), .int 0, .ref (b + 107), .int 0]))]) (wc := [(b + 81, .inr (8, [.ref (b + 73), .ref (b + 75), .ref (b + 76), .ref (b + 80), .ref (b + 82), .ref (b + 83), .int 0, .int 0])), (b + 75, .inr (1, [.ref (b + 73)])), (b + 80, .inr (2, [.ref (b + 73), .ref (b + 75), .ref (b + 76)])), (b + 73, .inr (3, [.ref (b + 74), .int (nI 2153), .int 0])), (b + 74, .inl (aC 0, 131072, .inl (zA2 x))), (a, .inr (5, [.int 0, .int 0, .int 0, .int 0, .int 0, .int 0, .int 0, .ref (a + 1), .ref (a + 2), .ref (a + 3), .ref (a + 4), .ref (a + 5)])), (a + 1, .inl (aC 0, 48, .inl (fun _ => 0))), (a + 2, .inl (aC 0, 327, .inl (fun _ => 0))), (a + 3, .inl (aC 0, 327, .inl (fun _ => 0)))]) (w1 := fun _ => []) hP hD hS hA [1, 2, 3, 4, 5, 6, 7, 8, 9] [0] rfl rfl (by decide +kernel) (by decide +kernel) (va_runV (As := [.int 2048, .ref a]) (rest := []) ⟨hx, hb, hml, hown, hall⟩ (c_X9_save l dC dI aC b a x s.heap.size) (cwV 2 hall (zgV zw_217 zw_219 zw_220 zw_798 g_X9_save rfl) rfl rfl rfl (by decide +kernel) ⟨Nat.le_of_ble_eq_true rfl, Nat.le_of_ble_eq_true rfl⟩) (zPre_V (As := [.int 2048, .ref a]) hK hP hD [1, 2, 3, 4, 5, 6, 7, 8, 9] rfl (by decide +kernel) (ci := 8) (q0 := 0) rfl rfl) rfl rfl hl.1 rfl (lv_room (Nat.le_of_ble_eq_true rfl)) dX11_keep_25 ⟨Nat.le_of_ble_eq_true rfl, Nat.le_of_ble_eq_true rfl⟩) (fun r20119 u H20120 L20121 hw hz hk hP' hD' hS' => ?_)
  try rw [hz0] at hP'
  try rw [hz0] at hD'
  rw [hz0] at hz
  replace hz0 : H20120.size = s.heap.size + 0 := by omega
  clear hz
  clear hP hD hS hk
  have hP : va_P (dC, dI) vwCl [(h0, .inr (10, [.ref (b + 0), .ref (b + 73), .ref (b + 75), .ref (b + 76), .ref (b + 80), .ref (b + 81), .ref (b + 88), .ref (b + 95), .ref (b + 100), .ref (b + 106), .int 0, .ref (b + 107), .int 0]))] H20120 := hP'
  have hD : va_D A [(h0, .inr (10, [.ref (b + 0), .ref (b + 73), .ref (b + 75), .ref (b + 76), .ref (b + 80), .ref (b + 81), .ref (b + 88), .ref (b + 95), .ref (b + 100), .ref (b + 106), .int 0, .ref (b + 107), .int 0]))] := hD'
  have hS : va_S A s.heap H20120 L20121 := hS'
  clear hP' hD' hS'
  obtain rfl : r20119 = 1 := hw
  try clear hw
  refine W.widen (k := 0) (n := 0) (Nat.le_of_ble_eq_true rfl) (Nat.le_of_ble_eq_true rfl) ?_
  rw [← hQ, hAe]
  have hP := zsubP (wc := []) hP [] rfl
  have hD := hD.sub (ws' := []) [] (by decide) rfl
  exact W.iret (v := 1) hx hb hr (fun zt ht hW => ⟨⟨1, (), rfl, rfl, by rw [ht]; exact hP, hD, by rw [ht]; exact hz0⟩, hS.F ht⟩) hS.2.2 dX11_keep_28

set_option maxHeartbeats 4000000 in
set_option maxRecDepth 100000 in
theorem c_X11_change_out (l : Launch) (dC : Nat → ClassId) (dI : Nat → Nat → Nat) (aC : Nat → ClassId) (h0 b : Nat) (o x v z : Int32) (sz : Nat) (hxm : zslot b x = none) : Met l yX11_change w_X11_change ({ frames := 2, cells := 0, slots := 0, locals := 45 }) (zPre (dC, dI) aC [(h0, .inr (10, [.ref (b + 0), .ref (b + 73), .ref (b + 75), .ref (b + 76), .ref (b + 80), .ref (b + 81), .ref (b + 88), .ref (b + 95), .ref (b + 100), .ref (b + 106), .int 0, .ref (b + 107), .int 0])), (b + 0, .inl (aC 3, 12, .inr (.inr (.inr (.inr (zrefs (fun i => b + (1 + 6 * i)) 12))))))] sz [.ref h0, .int o, .int x, .int v, .int z]) (va_Qi (fun (r : Int32) (_ : Unit) => r = -1) (fun _ zt => zt.heap.size = sz) (zN sz)) 0 0 (zN sz) := by
  refine Met.ofW (cc := cX11_change) (maxL := 9) (ret := (some .int)) (by decide) rfl ?_
  intro p e s m args below meth c s₁ B hml hv
  generalize hQ : MQ below _ _ s _ _ _ = QQ
  obtain ⟨rfl, hsz, hP, hK, hD0⟩ := hv
  have hx := B.exec
  have hb := B.bytes
  have hr := B.returns
  have hts := atoms_spec (ws := w_X11_change) B.pre
  have hall := fun (w : Cond) (h : w ∈ zAll) => hts w (List.mem_cons_of_mem _ h)
  have hown : s.vm.findClass RX11 = some m.cls := findClass_of_methodNamed B.named
  have hlocks := B.notSynchronized
  subst hsz
  have hA : ∀ q : Nat, s.heap.size ≤ q → zN s.heap.size q := fun q h => h
  have hS : va_S (zN s.heap.size) s.heap s.heap [] := va_S.rf
  have hD := hD0
  have hl := lv_entry ([.ref h0, .int o, .int x, .int v, .int z]) (n := 9) (Nat.le_of_ble_eq_true rfl)
  rw [lg_entry_eq]
  generalize (lg_sl ([.ref h0, .int o, .int x, .int v, .int z]) ++ List.replicate (9 - (lg_sl ([.ref h0, .int o, .int x, .int v, .int z])).length) Slot.unset).toArray = ls at hl ⊢
  have hl : lv_has ls 9 [(0, .ref h0), (1, .int o), (2, .int x), (3, .int v), (4, .int z)] := hl
  refine lv_aload_n hx hb dX11_change_0 rfl (lv_at hl 0 rfl) ?_
  refine lv_iload_n hx hb dX11_change_1 rfl (lv_at hl 2 rfl) ?_
  refine zro_q hS hA (va_runV (As := [.int x]) (rest := []) ⟨hx, hb, hml, hown, hall⟩ (c_X11_slotAt l dC dI aC h0 b x s.heap.size) (cwV 1 hall (zgV zw_225 zw_227 zw_228 zw_802 g_X11_slotAt rfl) rfl rfl rfl (by decide +kernel) ⟨Nat.le_of_ble_eq_true rfl, Nat.le_of_ble_eq_true rfl⟩) (zPre_V (As := [.int x]) hK hP hD [0, 1] rfl (by decide +kernel) (ci := 10) (q0 := 0) rfl rfl) rfl rfl hl.1 rfl (lv_room (Nat.le_of_ble_eq_true rfl)) dX11_change_2 ⟨Nat.le_of_ble_eq_true rfl, Nat.le_of_ble_eq_true rfl⟩) (fun r20122 L20123 hw hS' => ?_)
  clear hS
  have hS := hS'
  clear hS'
  obtain rfl : r20122 = none := hw.trans hxm
  try clear hw
  refine lv_astoreN (lv' := [(5, .null), (0, .ref h0), (1, .int o), (2, .int x), (3, .int v), (4, .int z)]) hx hb dX11_change_5 hl (by decide) rfl (fun ls20124 hl' => ?_)
  clear hl
  have hl : lv_has ls20124 9 [(5, .null), (0, .ref h0), (1, .int o), (2, .int x), (3, .int v), (4, .int z)] := hl'
  clear hl'
  refine lv_aload_n hx hb dX11_change_7 rfl (lv_at hl 1 rfl) ?_
  show W p l e _ s m _ below meth c _ _ _ _ QQ (F0 m 8 ls20124 [.ref h0])
  refine lv_iload hx hb dX11_change_8 (lv_at hl 5 rfl) ?_
  refine zro_q hS hA (va_runV (As := [.int z]) (rest := []) ⟨hx, hb, hml, hown, hall⟩ (c_X11_slotAt l dC dI aC h0 b z s.heap.size) (cwV 1 hall (zgV zw_225 zw_227 zw_228 zw_802 g_X11_slotAt rfl) rfl rfl rfl (by decide +kernel) ⟨Nat.le_of_ble_eq_true rfl, Nat.le_of_ble_eq_true rfl⟩) (zPre_V (As := [.int z]) hK hP hD [0, 1] rfl (by decide +kernel) (ci := 10) (q0 := 0) rfl rfl) rfl rfl hl.1 rfl (lv_room (Nat.le_of_ble_eq_true rfl)) dX11_change_10 ⟨Nat.le_of_ble_eq_true rfl, Nat.le_of_ble_eq_true rfl⟩) (fun r20125 L20126 hw hS' => ?_)
  clear hS
  have hS := hS'
  clear hS'
  rcases r20125 with _ | q20127
  · have z20128 : ¬ zok z = true := zslot_n hw
    clear hw
    show W p l e _ s m _ below meth c _ _ _ _ QQ (F0 m 13 ls20124 [.null])
    refine lv_astoreN (lv' := [(6, .null), (5, .null), (0, .ref h0), (1, .int o), (2, .int x), (3, .int v), (4, .int z)]) hx hb dX11_change_13 hl (by decide) rfl (fun ls20129 hl' => ?_)
    clear hl
    have hl : lv_has ls20129 9 [(6, .null), (5, .null), (0, .ref h0), (1, .int o), (2, .int x), (3, .int v), (4, .int z)] := hl'
    clear hl'
    refine lv_aloadN hx hb dX11_change_15 (lv_at hl 1 rfl) ?_
    refine lv_ifnullN (tgt := 25) hx hb dX11_change_17 (by decide) ?_
    refine lv_iconst (v := (-1)) hx hb dX11_change_25 (by decide) ?_
    rw [← hQ]
    exact W.iret (v := (-1)) hx hb hr (fun zt ht hW => ⟨⟨(-1), (), rfl, rfl, (show zt.heap.size = s.heap.size by rw [ht])⟩, hS.F ht⟩) hS.2.2 dX11_change_26
  · have z20128 : zok z = true := zslot_s hw
    clear hw
    show W p l e _ s m _ below meth c _ _ _ _ QQ (F0 m 13 ls20124 [.ref q20127])
    refine lv_astore (lv' := [(6, .ref q20127), (5, .null), (0, .ref h0), (1, .int o), (2, .int x), (3, .int v), (4, .int z)]) hx hb dX11_change_13 hl (by decide) rfl (fun ls20130 hl' => ?_)
    clear hl
    have hl : lv_has ls20130 9 [(6, .ref q20127), (5, .null), (0, .ref h0), (1, .int o), (2, .int x), (3, .int v), (4, .int z)] := hl'
    clear hl'
    refine lv_aloadN hx hb dX11_change_15 (lv_at hl 1 rfl) ?_
    refine lv_ifnullN (tgt := 25) hx hb dX11_change_17 (by decide) ?_
    refine lv_iconst (v := (-1)) hx hb dX11_change_25 (by decide) ?_
    rw [← hQ]
    exact W.iret (v := (-1)) hx hb hr (fun zt ht hW => ⟨⟨(-1), (), rfl, rfl, (show zt.heap.size = s.heap.size by rw [ht])⟩, hS.F ht⟩) hS.2.2 dX11_change_26

set_option maxHeartbeats 4000000 in
set_option maxRecDepth 100000 in
theorem c_X11_change_in (l : Launch) (dC : Nat → ClassId) (dI : Nat → Nat → Nat) (aC : Nat → ClassId) (h0 b a : Nat) (o x v z : Int32) (sz : Nat) (hxm : zslot b x = some a) (ho : zok z = true → ¬ o = 10) : Met l yX11_change w_X11_change ({ frames := 2, cells := 0, slots := 0, locals := 45 }) (zPre (dC, dI) aC [(h0, .inr (10, [.ref (b + 0), .ref (b + 73), .ref (b + 75), .ref (b + 76), .ref (b + 80), .ref (b + 81), .ref (b + 88), .ref (b + 95), .ref (b + 100), .ref (b + 106), .int 0, .ref (b + 107), .int 0])), (b + 0, .inl (aC 3, 12, .inr (.inr (.inr (.inr (zrefs (fun i => b + (1 + 6 * i)) 12)))))), (a, .inr (5, [.int 0, .int 0, .int 0, .int 0, .int 0, .int 0, .int 0, .ref (a + 1), .ref (a + 2), .ref (a + 3), .ref (a + 4), .ref (a + 5)])), (b + 73, .inr (3, [.ref (b + 74), .int 2048, .int 0])), (b + 74, .inl (aC 0, 131072, .inl (fun _ => 0)))] sz [.ref h0, .int o, .int x, .int v, .int z]) (va_Qi (fun (r : Int32) (u : Unit) => r = zface1 z (-3) (-1)) (fun u zt => zB (dC, dI) [] (va_A [(h0, .inr (10, [.ref (b + 0), .ref (b + 73), .ref (b + 75), .ref (b + 76), .ref (b + 80), .ref (b + 81), .ref (b + 88), .ref (b + 95), .ref (b + 100), .ref (b + 106), .int 0, .ref (b + 107), .int 0])), (b + 0, .inl (aC 3, 12, .inr (.inr (.inr (.inr (zrefs (fun i => b + (1 + 6 * i)) 12)))))), (a, .inr (5, [.int 0, .int 0, .int 0, .int 0, .int 0, .int 0, .int 0, .ref (a + 1), .ref (a + 2), .ref (a + 3), .ref (a + 4), .ref (a + 5)])), (b + 73, .inr (3, [.ref (b + 74), .int 2048, .int 0])), (b + 74, .inl (aC 0, 131072, .inl (fun _ => 0)))] sz) (sz + 0) zt) (va_A [(h0, .inr (10, [.ref (b + 0), .ref (b + 73), .ref (b + 75), .ref (b + 76), .ref (b + 80), .ref (b + 81), .ref (b + 88), .ref (b + 95), .ref (b + 100), .ref (b + 106), .int 0, .ref (b + 107), .int 0])), (b + 0, .inl (aC 3, 12, .inr (.inr (.inr (.inr (zrefs (fun i => b + (1 + 6 * i)) 12)))))), (a, .inr (5, [.int 0, .int 0, .int 0, .int 0, .int 0, .int 0, .int 0, .ref (a + 1), .ref (a + 2), .ref (a + 3), .ref (a + 4), .ref (a + 5)])), (b + 73, .inr (3, [.ref (b + 74), .int 2048, .int 0])), (b + 74, .inl (aC 0, 131072, .inl (fun _ => 0)))] sz)) 0 0 (va_A [(h0, .inr (10, [.ref (b + 0), .ref (b + 73), .ref (b + 75), .ref (b + 76), .ref (b + 80), .ref (b + 81), .ref (b + 88), .ref (b + 95), .ref (b + 100), .ref (b + 106), .int 0, .ref (b + 107), .int 0])), (b + 0, .inl (aC 3, 12, .inr (.inr (.inr (.inr (zrefs (fun i => b + (1 + 6 * i)) 12)))))), (a, .inr (5, [.int 0, .int 0, .int 0, .int 0, .int 0, .int 0, .int 0, .ref (a + 1), .ref (a + 2), .ref (a + 3), .ref (a + 4), .ref (a + 5)])), (b + 73, .inr (3, [.ref (b + 74), .int 2048, .int 0])), (b + 74, .inl (aC 0, 131072, .inl (fun _ => 0)))] sz) := by
  refine Met.ofW (cc := cX11_change) (maxL := 9) (ret := (some .int)) (by decide) rfl ?_
  intro p e s m args below meth c s₁ B hml hv
  generalize hQ : MQ below _ _ s _ _ _ = QQ
  obtain ⟨rfl, hsz, hP, hK, hD0⟩ := hv
  have hx := B.exec
  have hb := B.bytes
  have hr := B.returns
  have hts := atoms_spec (ws := w_X11_change) B.pre
  have hall := fun (w : Cond) (h : w ∈ zAll) => hts w (List.mem_cons_of_mem _ h)
  have hown : s.vm.findClass RX11 = some m.cls := findClass_of_methodNamed B.named
  have hlocks := B.notSynchronized
  subst hsz
  have hD := hD0.self (sz := s.heap.size)
  generalize hAe : va_A [(h0, .inr (10, [.ref (b + 0), .ref (b + 73), .ref (b + 75), .ref (b + 76), .ref (b + 80), .ref (b + 81), .ref (b + 88), .ref (b + 95), .ref (b + 100), .ref (b + 106), .int 0, .ref (b + 107), .int 0])), (b + 0, .inl (aC 3, 12, .inr (.inr (.inr (.inr (zrefs (fun i => b + (1 + 6 * i)) 12)))))), (a, .inr (5, [.int 0, .int 0, .int 0, .int 0, .int 0, .int 0, .int 0, .ref (a + 1), .ref (a + 2), .ref (a + 3), .ref (a + 4), .ref (a + 5)])), (b + 73, .inr (3, [.ref (b + 74), .int 2048, .int 0])), (b + 74, .inl (aC 0, 131072, .inl (fun _ => 0)))] s.heap.size = A at hD ⊢
  have hA : ∀ q : Nat, s.heap.size ≤ q → A q := fun q h => by rw [← hAe]; exact Or.inr h
  have hS : va_S A s.heap s.heap [] := va_S.rf
  have hz0 : s.heap.size = s.heap.size + 0 := rfl
  have hl := lv_entry ([.ref h0, .int o, .int x, .int v, .int z]) (n := 9) (Nat.le_of_ble_eq_true rfl)
  rw [lg_entry_eq]
  generalize (lg_sl ([.ref h0, .int o, .int x, .int v, .int z]) ++ List.replicate (9 - (lg_sl ([.ref h0, .int o, .int x, .int v, .int z])).length) Slot.unset).toArray = ls at hl ⊢
  have hl : lv_has ls 9 [(0, .ref h0), (1, .int o), (2, .int x), (3, .int v), (4, .int z)] := hl
  refine lv_aload_n hx hb dX11_change_0 rfl (lv_at hl 0 rfl) ?_
  refine lv_iload_n hx hb dX11_change_1 rfl (lv_at hl 2 rfl) ?_
  refine zro_q hS hA (va_runV (As := [.int x]) (rest := []) ⟨hx, hb, hml, hown, hall⟩ (c_X11_slotAt l dC dI aC h0 b x s.heap.size) (cwV 1 hall (zgV zw_225 zw_227 zw_228 zw_802 g_X11_slotAt rfl) rfl rfl rfl (by decide +kernel) ⟨Nat.le_of_ble_eq_true rfl, Nat.le_of_ble_eq_true rfl⟩) (zPre_V (As := [.int x]) hK hP hD [0, 1] rfl (by decide +kernel) (ci := 10) (q0 := 0) rfl rfl) rfl rfl hl.1 rfl (lv_room (Nat.le_of_ble_eq_true rfl)) dX11_change_2 ⟨Nat.le_of_ble_eq_true rfl, Nat.le_of_ble_eq_true rfl⟩) (fun r20131 L20132 hw hS' => ?_)
  clear hS
  have hS := hS'
  clear hS'
  obtain rfl : r20131 = some a := hw.trans hxm
  try clear hw
  refine lv_astore (lv' := [(5, .ref a), (0, .ref h0), (1, .int o), (2, .int x), (3, .int v), (4, .int z)]) hx hb dX11_change_5 hl (by decide) rfl (fun ls20133 hl' => ?_)
  clear hl
  have hl : lv_has ls20133 9 [(5, .ref a), (0, .ref h0), (1, .int o), (2, .int x), (3, .int v), (4, .int z)] := hl'
  clear hl'
  refine lv_aload_n hx hb dX11_change_7 rfl (lv_at hl 1 rfl) ?_
  show W p l e _ s m _ below meth c _ _ _ _ QQ (F0 m 8 ls20133 [.ref h0])
  refine lv_iload hx hb dX11_change_8 (lv_at hl 5 rfl) ?_
  refine zro_q hS hA (va_runV (As := [.int z]) (rest := []) ⟨hx, hb, hml, hown, hall⟩ (c_X11_slotAt l dC dI aC h0 b z s.heap.size) (cwV 1 hall (zgV zw_225 zw_227 zw_228 zw_802 g_X11_slotAt rfl) rfl rfl rfl (by decide +kernel) ⟨Nat.le_of_ble_eq_true rfl, Nat.le_of_ble_eq_true rfl⟩) (zPre_V (As := [.int z]) hK hP hD [0, 1] rfl (by decide +kernel) (ci := 10) (q0 := 0) rfl rfl) rfl rfl hl.1 rfl (lv_room (Nat.le_of_ble_eq_true rfl)) dX11_change_10 ⟨Nat.le_of_ble_eq_true rfl, Nat.le_of_ble_eq_true rfl⟩) (fun r20134 L20135 hw hS' => ?_)
  clear hS
  have hS := hS'
  clear hS'
  rcases r20134 with _ | q20136
  · have z20137 : ¬ zok z = true := zslot_n hw
    clear hw
    show W p l e _ s m _ below meth c _ _ _ _ QQ (F0 m 13 ls20133 [.null])
    refine lv_astoreN (lv' := [(6, .null), (5, .ref a), (0, .ref h0), (1, .int o), (2, .int x), (3, .int v), (4, .int z)]) hx hb dX11_change_13 hl (by decide) rfl (fun ls20138 hl' => ?_)
    clear hl
    have hl : lv_has ls20138 9 [(6, .null), (5, .ref a), (0, .ref h0), (1, .int o), (2, .int x), (3, .int v), (4, .int z)] := hl'
    clear hl'
    refine lv_aload hx hb dX11_change_15 (lv_at hl 1 rfl) ?_
    refine lv_ifnull hx hb dX11_change_17 ?_
    refine lv_aloadN hx hb dX11_change_20 (lv_at hl 0 rfl) ?_
    refine lv_ifnonnullN hx hb dX11_change_22 ?_
    show W p l e _ s m _ below meth c _ _ _ _ QQ (F0 m 25 ls20138 [])
    refine lv_iconst (v := (-1)) hx hb dX11_change_25 (by decide) ?_
    refine W.widen (k := 0) (n := 0) (Nat.le_of_ble_eq_true rfl) (Nat.le_of_ble_eq_true rfl) ?_
    rw [← hQ, hAe]
    have hP := zsubP (wc := []) hP [] rfl
    have hD := hD.sub (ws' := []) [] (by decide) rfl
    exact W.iret (v := (-1)) hx hb hr (fun zt ht hW => ⟨⟨(-1), (), rfl, by simp [zface1, z20137], by rw [ht]; exact hP, hD, by rw [ht]; exact hz0⟩, hS.F ht⟩) hS.2.2 dX11_change_26
  · have z20137 : zok z = true := zslot_s hw
    clear hw
    show W p l e _ s m _ below meth c _ _ _ _ QQ (F0 m 13 ls20133 [.ref q20136])
    refine lv_astore (lv' := [(6, .ref q20136), (5, .ref a), (0, .ref h0), (1, .int o), (2, .int x), (3, .int v), (4, .int z)]) hx hb dX11_change_13 hl (by decide) rfl (fun ls20139 hl' => ?_)
    clear hl
    have hl : lv_has ls20139 9 [(6, .ref q20136), (5, .ref a), (0, .ref h0), (1, .int o), (2, .int x), (3, .int v), (4, .int z)] := hl'
    clear hl'
    refine lv_aload hx hb dX11_change_15 (lv_at hl 1 rfl) ?_
    refine lv_ifnull hx hb dX11_change_17 ?_
    refine lv_aload hx hb dX11_change_20 (lv_at hl 0 rfl) ?_
    refine lv_ifnonnull (tgt := 27) hx hb dX11_change_22 (by decide) ?_
    show W p l e _ s m _ below meth c _ _ _ _ QQ (F0 m 27 ls20139 [])
    refine lv_aload_n hx hb dX11_change_27 rfl (lv_at hl 2 rfl) ?_
    refine va_get (D := (dC, dI)) (ci := 10) (v := .ref (b + 73)) (C := RX11) (T := TX11) (N := 13) hx hb hall zx_11 hown hK.1 hP 0 rfl rfl 1 (by decide) (hall _ zw_188) (fun _ h9 => h9) rfl dX11_change_28 ?_
    refine zrw_v (k := 0) (wr := [(h0, .inr (10, [.ref (b + 0), .ref (b + 73), .ref (b + 75), .ref (b + 76), .ref (b + 80), .ref (b + 81), .ref (b + 88), .ref (b + 95), .ref (b + 100), .ref (b + 106), .int 0, .ref (b + 107), .int 0])), (b + 0, .inl (aC 3, 12, .inr (.inr (.inr (.inr (zrefs (fun i => b + (1 + 6 * i)) 12)))))), (a, .inr (5, [.int 0, .int 0, .int 0, .int 0, .int 0, .int 0, .int 0, .ref (a + 1), .ref (a + 2), .ref (a + 3), .ref (a + 4), .ref (a + 5)]))]) (wc := [(b + 73, .inr (3, [.ref (b + 74), .int 2048, .int 0])), (b + 74, .inl (aC 0, 131072, .inl (fun _ => 0)))]) (w1 := fun _ => [((b + 73), .inr (3, [.ref (b + 74), .int 2048, .int 0])), ((b + 74), .inl (aC 0, 131072, .inl (fun _ => 0)))]) hP hD hS hA [3, 4] [0, 1, 2] rfl rfl (by decide +kernel) (by decide +kernel) (va_runV (As := []) (rest := []) ⟨hx, hb, hml, hown, hall⟩ (c_X4_empty l dC dI aC (b + 73) (b + 74) 2048 0 (fun _ => 0) s.heap.size) (cwV 0 hall (zgV zw_229 zw_70 zw_71 zw_788 g_X4_empty rfl) rfl rfl rfl (by decide +kernel) ⟨Nat.le_of_ble_eq_true rfl, Nat.le_of_ble_eq_true rfl⟩) (zPre_V (As := []) hK hP hD [3, 4] rfl (by decide +kernel) (ci := 3) (q0 := 0) rfl rfl) rfl rfl hl.1 rfl (lv_room (Nat.le_of_ble_eq_true rfl)) dX11_change_31 ⟨Nat.le_of_ble_eq_true rfl, Nat.le_of_ble_eq_true rfl⟩) (fun u H20141 L20142 hw hz hk hP' hD' hS' => ?_)
    try rw [hz0] at hP'
    try rw [hz0] at hD'
    rw [hz0] at hz
    replace hz0 : H20141.size = s.heap.size + 0 := by omega
    clear hz
    clear hP hD hS hk
    have hP : va_P (dC, dI) vwCl [(h0, .inr (10, [.ref (b + 0), .ref (b + 73), .ref (b + 75), .ref (b + 76), .ref (b + 80), .ref (b + 81), .ref (b + 88), .ref (b + 95), .ref (b + 100), .ref (b + 106), .int 0, .ref (b + 107), .int 0])), (b + 0, .inl (aC 3, 12, .inr (.inr (.inr (.inr (zrefs (fun i => b + (1 + 6 * i)) 12)))))), (a, .inr (5, [.int 0, .int 0, .int 0, .int 0, .int 0, .int 0, .int 0, .ref (a + 1), .ref (a + 2), .ref (a + 3), .ref (a + 4), .ref (a + 5)])), ((b + 73), .inr (3, [.ref (b + 74), .int 2048, .int 0])), ((b + 74), .inl (aC 0, 131072, .inl (fun _ => 0)))] H20141 := hP'
    have hD : va_D A [(h0, .inr (10, [.ref (b + 0), .ref (b + 73), .ref (b + 75), .ref (b + 76), .ref (b + 80), .ref (b + 81), .ref (b + 88), .ref (b + 95), .ref (b + 100), .ref (b + 106), .int 0, .ref (b + 107), .int 0])), (b + 0, .inl (aC 3, 12, .inr (.inr (.inr (.inr (zrefs (fun i => b + (1 + 6 * i)) 12)))))), (a, .inr (5, [.int 0, .int 0, .int 0, .int 0, .int 0, .int 0, .int 0, .ref (a + 1), .ref (a + 2), .ref (a + 3), .ref (a + 4), .ref (a + 5)])), ((b + 73), .inr (3, [.ref (b + 74), .int 2048, .int 0])), ((b + 74), .inl (aC 0, 131072, .inl (fun _ => 0)))] := hD'
    have hS : va_S A s.heap H20141 L20142 := hS'
    clear hP' hD' hS'
    refine lv_iload_n hx hb dX11_change_34 rfl (lv_at hl 3 rfl) ?_
    refine lv_bipush (v := 10) hx hb dX11_change_35 (by decide) ?_
    refine lv_icmp_ne (tgt := 59) hx hb dX11_change_37 (by decide) (fun _ => ?_) (fun c_37_b20143 => absurd c_37_b20143 (ho z20137))
    show W p l e _ s m _ below meth c _ _ _ _ QQ (F0 m 59 ls20139 [])
    refine lv_aload hx hb dX11_change_59 (lv_at hl 1 rfl) ?_
    refine zro_i hS hA (va_runS (As := [.ref a]) (rest := []) ⟨hx, hb, hml, hown, hall⟩ (c_X11_isRatioOrTerm l dC dI aC a H20141.size) (va_cwS 1 hall (zgS zw_248 zw_250 zw_802 g_X11_isRatioOrTerm) rfl rfl rfl (by decide +kernel) ⟨Nat.le_of_ble_eq_true rfl, Nat.le_of_ble_eq_true rfl⟩) (zPre_S (As := [.ref a]) hK hP hD [2] rfl (by decide +kernel)) rfl rfl hl.1 rfl (lv_room (Nat.le_of_ble_eq_true rfl)) dX11_change_61 ⟨Nat.le_of_ble_eq_true rfl, Nat.le_of_ble_eq_true rfl⟩) (fun r20144 L20145 hw hS' => ?_)
    clear hS
    have hS := hS'
    clear hS'
    obtain rfl : r20144 = 0 := hw
    try clear hw
    refine lv_if_ne (tgt := 70) hx hb dX11_change_64 (by decide) (fun c_64_b20146 => absurd (by decide) c_64_b20146) (fun _ => ?_)
    refine lv_bipush (v := (-3)) hx hb dX11_change_67 (by decide) ?_
    refine W.widen (k := 0) (n := 0) (Nat.le_of_ble_eq_true rfl) (Nat.le_of_ble_eq_true rfl) ?_
    rw [← hQ, hAe]
    have hP := zsubP (wc := []) hP [] rfl
    have hD := hD.sub (ws' := []) [] (by decide) rfl
    exact W.iret (v := (-3)) hx hb hr (fun zt ht hW => ⟨⟨(-3), (), rfl, by simp [zface1, z20137], by rw [ht]; exact hP, hD, by rw [ht]; exact hz0⟩, hS.F ht⟩) hS.2.2 dX11_change_69

set_option maxHeartbeats 4000000 in
set_option maxRecDepth 100000 in
theorem c_X11_change_ten (l : Launch) (dC : Nat → ClassId) (dI : Nat → Nat → Nat) (aC : Nat → ClassId) (h0 b a : Nat) (x v z : Int32) (sz : Nat) (hxm : zslot b z = some a) (hk : zok x = true) : Met l yX11_change w_X11_change ({ frames := 5, cells := 0, slots := 0, locals := 116 }) (zPre (dC, dI) aC [(h0, .inr (10, [.ref (b + 0), .ref (b + 73), .ref (b + 75), .ref (b + 76), .ref (b + 80), .ref (b + 81), .ref (b + 88), .ref (b + 95), .ref (b + 100), .ref (b + 106), .int 0, .ref (b + 107), .int 0])), (b + 0, .inl (aC 3, 12, .inr (.inr (.inr (.inr (zrefs (fun i => b + (1 + 6 * i)) 12)))))), (b + 81, .inr (8, [.ref (b + 73), .ref (b + 75), .ref (b + 76), .ref (b + 80), .ref (b + 82), .ref (b + 83), .int 0, .int 0])), (b + 75, .inr (1, [.ref (b + 73)])), (b + 80, .inr (2, [.ref (b + 73), .ref (b + 75), .ref (b + 76)])), (b + 73, .inr (3, [.ref (b + 74), .int 2048, .int 0])), (b + 74, .inl (aC 0, 131072, .inl (fun _ => 0))), (a, .inr (5, [.int 0, .int 0, .int 0, .int 0, .int 0, .int 0, .int 0, .ref (a + 1), .ref (a + 2), .ref (a + 3), .ref (a + 4), .ref (a + 5)])), (a + 1, .inl (aC 0, 48, .inl (fun _ => 0))), (a + 2, .inl (aC 0, 327, .inl (fun _ => 0))), (a + 3, .inl (aC 0, 327, .inl (fun _ => 0)))] sz [.ref h0, .int 10, .int x, .int v, .int z]) (va_Qi (fun (r : Int32) (u : Unit) => r = 1) (fun u zt => zB (dC, dI) [] (va_A [(h0, .inr (10, [.ref (b + 0), .ref (b + 73), .ref (b + 75), .ref (b + 76), .ref (b + 80), .ref (b + 81), .ref (b + 88), .ref (b + 95), .ref (b + 100), .ref (b + 106), .int 0, .ref (b + 107), .int 0])), (b + 0, .inl (aC 3, 12, .inr (.inr (.inr (.inr (zrefs (fun i => b + (1 + 6 * i)) 12)))))), (b + 81, .inr (8, [.ref (b + 73), .ref (b + 75), .ref (b + 76), .ref (b + 80), .ref (b + 82), .ref (b + 83), .int 0, .int 0])), (b + 75, .inr (1, [.ref (b + 73)])), (b + 80, .inr (2, [.ref (b + 73), .ref (b + 75), .ref (b + 76)])), (b + 73, .inr (3, [.ref (b + 74), .int 2048, .int 0])), (b + 74, .inl (aC 0, 131072, .inl (fun _ => 0))), (a, .inr (5, [.int 0, .int 0, .int 0, .int 0, .int 0, .int 0, .int 0, .ref (a + 1), .ref (a + 2), .ref (a + 3), .ref (a + 4), .ref (a + 5)])), (a + 1, .inl (aC 0, 48, .inl (fun _ => 0))), (a + 2, .inl (aC 0, 327, .inl (fun _ => 0))), (a + 3, .inl (aC 0, 327, .inl (fun _ => 0)))] sz) (sz + 0) zt) (va_A [(h0, .inr (10, [.ref (b + 0), .ref (b + 73), .ref (b + 75), .ref (b + 76), .ref (b + 80), .ref (b + 81), .ref (b + 88), .ref (b + 95), .ref (b + 100), .ref (b + 106), .int 0, .ref (b + 107), .int 0])), (b + 0, .inl (aC 3, 12, .inr (.inr (.inr (.inr (zrefs (fun i => b + (1 + 6 * i)) 12)))))), (b + 81, .inr (8, [.ref (b + 73), .ref (b + 75), .ref (b + 76), .ref (b + 80), .ref (b + 82), .ref (b + 83), .int 0, .int 0])), (b + 75, .inr (1, [.ref (b + 73)])), (b + 80, .inr (2, [.ref (b + 73), .ref (b + 75), .ref (b + 76)])), (b + 73, .inr (3, [.ref (b + 74), .int 2048, .int 0])), (b + 74, .inl (aC 0, 131072, .inl (fun _ => 0))), (a, .inr (5, [.int 0, .int 0, .int 0, .int 0, .int 0, .int 0, .int 0, .ref (a + 1), .ref (a + 2), .ref (a + 3), .ref (a + 4), .ref (a + 5)])), (a + 1, .inl (aC 0, 48, .inl (fun _ => 0))), (a + 2, .inl (aC 0, 327, .inl (fun _ => 0))), (a + 3, .inl (aC 0, 327, .inl (fun _ => 0)))] sz)) 0 0 (va_A [(h0, .inr (10, [.ref (b + 0), .ref (b + 73), .ref (b + 75), .ref (b + 76), .ref (b + 80), .ref (b + 81), .ref (b + 88), .ref (b + 95), .ref (b + 100), .ref (b + 106), .int 0, .ref (b + 107), .int 0])), (b + 0, .inl (aC 3, 12, .inr (.inr (.inr (.inr (zrefs (fun i => b + (1 + 6 * i)) 12)))))), (b + 81, .inr (8, [.ref (b + 73), .ref (b + 75), .ref (b + 76), .ref (b + 80), .ref (b + 82), .ref (b + 83), .int 0, .int 0])), (b + 75, .inr (1, [.ref (b + 73)])), (b + 80, .inr (2, [.ref (b + 73), .ref (b + 75), .ref (b + 76)])), (b + 73, .inr (3, [.ref (b + 74), .int 2048, .int 0])), (b + 74, .inl (aC 0, 131072, .inl (fun _ => 0))), (a, .inr (5, [.int 0, .int 0, .int 0, .int 0, .int 0, .int 0, .int 0, .ref (a + 1), .ref (a + 2), .ref (a + 3), .ref (a + 4), .ref (a + 5)])), (a + 1, .inl (aC 0, 48, .inl (fun _ => 0))), (a + 2, .inl (aC 0, 327, .inl (fun _ => 0))), (a + 3, .inl (aC 0, 327, .inl (fun _ => 0)))] sz) := by
  refine Met.ofW (cc := cX11_change) (maxL := 9) (ret := (some .int)) (by decide) rfl ?_
  intro p e s m args below meth c s₁ B hml hv
  generalize hQ : MQ below _ _ s _ _ _ = QQ
  obtain ⟨rfl, hsz, hP, hK, hD0⟩ := hv
  have hx := B.exec
  have hb := B.bytes
  have hr := B.returns
  have hts := atoms_spec (ws := w_X11_change) B.pre
  have hall := fun (w : Cond) (h : w ∈ zAll) => hts w (List.mem_cons_of_mem _ h)
  have hown : s.vm.findClass RX11 = some m.cls := findClass_of_methodNamed B.named
  have hlocks := B.notSynchronized
  subst hsz
  have hD := hD0.self (sz := s.heap.size)
  generalize hAe : va_A [(h0, .inr (10, [.ref (b + 0), .ref (b + 73), .ref (b + 75), .ref (b + 76), .ref (b + 80), .ref (b + 81), .ref (b + 88), .ref (b + 95), .ref (b + 100), .ref (b + 106), .int 0, .ref (b + 107), .int 0])), (b + 0, .inl (aC 3, 12, .inr (.inr (.inr (.inr (zrefs (fun i => b + (1 + 6 * i)) 12)))))), (b + 81, .inr (8, [.ref (b + 73), .ref (b + 75), .ref (b + 76), .ref (b + 80), .ref (b + 82), .ref (b + 83), .int 0, .int 0])), (b + 75, .inr (1, [.ref (b + 73)])), (b + 80, .inr (2, [.ref (b + 73), .ref (b + 75), .ref (b + 76)])), (b + 73, .inr (3, [.ref (b + 74), .int 2048, .int 0])), (b + 74, .inl (aC 0, 131072, .inl (fun _ => 0))), (a, .inr (5, [.int 0, .int 0, .int 0, .int 0, .int 0, .int 0, .int 0, .ref (a + 1), .ref (a + 2), .ref (a + 3), .ref (a + 4), .ref (a + 5)])), (a + 1, .inl (aC 0, 48, .inl (fun _ => 0))), (a + 2, .inl (aC 0, 327, .inl (fun _ => 0))), (a + 3, .inl (aC 0, 327, .inl (fun _ => 0)))] s.heap.size = A at hD ⊢
  have hA : ∀ q : Nat, s.heap.size ≤ q → A q := fun q h => by rw [← hAe]; exact Or.inr h
  have hS : va_S A s.heap s.heap [] := va_S.rf
  have hz0 : s.heap.size = s.heap.size + 0 := rfl
  have hl := lv_entry ([.ref h0, .int 10, .int x, .int v, .int z]) (n := 9) (Nat.le_of_ble_eq_true rfl)
  rw [lg_entry_eq]
  generalize (lg_sl ([.ref h0, .int 10, .int x, .int v, .int z]) ++ List.replicate (9 - (lg_sl ([.ref h0, .int 10, .int x, .int v, .int z])).length) Slot.unset).toArray = ls at hl ⊢
  have hl : lv_has ls 9 [(0, .ref h0), (1, .int 10), (2, .int x), (3, .int v), (4, .int z)] := hl
  refine lv_aload_n hx hb dX11_change_0 rfl (lv_at hl 0 rfl) ?_
  refine lv_iload_n hx hb dX11_change_1 rfl (lv_at hl 2 rfl) ?_
  refine zro_q hS hA (va_runV (As := [.int x]) (rest := []) ⟨hx, hb, hml, hown, hall⟩ (c_X11_slotAt l dC dI aC h0 b x s.heap.size) (cwV 1 hall (zgV zw_225 zw_227 zw_228 zw_802 g_X11_slotAt rfl) rfl rfl rfl (by decide +kernel) ⟨Nat.le_of_ble_eq_true rfl, Nat.le_of_ble_eq_true rfl⟩) (zPre_V (As := [.int x]) hK hP hD [0, 1] rfl (by decide +kernel) (ci := 10) (q0 := 0) rfl rfl) rfl rfl hl.1 rfl (lv_room (Nat.le_of_ble_eq_true rfl)) dX11_change_2 ⟨Nat.le_of_ble_eq_true rfl, Nat.le_of_ble_eq_true rfl⟩) (fun r20147 L20148 hw hS' => ?_)
  clear hS
  have hS := hS'
  clear hS'
  rcases r20147 with _ | q20149
  · have z20150 : ¬ zok x = true := zslot_n hw
    clear hw
    exact absurd hk z20150
  · have z20150 : zok x = true := zslot_s hw
    clear hw
    show W p l e _ s m _ below meth c _ _ _ _ QQ (F0 m 5 ls [.ref q20149])
    refine lv_astore (lv' := [(5, .ref q20149), (0, .ref h0), (1, .int 10), (2, .int x), (3, .int v), (4, .int z)]) hx hb dX11_change_5 hl (by decide) rfl (fun ls20151 hl' => ?_)
    clear hl
    have hl : lv_has ls20151 9 [(5, .ref q20149), (0, .ref h0), (1, .int 10), (2, .int x), (3, .int v), (4, .int z)] := hl'
    clear hl'
    refine lv_aload_n hx hb dX11_change_7 rfl (lv_at hl 1 rfl) ?_
    refine lv_iload hx hb dX11_change_8 (lv_at hl 5 rfl) ?_
    refine zro_q hS hA (va_runV (As := [.int z]) (rest := []) ⟨hx, hb, hml, hown, hall⟩ (c_X11_slotAt l dC dI aC h0 b z s.heap.size) (cwV 1 hall (zgV zw_225 zw_227 zw_228 zw_802 g_X11_slotAt rfl) rfl rfl rfl (by decide +kernel) ⟨Nat.le_of_ble_eq_true rfl, Nat.le_of_ble_eq_true rfl⟩) (zPre_V (As := [.int z]) hK hP hD [0, 1] rfl (by decide +kernel) (ci := 10) (q0 := 0) rfl rfl) rfl rfl hl.1 rfl (lv_room (Nat.le_of_ble_eq_true rfl)) dX11_change_10 ⟨Nat.le_of_ble_eq_true rfl, Nat.le_of_ble_eq_true rfl⟩) (fun r20152 L20153 hw hS' => ?_)
    clear hS
    have hS := hS'
    clear hS'
    obtain rfl : r20152 = some a := hw.trans hxm
    try clear hw
    refine lv_astore (lv' := [(6, .ref a), (5, .ref q20149), (0, .ref h0), (1, .int 10), (2, .int x), (3, .int v), (4, .int z)]) hx hb dX11_change_13 hl (by decide) rfl (fun ls20154 hl' => ?_)
    clear hl
    have hl : lv_has ls20154 9 [(6, .ref a), (5, .ref q20149), (0, .ref h0), (1, .int 10), (2, .int x), (3, .int v), (4, .int z)] := hl'
    clear hl'
    show W p l e _ s m _ below meth c _ _ _ _ QQ (F0 m 15 ls20154 [])
    refine lv_aload hx hb dX11_change_15 (lv_at hl 1 rfl) ?_
    refine lv_ifnull hx hb dX11_change_17 ?_
    refine lv_aload hx hb dX11_change_20 (lv_at hl 0 rfl) ?_
    refine lv_ifnonnull (tgt := 27) hx hb dX11_change_22 (by decide) ?_
    refine lv_aload_n hx hb dX11_change_27 rfl (lv_at hl 2 rfl) ?_
    show W p l e _ s m _ below meth c _ _ _ _ QQ (F0 m 28 ls20154 [.ref h0])
    refine va_get (D := (dC, dI)) (ci := 10) (v := .ref (b + 73)) (C := RX11) (T := TX11) (N := 13) hx hb hall zx_11 hown hK.1 hP 0 rfl rfl 1 (by decide) (hall _ zw_188) (fun _ h9 => h9) rfl dX11_change_28 ?_
    refine zrw_v (k := 0) (wr := [(h0, .inr (10, [.ref (b + 0), .ref (b + 73), .ref (b + 75), .ref (b + 76), .ref (b + 80), .ref (b + 81), .ref (b + 88), .ref (b + 95), .ref (b + 100), .ref (b + 106), .int 0, .ref (b + 107), .int 0])), (b + 0, .inl (aC 3, 12, .inr (.inr (.inr (.inr (zrefs (fun i => b + (1 + 6 * i)) 12)))))), (b + 81, .inr (8, [.ref (b + 73), .ref (b + 75), .ref (b + 76), .ref (b + 80), .ref (b + 82), .ref (b + 83), .int 0, .int 0])), (b + 75, .inr (1, [.ref (b + 73)])), (b + 80, .inr (2, [.ref (b + 73), .ref (b + 75), .ref (b + 76)])), (a, .inr (5, [.int 0, .int 0, .int 0, .int 0, .int 0, .int 0, .int 0, .ref (a + 1), .ref (a + 2), .ref (a + 3), .ref (a + 4), .ref (a + 5)])), (a + 1, .inl (aC 0, 48, .inl (fun _ => 0))), (a + 2, .inl (aC 0, 327, .inl (fun _ => 0))), (a + 3, .inl (aC 0, 327, .inl (fun _ => 0)))]) (wc := [(b + 73, .inr (3, [.ref (b + 74), .int 2048, .int 0])), (b + 74, .inl (aC 0, 131072, .inl (fun _ => 0)))]) (w1 := fun _ => [((b + 73), .inr (3, [.ref (b + 74), .int 2048, .int 0])), ((b + 74), .inl (aC 0, 131072, .inl (fun _ => 0)))]) hP hD hS hA [5, 6] [0, 1, 2, 3, 4, 7, 8, 9, 10] rfl rfl (by decide +kernel) (by decide +kernel) (va_runV (As := []) (rest := []) ⟨hx, hb, hml, hown, hall⟩ (c_X4_empty l dC dI aC (b + 73) (b + 74) 2048 0 (fun _ => 0) s.heap.size) (cwV 0 hall (zgV zw_229 zw_70 zw_71 zw_788 g_X4_empty rfl) rfl rfl rfl (by decide +kernel) ⟨Nat.le_of_ble_eq_true rfl, Nat.le_of_ble_eq_true rfl⟩) (zPre_V (As := []) hK hP hD [5, 6] rfl (by decide +kernel) (ci := 3) (q0 := 0) rfl rfl) rfl rfl hl.1 rfl (lv_room (Nat.le_of_ble_eq_true rfl)) dX11_change_31 ⟨Nat.le_of_ble_eq_true rfl, Nat.le_of_ble_eq_true rfl⟩) (fun u H20156 L20157 hw hz hk hP' hD' hS' => ?_)
    try rw [hz0] at hP'
    try rw [hz0] at hD'
    rw [hz0] at hz
    replace hz0 : H20156.size = s.heap.size + 0 := by omega
    clear hz
    clear hP hD hS hk
    have hP : va_P (dC, dI) vwCl [(h0, .inr (10, [.ref (b + 0), .ref (b + 73), .ref (b + 75), .ref (b + 76), .ref (b + 80), .ref (b + 81), .ref (b + 88), .ref (b + 95), .ref (b + 100), .ref (b + 106), .int 0, .ref (b + 107), .int 0])), (b + 0, .inl (aC 3, 12, .inr (.inr (.inr (.inr (zrefs (fun i => b + (1 + 6 * i)) 12)))))), (b + 81, .inr (8, [.ref (b + 73), .ref (b + 75), .ref (b + 76), .ref (b + 80), .ref (b + 82), .ref (b + 83), .int 0, .int 0])), (b + 75, .inr (1, [.ref (b + 73)])), (b + 80, .inr (2, [.ref (b + 73), .ref (b + 75), .ref (b + 76)])), (a, .inr (5, [.int 0, .int 0, .int 0, .int 0, .int 0, .int 0, .int 0, .ref (a + 1), .ref (a + 2), .ref (a + 3), .ref (a + 4), .ref (a + 5)])), (a + 1, .inl (aC 0, 48, .inl (fun _ => 0))), (a + 2, .inl (aC 0, 327, .inl (fun _ => 0))), (a + 3, .inl (aC 0, 327, .inl (fun _ => 0))), ((b + 73), .inr (3, [.ref (b + 74), .int 2048, .int 0])), ((b + 74), .inl (aC 0, 131072, .inl (fun _ => 0)))] H20156 := hP'
    have hD : va_D A [(h0, .inr (10, [.ref (b + 0), .ref (b + 73), .ref (b + 75), .ref (b + 76), .ref (b + 80), .ref (b + 81), .ref (b + 88), .ref (b + 95), .ref (b + 100), .ref (b + 106), .int 0, .ref (b + 107), .int 0])), (b + 0, .inl (aC 3, 12, .inr (.inr (.inr (.inr (zrefs (fun i => b + (1 + 6 * i)) 12)))))), (b + 81, .inr (8, [.ref (b + 73), .ref (b + 75), .ref (b + 76), .ref (b + 80), .ref (b + 82), .ref (b + 83), .int 0, .int 0])), (b + 75, .inr (1, [.ref (b + 73)])), (b + 80, .inr (2, [.ref (b + 73), .ref (b + 75), .ref (b + 76)])), (a, .inr (5, [.int 0, .int 0, .int 0, .int 0, .int 0, .int 0, .int 0, .ref (a + 1), .ref (a + 2), .ref (a + 3), .ref (a + 4), .ref (a + 5)])), (a + 1, .inl (aC 0, 48, .inl (fun _ => 0))), (a + 2, .inl (aC 0, 327, .inl (fun _ => 0))), (a + 3, .inl (aC 0, 327, .inl (fun _ => 0))), ((b + 73), .inr (3, [.ref (b + 74), .int 2048, .int 0])), ((b + 74), .inl (aC 0, 131072, .inl (fun _ => 0)))] := hD'
    have hS : va_S A s.heap H20156 L20157 := hS'
    clear hP' hD' hS'
    replace hP : va_P (dC, dI) vwCl [(h0, .inr (10, [.ref (b + 0), .ref (b + 73), .ref (b + 75), .ref (b + 76), .ref (b + 80), .ref (b + 81), .ref (b + 88), .ref (b + 95), .ref (b + 100), .ref (b + 106), .int 0, .ref (b + 107), .int 0])), (b + 0, .inl (aC 3, 12, .inr (.inr (.inr (.inr (zrefs (fun i => b + (1 + 6 * i)) 12)))))), (b + 81, .inr (8, [.ref (b + 73), .ref (b + 75), .ref (b + 76), .ref (b + 80), .ref (b + 82), .ref (b + 83), .int 0, .int 0])), (b + 75, .inr (1, [.ref (b + 73)])), (b + 80, .inr (2, [.ref (b + 73), .ref (b + 75), .ref (b + 76)])), (a, .inr (5, [.int 0, .int 0, .int 0, .int 0, .int 0, .int 0, .int 0, .ref (a + 1), .ref (a + 2), .ref (a + 3), .ref (a + 4), .ref (a + 5)])), (a + 1, .inl (aC 0, 48, .inl (fun _ => 0))), (a + 2, .inl (aC 0, 327, .inl (fun _ => 0))), (a + 3, .inl (aC 0, 327, .inl (fun _ => 0))), (b + 73, .inr (3, [.ref (b + 74), .int (nI 2048), .int 0])), (b + 74, .inl (aC 0, 131072, .inl (fun _ => 0)))] H20156 := hP
    replace hD : va_D A [(h0, .inr (10, [.ref (b + 0), .ref (b + 73), .ref (b + 75), .ref (b + 76), .ref (b + 80), .ref (b + 81), .ref (b + 88), .ref (b + 95), .ref (b + 100), .ref (b + 106), .int 0, .ref (b + 107), .int 0])), (b + 0, .inl (aC 3, 12, .inr (.inr (.inr (.inr (zrefs (fun i => b + (1 + 6 * i)) 12)))))), (b + 81, .inr (8, [.ref (b + 73), .ref (b + 75), .ref (b + 76), .ref (b + 80), .ref (b + 82), .ref (b + 83), .int 0, .int 0])), (b + 75, .inr (1, [.ref (b + 73)])), (b + 80, .inr (2, [.ref (b + 73), .ref (b + 75), .ref (b + 76)])), (a, .inr (5, [.int 0, .int 0, .int 0, .int 0, .int 0, .int 0, .int 0, .ref (a + 1), .ref (a + 2), .ref (a + 3), .ref (a + 4), .ref (a + 5)])), (a + 1, .inl (aC 0, 48, .inl (fun _ => 0))), (a + 2, .inl (aC 0, 327, .inl (fun _ => 0))), (a + 3, .inl (aC 0, 327, .inl (fun _ => 0))), (b + 73, .inr (3, [.ref (b + 74), .int (nI 2048), .int 0])), (b + 74, .inl (aC 0, 131072, .inl (fun _ => 0)))] := hD
    refine lv_iload_n hx hb dX11_change_34 rfl (lv_at hl 3 rfl) ?_
    refine lv_bipush (v := 10) hx hb dX11_change_35 (by decide) ?_
    refine lv_icmp_ne (tgt := 59) hx hb dX11_change_37 (by decide) (fun c_37_b20158 => absurd (by decide) c_37_b20158) (fun _ => ?_)
    show W p l e _ s m _ below meth c _ _ _ _ QQ (F0 m 40 ls20154 [])
    refine lv_aload_n hx hb dX11_change_40 rfl (lv_at hl 2 rfl) ?_
    refine lv_aload_n hx hb dX11_change_41 rfl (lv_at hl 2 rfl) ?_
    refine va_get (D := (dC, dI)) (ci := 10) (v := .ref (b + 81)) (C := RX11) (T := TX11) (N := 13) hx hb hall zx_11 hown hK.1 hP 0 rfl rfl 5 (by decide) (hall _ zw_192) (fun _ h9 => h9) rfl dX11_change_42 ?_
    refine lv_iload_n hx hb dX11_change_45 rfl (lv_at hl 5 rfl) ?_
    refine lv_i2l (v := v.toInt64) hx hb dX11_change_46 rfl ?_
    show W p l e _ s m _ below meth c _ _ _ _ QQ (F0 m 47 ls20154 [.long v.toInt64, .ref (b + 81), .ref h0])
    refine zro_i hS hA (va_runS (As := [.long v.toInt64]) (rest := [.ref (b + 81), .ref h0]) ⟨hx, hb, hml, hown, hall⟩ (c_X1_rest l dC dI aC v.toInt64 H20156.size) (va_cwS 1 hall (zgS zw_269 zw_271 zw_782 g_X1_rest) rfl rfl rfl (by decide +kernel) ⟨Nat.le_of_ble_eq_true rfl, Nat.le_of_ble_eq_true rfl⟩) (zPre_S (As := [.long v.toInt64]) hK hP hD [] rfl (by decide +kernel)) rfl rfl hl.1 rfl (lv_room (Nat.le_of_ble_eq_true rfl)) dX11_change_47 ⟨Nat.le_of_ble_eq_true rfl, Nat.le_of_ble_eq_true rfl⟩) (fun r20159 L20160 hw hS' => ?_)
    clear hS
    have hS := hS'
    clear hS'
    clear hw
    refine zrw_i (f := fun _ => False) (B := fun _ _ => True) (k := 0) (wr := [(h0, .inr (10, [.ref (b + 0), .ref (b + 73), .ref (b + 75), .ref (b + 76), .ref (b + 80), .ref (b + 81), .ref (b + 88), .ref (b + 95), .ref (b + 100), .ref (b + 106), .int 0, .ref (b + 107), .int 0])), (b + 0, .inl (aC 3, 12, .inr (.inr (.inr (.inr (zrefs (fun i => b + (1 + 6 * i)) 12)))))), (b + 75, .inr (1, [.ref (b + 73)])), (b + 80, .inr (2, [.ref (b + 73), .ref (b + 75), .ref (b + 76)])), (a, .inr (5, [.int 0, .int 0, .int 0, .int 0, .int 0, .int 0, .int 0, .ref (a + 1), .ref (a + 2), .ref (a + 3), .ref (a + 4), .ref (a + 5)])), (a + 1, .inl (aC 0, 48, .inl (fun _ => 0))), (a + 2, .inl (aC 0, 327, .inl (fun _ => 0))), (a + 3, .inl (aC 0, 327, .inl (fun _ => 0)))]) (wc := [(b + 81, .inr (8, [.ref (b + 73), .ref (b + 75), .ref (b + 76), .ref (b + 80), .ref (b + 82), .ref (b + 83), .int 0, .int 0])), (b + 73, .inr (3, [.ref (b + 74), .int (nI 2048), .int 0])), (b + 74, .inl (aC 0, 131072, .inl (fun _ => 0)))]) (w1 := fun _ => [(b + 81, .inr (8, [.ref (b + 73), .ref (b + 75), .ref (b + 76), .ref (b + 80), .ref (b + 82), .ref (b + 83), .int 0, .int 0])), (b + 73, .inr (3, [.ref (b + 74), .int (nI 2153), .int 0])), (b + 74, .inl (aC 0, 131072, .inl (zA2 r20159)))]) hP hD hS hA [2, 9, 10] [0, 1, 3, 4, 5, 6, 7, 8] rfl rfl (by decide +kernel) (by decide +kernel) (va_runV (As := [.int r20159]) (rest := [.ref h0]) ⟨hx, hb, hml, hown, hall⟩ (c_X9_ofNumber l dC dI aC b r20159 H20156.size) (cwV 1 hall (zgV zw_239 zw_241 zw_242 zw_798 g_X9_ofNumber rfl) rfl rfl rfl (by decide +kernel) ⟨Nat.le_of_ble_eq_true rfl, Nat.le_of_ble_eq_true rfl⟩) (zPre_V (As := [.int r20159]) hK hP hD [2, 9, 10] rfl (by decide +kernel) (ci := 8) (q0 := 0) rfl rfl) rfl rfl hl.1 rfl (lv_room (Nat.le_of_ble_eq_true rfl)) dX11_change_50 ⟨Nat.le_of_ble_eq_true rfl, Nat.le_of_ble_eq_true rfl⟩) (fun r20161 u H20162 L20163 hw hz hk hP' hD' hS' => ?_)
    try rw [hz0] at hP'
    try rw [hz0] at hD'
    rw [hz0] at hz
    replace hz0 : H20162.size = s.heap.size + 0 := by omega
    clear hz
    clear hP hD hS hk
    have hP : va_P (dC, dI) vwCl [(h0, .inr (10, [.ref (b + 0), .ref (b + 73), .ref (b + 75), .ref (b + 76), .ref (b + 80), .ref (b + 81), .ref (b + 88), .ref (b + 95), .ref (b + 100), .ref (b + 106), .int 0, .ref (b + 107), .int 0])), (b + 0, .inl (aC 3, 12, .inr (.inr (.inr (.inr (zrefs (fun i => b + (1 + 6 * i)) 12)))))), (b + 75, .inr (1, [.ref (b + 73)])), (b + 80, .inr (2, [.ref (b + 73), .ref (b + 75), .ref (b + 76)])), (a, .inr (5, [.int 0, .int 0, .int 0, .int 0, .int 0, .int 0, .int 0, .ref (a + 1), .ref (a + 2), .ref (a + 3), .ref (a + 4), .ref (a + 5)])), (a + 1, .inl (aC 0, 48, .inl (fun _ => 0))), (a + 2, .inl (aC 0, 327, .inl (fun _ => 0))), (a + 3, .inl (aC 0, 327, .inl (fun _ => 0))), (b + 81, .inr (8, [.ref (b + 73), .ref (b + 75), .ref (b + 76), .ref (b + 80), .ref (b + 82), .ref (b + 83), .int 0, .int 0])), (b + 73, .inr (3, [.ref (b + 74), .int (nI 2153), .int 0])), (b + 74, .inl (aC 0, 131072, .inl (zA2 r20159)))] H20162 := hP'
    have hD : va_D A [(h0, .inr (10, [.ref (b + 0), .ref (b + 73), .ref (b + 75), .ref (b + 76), .ref (b + 80), .ref (b + 81), .ref (b + 88), .ref (b + 95), .ref (b + 100), .ref (b + 106), .int 0, .ref (b + 107), .int 0])), (b + 0, .inl (aC 3, 12, .inr (.inr (.inr (.inr (zrefs (fun i => b + (1 + 6 * i)) 12)))))), (b + 75, .inr (1, [.ref (b + 73)])), (b + 80, .inr (2, [.ref (b + 73), .ref (b + 75), .ref (b + 76)])), (a, .inr (5, [.int 0, .int 0, .int 0, .int 0, .int 0, .int 0, .int 0, .ref (a + 1), .ref (a + 2), .ref (a + 3), .ref (a + 4), .ref (a + 5)])), (a + 1, .inl (aC 0, 48, .inl (fun _ => 0))), (a + 2, .inl (aC 0, 327, .inl (fun _ => 0))), (a + 3, .inl (aC 0, 327, .inl (fun _ => 0))), (b + 81, .inr (8, [.ref (b + 73), .ref (b + 75), .ref (b + 76), .ref (b + 80), .ref (b + 82), .ref (b + 83), .int 0, .int 0])), (b + 73, .inr (3, [.ref (b + 74), .int (nI 2153), .int 0])), (b + 74, .inl (aC 0, 131072, .inl (zA2 r20159)))] := hD'
    have hS : va_S A s.heap H20162 L20163 := hS'
    clear hP' hD' hS'
    clear L20160 H20156
    obtain rfl : r20161 = 2048 := hw
    try clear hw
    refine lv_aload hx hb dX11_change_53 (lv_at hl 0 rfl) ?_
    refine zrw_i (f := fun _ => False) (B := fun _ _ => True) (k := 0) (wr := [(b + 0, .inl (aC 3, 12, .inr (.inr (.inr (.inr (zrefs (fun i => b + (1 + 6 * i)) 12))))))]) (wc := [(h0, .inr (10, [.ref (b + 0), .ref (b + 73), .ref (b + 75), .ref (b + 76), .ref (b + 80), .ref (b + 81), .ref (b + 88), .ref (b + 95), .ref (b + 100), .ref (b + 106), .int 0, .ref (b + 107), .int 0])), (b + 81, .inr (8, [.ref (b + 73), .ref (b + 75), .ref (b + 76), .ref (b + 80), .ref (b + 82), .ref (b + 83), .int 0, .int 0])), (b + 75, .inr (1, [.ref (b + 73)])), (b + 80, .inr (2, [.ref (b + 73), .ref (b + 75), .ref (b + 76)])), (b + 73, .inr (3, [.ref (b + 74), .int (nI 2153), .int 0])), (b + 74, .inl (aC 0, 131072, .inl (zA2 r20159))), (a, .inr (5, [.int 0, .int 0, .int 0, .int 0, .int 0, .int 0, .int 0, .ref (a + 1), .ref (a + 2), .ref (a + 3), .ref (a + 4), .ref (a + 5)])), (a + 1, .inl (aC 0, 48, .inl (fun _ => 0))), (a + 2, .inl (aC 0, 327, .inl (fun _ => 0))), (a + 3, .inl (aC 0, 327, .inl (fun _ => 0)))]) (w1 := fun _ => []) hP hD hS hA [0, 8, 2, 3, 9, 10, 4, 5, 6, 7] [1] rfl rfl (by decide +kernel) (by decide +kernel) (va_runV (As := [.int 2048, .ref a]) (rest := []) ⟨hx, hb, hml, hown, hall⟩ (c_X11_keep l dC dI aC h0 b a r20159 H20162.size) (cwV 2 hall (zgV zw_265 zw_267 zw_268 zw_802 g_X11_keep rfl) rfl rfl rfl (by decide +kernel) ⟨Nat.le_of_ble_eq_true rfl, Nat.le_of_ble_eq_true rfl⟩) (zPre_V (As := [.int 2048, .ref a]) hK hP hD [0, 8, 2, 3, 9, 10, 4, 5, 6, 7] rfl (by decide +kernel) (ci := 10) (q0 := 0) rfl rfl) rfl rfl hl.1 rfl (lv_room (Nat.le_of_ble_eq_true rfl)) dX11_change_55 ⟨Nat.le_of_ble_eq_true rfl, Nat.le_of_ble_eq_true rfl⟩) (fun r20164 u H20165 L20166 hw hz hk hP' hD' hS' => ?_)
    try rw [hz0] at hP'
    try rw [hz0] at hD'
    rw [hz0] at hz
    replace hz0 : H20165.size = s.heap.size + 0 := by omega
    clear hz
    clear hP hD hS hk
    have hP : va_P (dC, dI) vwCl [(b + 0, .inl (aC 3, 12, .inr (.inr (.inr (.inr (zrefs (fun i => b + (1 + 6 * i)) 12))))))] H20165 := hP'
    have hD : va_D A [(b + 0, .inl (aC 3, 12, .inr (.inr (.inr (.inr (zrefs (fun i => b + (1 + 6 * i)) 12))))))] := hD'
    have hS : va_S A s.heap H20165 L20166 := hS'
    clear hP' hD' hS'
    clear L20163 H20162
    obtain rfl : r20164 = 1 := hw
    try clear hw
    refine W.widen (k := 0) (n := 0) (Nat.le_of_ble_eq_true rfl) (Nat.le_of_ble_eq_true rfl) ?_
    rw [← hQ, hAe]
    have hP := zsubP (wc := []) hP [] rfl
    have hD := hD.sub (ws' := []) [] (by decide) rfl
    exact W.iret (v := 1) hx hb hr (fun zt ht hW => ⟨⟨1, (), rfl, rfl, by rw [ht]; exact hP, hD, by rw [ht]; exact hz0⟩, hS.F ht⟩) hS.2.2 dX11_change_58
