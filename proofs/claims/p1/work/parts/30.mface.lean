theorem dX16_isSlot_0 : decode cX16_isSlot 0 = .ok (.iload_n 0, 1) := by decide +kernel
theorem dX16_isSlot_1 : decode cX16_isSlot 1 = .ok (.ifCond .lt 13, 3) := by decide +kernel
theorem dX16_isSlot_14 : decode cX16_isSlot 14 = .ok (.iconst 0, 1) := by decide +kernel
theorem dX16_isSlot_15 : decode cX16_isSlot 15 = .ok (.ireturn, 1) := by decide +kernel
theorem dX16_isSlot_4 : decode cX16_isSlot 4 = .ok (.iload_n 0, 1) := by decide +kernel
theorem dX16_isSlot_5 : decode cX16_isSlot 5 = .ok (.bipush 12, 2) := by decide +kernel
theorem dX16_isSlot_7 : decode cX16_isSlot 7 = .ok (.if_icmp .ge 7, 3) := by decide +kernel
theorem dX16_isSlot_10 : decode cX16_isSlot 10 = .ok (.iconst 1, 1) := by decide +kernel
theorem dX16_isSlot_11 : decode cX16_isSlot 11 = .ok (.goto 4, 3) := by decide +kernel
theorem dX16_isPolynomial_0 : decode cX16_isPolynomial 0 = .ok (.aload_n 0, 1) := by decide +kernel
theorem dX16_isPolynomial_1 : decode cX16_isPolynomial 1 = .ok (.getfield 202, 3) := by decide +kernel
theorem dX16_isPolynomial_4 : decode cX16_isPolynomial 4 = .ok (.iconst 1, 1) := by decide +kernel
theorem dX16_isPolynomial_5 : decode cX16_isPolynomial 5 = .ok (.if_icmp .ne 17, 3) := by decide +kernel
theorem dX16_isPolynomial_22 : decode cX16_isPolynomial 22 = .ok (.iconst 0, 1) := by decide +kernel
theorem dX16_isPolynomial_23 : decode cX16_isPolynomial 23 = .ok (.ireturn, 1) := by decide +kernel
theorem dX16_begin_0 : decode cX16_begin 0 = .ok (.aload_n 0, 1) := by decide +kernel
theorem dX16_begin_1 : decode cX16_begin 1 = .ok (.iconst 0, 1) := by decide +kernel
theorem dX16_begin_2 : decode cX16_begin 2 = .ok (.putfield 21, 3) := by decide +kernel
theorem dX16_begin_5 : decode cX16_begin 5 = .ok (.aload_n 0, 1) := by decide +kernel
theorem dX16_begin_6 : decode cX16_begin 6 = .ok (.iconst 0, 1) := by decide +kernel
theorem dX16_begin_7 : decode cX16_begin 7 = .ok (.putfield 90, 3) := by decide +kernel
theorem dX16_begin_10 : decode cX16_begin 10 = .ok (.aload_n 0, 1) := by decide +kernel
theorem dX16_begin_11 : decode cX16_begin 11 = .ok (.iconst 0, 1) := by decide +kernel
theorem dX16_begin_12 : decode cX16_begin 12 = .ok (.putfield 375, 3) := by decide +kernel
theorem dX16_begin_15 : decode cX16_begin 15 = .ok (.return_, 1) := by decide +kernel
theorem dX16_write_0 : decode cX16_write 0 = .ok (.iload_n 1, 1) := by decide +kernel
theorem dX16_write_1 : decode cX16_write 1 = .ok (.invokestatic 551, 3) := by decide +kernel
theorem dX16_write_4 : decode cX16_write 4 = .ok (.ifCond .ne 5, 3) := by decide +kernel
theorem dX16_write_7 : decode cX16_write 7 = .ok (.iconst (-1), 1) := by decide +kernel
theorem dX16_write_8 : decode cX16_write 8 = .ok (.ireturn, 1) := by decide +kernel
theorem dX16_write_9 : decode cX16_write 9 = .ok (.aload_n 0, 1) := by decide +kernel
theorem dX16_write_10 : decode cX16_write 10 = .ok (.getfield 450, 3) := by decide +kernel
theorem dX16_write_13 : decode cX16_write 13 = .ok (.iload_n 1, 1) := by decide +kernel
theorem dX16_write_14 : decode cX16_write 14 = .ok (.aaload, 1) := by decide +kernel
theorem dX16_write_15 : decode cX16_write 15 = .ok (.astore_n 2, 1) := by decide +kernel
theorem dX16_write_16 : decode cX16_write 16 = .ok (.aload_n 2, 1) := by decide +kernel
theorem dX16_write_17 : decode cX16_write 17 = .ok (.getfield 202, 3) := by decide +kernel
theorem dX16_write_20 : decode cX16_write 20 = .ok (.iconst 1, 1) := by decide +kernel
theorem dX16_write_21 : decode cX16_write 21 = .ok (.if_icmp .eq 14, 3) := by decide +kernel
theorem dX16_write_24 : decode cX16_write 24 = .ok (.aload_n 2, 1) := by decide +kernel
theorem dX16_write_25 : decode cX16_write 25 = .ok (.getfield 202, 3) := by decide +kernel
theorem dX16_write_28 : decode cX16_write 28 = .ok (.iconst 2, 1) := by decide +kernel
theorem dX16_write_29 : decode cX16_write 29 = .ok (.if_icmp .eq 6, 3) := by decide +kernel
theorem dX16_write_32 : decode cX16_write 32 = .ok (.bipush (-3), 2) := by decide +kernel
theorem dX16_write_34 : decode cX16_write 34 = .ok (.ireturn, 1) := by decide +kernel
theorem dX16_kind_0 : decode cX16_kind 0 = .ok (.iload_n 1, 1) := by decide +kernel
theorem dX16_kind_1 : decode cX16_kind 1 = .ok (.invokestatic 551, 3) := by decide +kernel
theorem dX16_kind_4 : decode cX16_kind 4 = .ok (.ifCond .eq 15, 3) := by decide +kernel
theorem dX16_kind_19 : decode cX16_kind 19 = .ok (.iconst (-1), 1) := by decide +kernel
theorem dX16_kind_20 : decode cX16_kind 20 = .ok (.ireturn, 1) := by decide +kernel
theorem dX16_kind_7 : decode cX16_kind 7 = .ok (.aload_n 0, 1) := by decide +kernel
theorem dX16_kind_8 : decode cX16_kind 8 = .ok (.getfield 450, 3) := by decide +kernel
theorem dX16_kind_11 : decode cX16_kind 11 = .ok (.iload_n 1, 1) := by decide +kernel
theorem dX16_kind_12 : decode cX16_kind 12 = .ok (.aaload, 1) := by decide +kernel
theorem dX16_kind_13 : decode cX16_kind 13 = .ok (.getfield 202, 3) := by decide +kernel
theorem dX16_kind_16 : decode cX16_kind 16 = .ok (.goto 4, 3) := by decide +kernel
theorem dX16_degree__0 : decode cX16_degree_ 0 = .ok (.iload_n 1, 1) := by decide +kernel
theorem dX16_degree__1 : decode cX16_degree_ 1 = .ok (.invokestatic 551, 3) := by decide +kernel
theorem dX16_degree__4 : decode cX16_degree_ 4 = .ok (.ifCond .ne 5, 3) := by decide +kernel
theorem dX16_degree__7 : decode cX16_degree_ 7 = .ok (.iconst (-1), 1) := by decide +kernel
theorem dX16_degree__8 : decode cX16_degree_ 8 = .ok (.ireturn, 1) := by decide +kernel
theorem dX16_degree__9 : decode cX16_degree_ 9 = .ok (.aload_n 0, 1) := by decide +kernel
theorem dX16_degree__10 : decode cX16_degree_ 10 = .ok (.getfield 450, 3) := by decide +kernel
theorem dX16_degree__13 : decode cX16_degree_ 13 = .ok (.iload_n 1, 1) := by decide +kernel
theorem dX16_degree__14 : decode cX16_degree_ 14 = .ok (.aaload, 1) := by decide +kernel
theorem dX16_degree__15 : decode cX16_degree_ 15 = .ok (.astore 4, 2) := by decide +kernel
theorem dX16_degree__17 : decode cX16_degree_ 17 = .ok (.aload 4, 2) := by decide +kernel
theorem dX16_degree__19 : decode cX16_degree_ 19 = .ok (.getfield 202, 3) := by decide +kernel
theorem dX16_degree__22 : decode cX16_degree_ 22 = .ok (.iconst 1, 1) := by decide +kernel
theorem dX16_degree__23 : decode cX16_degree_ 23 = .ok (.if_icmp .lt 12, 3) := by decide +kernel
theorem dX16_degree__35 : decode cX16_degree_ 35 = .ok (.bipush (-3), 2) := by decide +kernel
theorem dX16_degree__37 : decode cX16_degree_ 37 = .ok (.ireturn, 1) := by decide +kernel
theorem dX16_number__0 : decode cX16_number_ 0 = .ok (.iload_n 1, 1) := by decide +kernel
theorem dX16_number__1 : decode cX16_number_ 1 = .ok (.invokestatic 551, 3) := by decide +kernel
theorem dX16_number__4 : decode cX16_number_ 4 = .ok (.ifCond .ne 5, 3) := by decide +kernel
theorem dX16_number__7 : decode cX16_number_ 7 = .ok (.iconst (-1), 1) := by decide +kernel
theorem dX16_number__8 : decode cX16_number_ 8 = .ok (.ireturn, 1) := by decide +kernel
theorem dX16_number__9 : decode cX16_number_ 9 = .ok (.aload_n 0, 1) := by decide +kernel
theorem dX16_number__10 : decode cX16_number_ 10 = .ok (.getfield 450, 3) := by decide +kernel
theorem dX16_number__13 : decode cX16_number_ 13 = .ok (.iload_n 1, 1) := by decide +kernel
theorem dX16_number__14 : decode cX16_number_ 14 = .ok (.aaload, 1) := by decide +kernel
theorem dX16_number__15 : decode cX16_number_ 15 = .ok (.astore 5, 2) := by decide +kernel
theorem dX16_number__17 : decode cX16_number_ 17 = .ok (.aload 5, 2) := by decide +kernel
theorem dX16_number__19 : decode cX16_number_ 19 = .ok (.getfield 202, 3) := by decide +kernel
theorem dX16_number__22 : decode cX16_number_ 22 = .ok (.iconst 3, 1) := by decide +kernel
theorem dX16_number__23 : decode cX16_number_ 23 = .ok (.if_icmp .eq 12, 3) := by decide +kernel
theorem dX16_number__26 : decode cX16_number_ 26 = .ok (.aload 5, 2) := by decide +kernel
theorem dX16_number__28 : decode cX16_number_ 28 = .ok (.getfield 202, 3) := by decide +kernel
theorem dX16_number__31 : decode cX16_number_ 31 = .ok (.iconst 4, 1) := by decide +kernel
theorem dX16_number__32 : decode cX16_number_ 32 = .ok (.if_icmp .ne 7, 3) := by decide +kernel
theorem dX16_number__39 : decode cX16_number_ 39 = .ok (.iconst 0, 1) := by decide +kernel
theorem dX16_number__40 : decode cX16_number_ 40 = .ok (.istore 6, 2) := by decide +kernel
theorem dX16_number__42 : decode cX16_number_ 42 = .ok (.aload 5, 2) := by decide +kernel
theorem dX16_number__44 : decode cX16_number_ 44 = .ok (.getfield 202, 3) := by decide +kernel
theorem dX16_number__47 : decode cX16_number_ 47 = .ok (.ifCond .eq 31, 3) := by decide +kernel
theorem dX16_number__78 : decode cX16_number_ 78 = .ok (.bipush (-3), 2) := by decide +kernel
theorem dX16_number__80 : decode cX16_number_ 80 = .ok (.ireturn, 1) := by decide +kernel
theorem dX16_told_0 : decode cX16_told 0 = .ok (.iload_n 1, 1) := by decide +kernel
theorem dX16_told_1 : decode cX16_told 1 = .ok (.invokestatic 551, 3) := by decide +kernel
theorem dX16_told_4 : decode cX16_told 4 = .ok (.ifCond .ne 5, 3) := by decide +kernel
theorem dX16_told_7 : decode cX16_told 7 = .ok (.iconst (-1), 1) := by decide +kernel
theorem dX16_told_8 : decode cX16_told 8 = .ok (.ireturn, 1) := by decide +kernel
theorem dX16_told_9 : decode cX16_told 9 = .ok (.aload_n 0, 1) := by decide +kernel
theorem dX16_told_10 : decode cX16_told 10 = .ok (.getfield 450, 3) := by decide +kernel
theorem dX16_told_13 : decode cX16_told 13 = .ok (.iload_n 1, 1) := by decide +kernel
theorem dX16_told_14 : decode cX16_told 14 = .ok (.aaload, 1) := by decide +kernel
theorem dX16_told_15 : decode cX16_told 15 = .ok (.astore_n 3, 1) := by decide +kernel
theorem dX16_told_16 : decode cX16_told 16 = .ok (.iload_n 2, 1) := by decide +kernel
theorem dX16_told_17 : decode cX16_told 17 = .ok (.iconst 2, 1) := by decide +kernel
theorem dX16_told_18 : decode cX16_told 18 = .ok (.if_icmp .gt 19, 3) := by decide +kernel
theorem dX16_told_37 : decode cX16_told 37 = .ok (.iload_n 2, 1) := by decide +kernel
theorem dX16_told_38 : decode cX16_told 38 = .ok (.iconst 3, 1) := by decide +kernel
theorem dX16_told_39 : decode cX16_told 39 = .ok (.if_icmp .ne 27, 3) := by decide +kernel
theorem dX16_told_66 : decode cX16_told 66 = .ok (.aload_n 3, 1) := by decide +kernel
theorem dX16_told_67 : decode cX16_told 67 = .ok (.getfield 202, 3) := by decide +kernel
theorem dX16_told_70 : decode cX16_told 70 = .ok (.iconst 4, 1) := by decide +kernel
theorem dX16_told_71 : decode cX16_told 71 = .ok (.if_icmp .ne 7, 3) := by decide +kernel
theorem dX16_told_78 : decode cX16_told 78 = .ok (.iconst 0, 1) := by decide +kernel
theorem dX16_told_79 : decode cX16_told 79 = .ok (.istore 4, 2) := by decide +kernel
theorem dX16_told_81 : decode cX16_told 81 = .ok (.iload_n 2, 1) := by decide +kernel
theorem dX16_told_82 : decode cX16_told 82 = .ok (.ifCond .lt 8, 3) := by decide +kernel
theorem dX16_told_90 : decode cX16_told 90 = .ok (.iconst (-1), 1) := by decide +kernel
theorem dX16_told_91 : decode cX16_told 91 = .ok (.ireturn, 1) := by decide +kernel
theorem dX16_told_85 : decode cX16_told 85 = .ok (.iload_n 2, 1) := by decide +kernel
theorem dX16_told_86 : decode cX16_told 86 = .ok (.iconst 4, 1) := by decide +kernel
theorem dX16_told_87 : decode cX16_told 87 = .ok (.if_icmp .le 5, 3) := by decide +kernel
theorem dX16_told_92 : decode cX16_told 92 = .ok (.iload 4, 2) := by decide +kernel
theorem dX16_told_94 : decode cX16_told 94 = .ok (.ifCond .ne 6, 3) := by decide +kernel
theorem dX16_told_97 : decode cX16_told 97 = .ok (.bipush (-3), 2) := by decide +kernel
theorem dX16_told_99 : decode cX16_told 99 = .ok (.ireturn, 1) := by decide +kernel
theorem dX16_told_42 : decode cX16_told 42 = .ok (.aload_n 3, 1) := by decide +kernel
theorem dX16_told_43 : decode cX16_told 43 = .ok (.getfield 202, 3) := by decide +kernel
theorem dX16_told_46 : decode cX16_told 46 = .ok (.iconst 3, 1) := by decide +kernel
theorem dX16_told_47 : decode cX16_told 47 = .ok (.if_icmp .eq 11, 3) := by decide +kernel
theorem dX16_told_50 : decode cX16_told 50 = .ok (.aload_n 3, 1) := by decide +kernel
theorem dX16_told_51 : decode cX16_told 51 = .ok (.getfield 202, 3) := by decide +kernel
theorem dX16_told_54 : decode cX16_told 54 = .ok (.iconst 4, 1) := by decide +kernel
theorem dX16_told_55 : decode cX16_told 55 = .ok (.if_icmp .ne 7, 3) := by decide +kernel
theorem dX16_told_62 : decode cX16_told 62 = .ok (.iconst 0, 1) := by decide +kernel
theorem dX16_told_63 : decode cX16_told 63 = .ok (.goto 16, 3) := by decide +kernel
theorem dX16_told_21 : decode cX16_told 21 = .ok (.aload_n 3, 1) := by decide +kernel
theorem dX16_told_22 : decode cX16_told 22 = .ok (.getfield 202, 3) := by decide +kernel
theorem dX16_told_25 : decode cX16_told 25 = .ok (.iconst 2, 1) := by decide +kernel
theorem dX16_told_26 : decode cX16_told 26 = .ok (.if_icmp .ne 7, 3) := by decide +kernel
theorem dX16_told_33 : decode cX16_told 33 = .ok (.iconst 0, 1) := by decide +kernel
theorem dX16_told_34 : decode cX16_told 34 = .ok (.goto 45, 3) := by decide +kernel
theorem dX16_factorial__0 : decode cX16_factorial_ 0 = .ok (.iload_n 1, 1) := by decide +kernel
theorem dX16_factorial__1 : decode cX16_factorial_ 1 = .ok (.invokestatic 551, 3) := by decide +kernel
theorem dX16_factorial__4 : decode cX16_factorial_ 4 = .ok (.ifCond .ne 5, 3) := by decide +kernel
theorem dX16_factorial__7 : decode cX16_factorial_ 7 = .ok (.iconst (-1), 1) := by decide +kernel
theorem dX16_factorial__8 : decode cX16_factorial_ 8 = .ok (.ireturn, 1) := by decide +kernel
theorem dX16_factorial__9 : decode cX16_factorial_ 9 = .ok (.aload_n 0, 1) := by decide +kernel
theorem dX16_factorial__10 : decode cX16_factorial_ 10 = .ok (.getfield 450, 3) := by decide +kernel
theorem dX16_factorial__13 : decode cX16_factorial_ 13 = .ok (.iload_n 1, 1) := by decide +kernel
theorem dX16_factorial__14 : decode cX16_factorial_ 14 = .ok (.aaload, 1) := by decide +kernel
theorem dX16_factorial__15 : decode cX16_factorial_ 15 = .ok (.astore 4, 2) := by decide +kernel
theorem dX16_factorial__17 : decode cX16_factorial_ 17 = .ok (.aload 4, 2) := by decide +kernel
theorem dX16_factorial__19 : decode cX16_factorial_ 19 = .ok (.getfield 202, 3) := by decide +kernel
theorem dX16_factorial__22 : decode cX16_factorial_ 22 = .ok (.iconst 2, 1) := by decide +kernel
theorem dX16_factorial__23 : decode cX16_factorial_ 23 = .ok (.if_icmp .ne 25, 3) := by decide +kernel
theorem dX16_factorial__48 : decode cX16_factorial_ 48 = .ok (.iconst 0, 1) := by decide +kernel
theorem dX16_factorial__49 : decode cX16_factorial_ 49 = .ok (.ireturn, 1) := by decide +kernel
theorem dX16_work_0 : decode cX16_work 0 = .ok (.iload_n 2, 1) := by decide +kernel
theorem dX16_work_1 : decode cX16_work 1 = .ok (.invokestatic 551, 3) := by decide +kernel
theorem dX16_work_4 : decode cX16_work 4 = .ok (.ifCond .eq 18, 3) := by decide +kernel
theorem dX16_work_22 : decode cX16_work 22 = .ok (.iconst (-1), 1) := by decide +kernel
theorem dX16_work_23 : decode cX16_work 23 = .ok (.ireturn, 1) := by decide +kernel
theorem dX16_work_7 : decode cX16_work 7 = .ok (.iload_n 3, 1) := by decide +kernel
theorem dX16_work_8 : decode cX16_work 8 = .ok (.invokestatic 551, 3) := by decide +kernel
theorem dX16_work_11 : decode cX16_work 11 = .ok (.ifCond .eq 11, 3) := by decide +kernel
theorem dX16_work_14 : decode cX16_work 14 = .ok (.iload 4, 2) := by decide +kernel
theorem dX16_work_16 : decode cX16_work 16 = .ok (.invokestatic 551, 3) := by decide +kernel
theorem dX16_work_19 : decode cX16_work 19 = .ok (.ifCond .ne 5, 3) := by decide +kernel
theorem dX16_work_24 : decode cX16_work 24 = .ok (.aload_n 0, 1) := by decide +kernel
theorem dX16_work_25 : decode cX16_work 25 = .ok (.getfield 450, 3) := by decide +kernel
theorem dX16_work_28 : decode cX16_work 28 = .ok (.iload_n 2, 1) := by decide +kernel
theorem dX16_work_29 : decode cX16_work 29 = .ok (.aaload, 1) := by decide +kernel
theorem dX16_work_30 : decode cX16_work 30 = .ok (.astore 5, 2) := by decide +kernel
theorem dX16_work_32 : decode cX16_work 32 = .ok (.aload_n 0, 1) := by decide +kernel
theorem dX16_work_33 : decode cX16_work 33 = .ok (.getfield 450, 3) := by decide +kernel
theorem dX16_work_36 : decode cX16_work 36 = .ok (.iload_n 3, 1) := by decide +kernel
theorem dX16_work_37 : decode cX16_work 37 = .ok (.aaload, 1) := by decide +kernel
theorem dX16_work_38 : decode cX16_work 38 = .ok (.astore 6, 2) := by decide +kernel
theorem dX16_work_40 : decode cX16_work 40 = .ok (.aload 5, 2) := by decide +kernel
theorem dX16_work_42 : decode cX16_work 42 = .ok (.getfield 202, 3) := by decide +kernel
theorem dX16_work_45 : decode cX16_work 45 = .ok (.iconst 1, 1) := by decide +kernel
theorem dX16_work_46 : decode cX16_work 46 = .ok (.if_icmp .eq 12, 3) := by decide +kernel
theorem dX16_work_49 : decode cX16_work 49 = .ok (.aload 5, 2) := by decide +kernel
theorem dX16_work_51 : decode cX16_work 51 = .ok (.getfield 202, 3) := by decide +kernel
theorem dX16_work_54 : decode cX16_work 54 = .ok (.iconst 2, 1) := by decide +kernel
theorem dX16_work_55 : decode cX16_work 55 = .ok (.if_icmp .ne 21, 3) := by decide +kernel
theorem dX16_work_76 : decode cX16_work 76 = .ok (.bipush (-3), 2) := by decide +kernel
theorem dX16_work_78 : decode cX16_work 78 = .ok (.ireturn, 1) := by decide +kernel
theorem dX16_value_0 : decode cX16_value 0 = .ok (.iload_n 1, 1) := by decide +kernel
theorem dX16_value_1 : decode cX16_value 1 = .ok (.invokestatic 551, 3) := by decide +kernel
theorem dX16_value_4 : decode cX16_value 4 = .ok (.ifCond .ne 5, 3) := by decide +kernel
theorem dX16_value_7 : decode cX16_value 7 = .ok (.iconst (-1), 1) := by decide +kernel
theorem dX16_value_8 : decode cX16_value 8 = .ok (.ireturn, 1) := by decide +kernel
theorem dX16_value_9 : decode cX16_value 9 = .ok (.aload_n 0, 1) := by decide +kernel
theorem dX16_value_10 : decode cX16_value 10 = .ok (.getfield 450, 3) := by decide +kernel
theorem dX16_value_13 : decode cX16_value 13 = .ok (.iload_n 1, 1) := by decide +kernel
theorem dX16_value_14 : decode cX16_value 14 = .ok (.aaload, 1) := by decide +kernel
theorem dX16_value_15 : decode cX16_value 15 = .ok (.astore 4, 2) := by decide +kernel
theorem dX16_value_17 : decode cX16_value 17 = .ok (.aload 4, 2) := by decide +kernel
theorem dX16_value_19 : decode cX16_value 19 = .ok (.getfield 202, 3) := by decide +kernel
theorem dX16_value_22 : decode cX16_value 22 = .ok (.iconst 1, 1) := by decide +kernel
theorem dX16_value_23 : decode cX16_value 23 = .ok (.if_icmp .eq 12, 3) := by decide +kernel
theorem dX16_value_26 : decode cX16_value 26 = .ok (.aload 4, 2) := by decide +kernel
theorem dX16_value_28 : decode cX16_value 28 = .ok (.getfield 202, 3) := by decide +kernel
theorem dX16_value_31 : decode cX16_value 31 = .ok (.iconst 2, 1) := by decide +kernel
theorem dX16_value_32 : decode cX16_value 32 = .ok (.if_icmp .ne 14, 3) := by decide +kernel
theorem dX16_value_46 : decode cX16_value 46 = .ok (.bipush (-3), 2) := by decide +kernel
theorem dX16_value_48 : decode cX16_value 48 = .ok (.ireturn, 1) := by decide +kernel
theorem dX16_sum__0 : decode cX16_sum_ 0 = .ok (.iload_n 1, 1) := by decide +kernel
theorem dX16_sum__1 : decode cX16_sum_ 1 = .ok (.invokestatic 551, 3) := by decide +kernel
theorem dX16_sum__4 : decode cX16_sum_ 4 = .ok (.ifCond .ne 5, 3) := by decide +kernel
theorem dX16_sum__7 : decode cX16_sum_ 7 = .ok (.iconst (-1), 1) := by decide +kernel
theorem dX16_sum__8 : decode cX16_sum_ 8 = .ok (.ireturn, 1) := by decide +kernel
theorem dX16_sum__9 : decode cX16_sum_ 9 = .ok (.aload_n 0, 1) := by decide +kernel
theorem dX16_sum__10 : decode cX16_sum_ 10 = .ok (.getfield 450, 3) := by decide +kernel
theorem dX16_sum__13 : decode cX16_sum_ 13 = .ok (.iload_n 1, 1) := by decide +kernel
theorem dX16_sum__14 : decode cX16_sum_ 14 = .ok (.aaload, 1) := by decide +kernel
theorem dX16_sum__15 : decode cX16_sum_ 15 = .ok (.astore 5, 2) := by decide +kernel
theorem dX16_sum__17 : decode cX16_sum_ 17 = .ok (.aload 5, 2) := by decide +kernel
theorem dX16_sum__19 : decode cX16_sum_ 19 = .ok (.getfield 202, 3) := by decide +kernel
theorem dX16_sum__22 : decode cX16_sum_ 22 = .ok (.iconst 1, 1) := by decide +kernel
theorem dX16_sum__23 : decode cX16_sum_ 23 = .ok (.if_icmp .eq 15, 3) := by decide +kernel
theorem dX16_sum__26 : decode cX16_sum_ 26 = .ok (.aload 5, 2) := by decide +kernel
theorem dX16_sum__28 : decode cX16_sum_ 28 = .ok (.getfield 202, 3) := by decide +kernel
theorem dX16_sum__31 : decode cX16_sum_ 31 = .ok (.iconst 2, 1) := by decide +kernel
theorem dX16_sum__32 : decode cX16_sum_ 32 = .ok (.if_icmp .eq 6, 3) := by decide +kernel
theorem dX16_sum__35 : decode cX16_sum_ 35 = .ok (.bipush (-3), 2) := by decide +kernel
theorem dX16_sum__37 : decode cX16_sum_ 37 = .ok (.ireturn, 1) := by decide +kernel
theorem dX16_quotient__0 : decode cX16_quotient_ 0 = .ok (.iload_n 1, 1) := by decide +kernel
theorem dX16_quotient__1 : decode cX16_quotient_ 1 = .ok (.invokestatic 551, 3) := by decide +kernel
theorem dX16_quotient__4 : decode cX16_quotient_ 4 = .ok (.ifCond .eq 10, 3) := by decide +kernel
theorem dX16_quotient__14 : decode cX16_quotient_ 14 = .ok (.iconst (-1), 1) := by decide +kernel
theorem dX16_quotient__15 : decode cX16_quotient_ 15 = .ok (.ireturn, 1) := by decide +kernel
theorem dX16_quotient__7 : decode cX16_quotient_ 7 = .ok (.iload_n 3, 1) := by decide +kernel
theorem dX16_quotient__8 : decode cX16_quotient_ 8 = .ok (.invokestatic 551, 3) := by decide +kernel
theorem dX16_quotient__11 : decode cX16_quotient_ 11 = .ok (.ifCond .ne 5, 3) := by decide +kernel
theorem dX16_quotient__16 : decode cX16_quotient_ 16 = .ok (.aload_n 0, 1) := by decide +kernel
theorem dX16_quotient__17 : decode cX16_quotient_ 17 = .ok (.getfield 450, 3) := by decide +kernel
theorem dX16_quotient__20 : decode cX16_quotient_ 20 = .ok (.iload_n 1, 1) := by decide +kernel
theorem dX16_quotient__21 : decode cX16_quotient_ 21 = .ok (.aaload, 1) := by decide +kernel
theorem dX16_quotient__22 : decode cX16_quotient_ 22 = .ok (.astore 4, 2) := by decide +kernel
theorem dX16_quotient__24 : decode cX16_quotient_ 24 = .ok (.aload 4, 2) := by decide +kernel
theorem dX16_quotient__26 : decode cX16_quotient_ 26 = .ok (.getfield 202, 3) := by decide +kernel
theorem dX16_quotient__29 : decode cX16_quotient_ 29 = .ok (.iconst 1, 1) := by decide +kernel
theorem dX16_quotient__30 : decode cX16_quotient_ 30 = .ok (.if_icmp .eq 15, 3) := by decide +kernel
theorem dX16_quotient__33 : decode cX16_quotient_ 33 = .ok (.aload 4, 2) := by decide +kernel
theorem dX16_quotient__35 : decode cX16_quotient_ 35 = .ok (.getfield 202, 3) := by decide +kernel
theorem dX16_quotient__38 : decode cX16_quotient_ 38 = .ok (.iconst 2, 1) := by decide +kernel
theorem dX16_quotient__39 : decode cX16_quotient_ 39 = .ok (.if_icmp .eq 6, 3) := by decide +kernel
theorem dX16_quotient__42 : decode cX16_quotient_ 42 = .ok (.bipush (-3), 2) := by decide +kernel
theorem dX16_quotient__44 : decode cX16_quotient_ 44 = .ok (.ireturn, 1) := by decide +kernel
theorem dX16_form__0 : decode cX16_form_ 0 = .ok (.iload_n 1, 1) := by decide +kernel
theorem dX16_form__1 : decode cX16_form_ 1 = .ok (.invokestatic 551, 3) := by decide +kernel
theorem dX16_form__4 : decode cX16_form_ 4 = .ok (.ifCond .eq 10, 3) := by decide +kernel
theorem dX16_form__14 : decode cX16_form_ 14 = .ok (.iconst (-1), 1) := by decide +kernel
theorem dX16_form__15 : decode cX16_form_ 15 = .ok (.ireturn, 1) := by decide +kernel
theorem dX16_form__7 : decode cX16_form_ 7 = .ok (.iload_n 3, 1) := by decide +kernel
theorem dX16_form__8 : decode cX16_form_ 8 = .ok (.invokestatic 551, 3) := by decide +kernel
theorem dX16_form__11 : decode cX16_form_ 11 = .ok (.ifCond .ne 5, 3) := by decide +kernel
theorem dX16_form__16 : decode cX16_form_ 16 = .ok (.aload_n 0, 1) := by decide +kernel
theorem dX16_form__17 : decode cX16_form_ 17 = .ok (.getfield 450, 3) := by decide +kernel
theorem dX16_form__20 : decode cX16_form_ 20 = .ok (.iload_n 1, 1) := by decide +kernel
theorem dX16_form__21 : decode cX16_form_ 21 = .ok (.aaload, 1) := by decide +kernel
theorem dX16_form__22 : decode cX16_form_ 22 = .ok (.astore 4, 2) := by decide +kernel
theorem dX16_form__24 : decode cX16_form_ 24 = .ok (.aload 4, 2) := by decide +kernel
theorem dX16_form__26 : decode cX16_form_ 26 = .ok (.getfield 202, 3) := by decide +kernel
theorem dX16_form__29 : decode cX16_form_ 29 = .ok (.iconst 1, 1) := by decide +kernel
theorem dX16_form__30 : decode cX16_form_ 30 = .ok (.if_icmp .eq 6, 3) := by decide +kernel
theorem dX16_form__33 : decode cX16_form_ 33 = .ok (.bipush (-3), 2) := by decide +kernel
theorem dX16_form__35 : decode cX16_form_ 35 = .ok (.ireturn, 1) := by decide +kernel
theorem dX16_close_0 : decode cX16_close 0 = .ok (.iload_n 1, 1) := by decide +kernel
theorem dX16_close_1 : decode cX16_close 1 = .ok (.invokestatic 551, 3) := by decide +kernel
theorem dX16_close_4 : decode cX16_close 4 = .ok (.ifCond .eq 10, 3) := by decide +kernel
theorem dX16_close_14 : decode cX16_close 14 = .ok (.iconst (-1), 1) := by decide +kernel
theorem dX16_close_15 : decode cX16_close 15 = .ok (.ireturn, 1) := by decide +kernel
theorem dX16_close_7 : decode cX16_close 7 = .ok (.iload_n 2, 1) := by decide +kernel
theorem dX16_close_8 : decode cX16_close 8 = .ok (.invokestatic 551, 3) := by decide +kernel
theorem dX16_close_11 : decode cX16_close 11 = .ok (.ifCond .ne 5, 3) := by decide +kernel
theorem dX16_close_16 : decode cX16_close 16 = .ok (.aload_n 0, 1) := by decide +kernel
theorem dX16_close_17 : decode cX16_close 17 = .ok (.getfield 450, 3) := by decide +kernel
theorem dX16_close_20 : decode cX16_close 20 = .ok (.iload_n 1, 1) := by decide +kernel
theorem dX16_close_21 : decode cX16_close 21 = .ok (.aaload, 1) := by decide +kernel
theorem dX16_close_22 : decode cX16_close 22 = .ok (.astore_n 3, 1) := by decide +kernel
theorem dX16_close_23 : decode cX16_close 23 = .ok (.aload_n 3, 1) := by decide +kernel
theorem dX16_close_24 : decode cX16_close 24 = .ok (.getfield 202, 3) := by decide +kernel
theorem dX16_close_27 : decode cX16_close 27 = .ok (.iconst 1, 1) := by decide +kernel
theorem dX16_close_28 : decode cX16_close 28 = .ok (.if_icmp .eq 14, 3) := by decide +kernel
theorem dX16_close_31 : decode cX16_close 31 = .ok (.aload_n 3, 1) := by decide +kernel
theorem dX16_close_32 : decode cX16_close 32 = .ok (.getfield 202, 3) := by decide +kernel
theorem dX16_close_35 : decode cX16_close 35 = .ok (.iconst 2, 1) := by decide +kernel
theorem dX16_close_36 : decode cX16_close 36 = .ok (.if_icmp .eq 6, 3) := by decide +kernel
theorem dX16_close_39 : decode cX16_close 39 = .ok (.bipush (-3), 2) := by decide +kernel
theorem dX16_close_41 : decode cX16_close 41 = .ok (.ireturn, 1) := by decide +kernel
theorem dX16_recur_0 : decode cX16_recur 0 = .ok (.iload_n 1, 1) := by decide +kernel
theorem dX16_recur_1 : decode cX16_recur 1 = .ok (.invokestatic 551, 3) := by decide +kernel
theorem dX16_recur_4 : decode cX16_recur 4 = .ok (.ifCond .eq 10, 3) := by decide +kernel
theorem dX16_recur_14 : decode cX16_recur 14 = .ok (.iconst (-1), 1) := by decide +kernel
theorem dX16_recur_15 : decode cX16_recur 15 = .ok (.ireturn, 1) := by decide +kernel
theorem dX16_recur_7 : decode cX16_recur 7 = .ok (.iload_n 3, 1) := by decide +kernel
theorem dX16_recur_8 : decode cX16_recur 8 = .ok (.invokestatic 551, 3) := by decide +kernel
theorem dX16_recur_11 : decode cX16_recur 11 = .ok (.ifCond .ne 5, 3) := by decide +kernel
theorem dX16_recur_16 : decode cX16_recur 16 = .ok (.aload_n 0, 1) := by decide +kernel
theorem dX16_recur_17 : decode cX16_recur 17 = .ok (.getfield 450, 3) := by decide +kernel
theorem dX16_recur_20 : decode cX16_recur 20 = .ok (.iload_n 1, 1) := by decide +kernel
theorem dX16_recur_21 : decode cX16_recur 21 = .ok (.aaload, 1) := by decide +kernel
theorem dX16_recur_22 : decode cX16_recur 22 = .ok (.astore 4, 2) := by decide +kernel
theorem dX16_recur_24 : decode cX16_recur 24 = .ok (.aload 4, 2) := by decide +kernel
theorem dX16_recur_26 : decode cX16_recur 26 = .ok (.getfield 202, 3) := by decide +kernel
theorem dX16_recur_29 : decode cX16_recur 29 = .ok (.iconst 1, 1) := by decide +kernel
theorem dX16_recur_30 : decode cX16_recur 30 = .ok (.if_icmp .eq 15, 3) := by decide +kernel
theorem dX16_recur_33 : decode cX16_recur 33 = .ok (.aload 4, 2) := by decide +kernel
theorem dX16_recur_35 : decode cX16_recur 35 = .ok (.getfield 202, 3) := by decide +kernel
theorem dX16_recur_38 : decode cX16_recur 38 = .ok (.iconst 2, 1) := by decide +kernel
theorem dX16_recur_39 : decode cX16_recur 39 = .ok (.if_icmp .eq 6, 3) := by decide +kernel
theorem dX16_recur_42 : decode cX16_recur 42 = .ok (.bipush (-3), 2) := by decide +kernel
theorem dX16_recur_44 : decode cX16_recur 44 = .ok (.ireturn, 1) := by decide +kernel
theorem dX16_part__0 : decode cX16_part_ 0 = .ok (.iload_n 1, 1) := by decide +kernel
theorem dX16_part__1 : decode cX16_part_ 1 = .ok (.invokestatic 551, 3) := by decide +kernel
theorem dX16_part__4 : decode cX16_part_ 4 = .ok (.ifCond .eq 10, 3) := by decide +kernel
theorem dX16_part__14 : decode cX16_part_ 14 = .ok (.iconst (-1), 1) := by decide +kernel
theorem dX16_part__15 : decode cX16_part_ 15 = .ok (.ireturn, 1) := by decide +kernel
theorem dX16_part__7 : decode cX16_part_ 7 = .ok (.iload_n 3, 1) := by decide +kernel
theorem dX16_part__8 : decode cX16_part_ 8 = .ok (.invokestatic 551, 3) := by decide +kernel
theorem dX16_part__11 : decode cX16_part_ 11 = .ok (.ifCond .ne 5, 3) := by decide +kernel
theorem dX16_part__16 : decode cX16_part_ 16 = .ok (.aload_n 0, 1) := by decide +kernel
theorem dX16_part__17 : decode cX16_part_ 17 = .ok (.getfield 450, 3) := by decide +kernel
theorem dX16_part__20 : decode cX16_part_ 20 = .ok (.iload_n 1, 1) := by decide +kernel
theorem dX16_part__21 : decode cX16_part_ 21 = .ok (.aaload, 1) := by decide +kernel
theorem dX16_part__22 : decode cX16_part_ 22 = .ok (.astore 4, 2) := by decide +kernel
theorem dX16_part__24 : decode cX16_part_ 24 = .ok (.aload 4, 2) := by decide +kernel
theorem dX16_part__26 : decode cX16_part_ 26 = .ok (.getfield 202, 3) := by decide +kernel
theorem dX16_part__29 : decode cX16_part_ 29 = .ok (.iconst 3, 1) := by decide +kernel
theorem dX16_part__30 : decode cX16_part_ 30 = .ok (.if_icmp .eq 15, 3) := by decide +kernel
theorem dX16_part__33 : decode cX16_part_ 33 = .ok (.aload 4, 2) := by decide +kernel
theorem dX16_part__35 : decode cX16_part_ 35 = .ok (.getfield 202, 3) := by decide +kernel
theorem dX16_part__38 : decode cX16_part_ 38 = .ok (.iconst 4, 1) := by decide +kernel
theorem dX16_part__39 : decode cX16_part_ 39 = .ok (.if_icmp .eq 6, 3) := by decide +kernel
theorem dX16_part__42 : decode cX16_part_ 42 = .ok (.bipush (-3), 2) := by decide +kernel
theorem dX16_part__44 : decode cX16_part_ 44 = .ok (.ireturn, 1) := by decide +kernel
theorem dX16_check_0 : decode cX16_check 0 = .ok (.iload_n 1, 1) := by decide +kernel
theorem dX16_check_1 : decode cX16_check 1 = .ok (.invokestatic 551, 3) := by decide +kernel
theorem dX16_check_4 : decode cX16_check 4 = .ok (.ifCond .eq 10, 3) := by decide +kernel
theorem dX16_check_14 : decode cX16_check 14 = .ok (.iconst (-1), 1) := by decide +kernel
theorem dX16_check_15 : decode cX16_check 15 = .ok (.ireturn, 1) := by decide +kernel
theorem dX16_check_7 : decode cX16_check 7 = .ok (.iload_n 2, 1) := by decide +kernel
theorem dX16_check_8 : decode cX16_check 8 = .ok (.invokestatic 551, 3) := by decide +kernel
theorem dX16_check_11 : decode cX16_check 11 = .ok (.ifCond .ne 5, 3) := by decide +kernel
theorem dX16_check_16 : decode cX16_check 16 = .ok (.aload_n 0, 1) := by decide +kernel
theorem dX16_check_17 : decode cX16_check 17 = .ok (.getfield 450, 3) := by decide +kernel
theorem dX16_check_20 : decode cX16_check 20 = .ok (.iload_n 1, 1) := by decide +kernel
theorem dX16_check_21 : decode cX16_check 21 = .ok (.aaload, 1) := by decide +kernel
theorem dX16_check_22 : decode cX16_check 22 = .ok (.astore_n 3, 1) := by decide +kernel
theorem dX16_check_23 : decode cX16_check 23 = .ok (.aload_n 0, 1) := by decide +kernel
theorem dX16_check_24 : decode cX16_check 24 = .ok (.getfield 450, 3) := by decide +kernel
theorem dX16_check_27 : decode cX16_check 27 = .ok (.iload_n 2, 1) := by decide +kernel
theorem dX16_check_28 : decode cX16_check 28 = .ok (.aaload, 1) := by decide +kernel
theorem dX16_check_29 : decode cX16_check 29 = .ok (.astore 4, 2) := by decide +kernel
theorem dX16_check_31 : decode cX16_check 31 = .ok (.aload_n 3, 1) := by decide +kernel
theorem dX16_check_32 : decode cX16_check 32 = .ok (.getfield 202, 3) := by decide +kernel
theorem dX16_check_35 : decode cX16_check 35 = .ok (.iconst 3, 1) := by decide +kernel
theorem dX16_check_36 : decode cX16_check 36 = .ok (.if_icmp .ne 21, 3) := by decide +kernel
theorem dX16_check_57 : decode cX16_check 57 = .ok (.bipush (-3), 2) := by decide +kernel
theorem dX16_check_59 : decode cX16_check 59 = .ok (.ireturn, 1) := by decide +kernel
theorem dX16_poke_0 : decode cX16_poke 0 = .ok (.iload_n 1, 1) := by decide +kernel
theorem dX16_poke_1 : decode cX16_poke 1 = .ok (.invokestatic 551, 3) := by decide +kernel
theorem dX16_poke_4 : decode cX16_poke 4 = .ok (.ifCond .ne 5, 3) := by decide +kernel
theorem dX16_poke_7 : decode cX16_poke 7 = .ok (.iconst (-1), 1) := by decide +kernel
theorem dX16_poke_8 : decode cX16_poke 8 = .ok (.ireturn, 1) := by decide +kernel
theorem dX16_poke_9 : decode cX16_poke 9 = .ok (.aload_n 0, 1) := by decide +kernel
theorem dX16_poke_10 : decode cX16_poke 10 = .ok (.getfield 450, 3) := by decide +kernel
theorem dX16_poke_13 : decode cX16_poke 13 = .ok (.iload_n 1, 1) := by decide +kernel
theorem dX16_poke_14 : decode cX16_poke 14 = .ok (.aaload, 1) := by decide +kernel
theorem dX16_poke_15 : decode cX16_poke 15 = .ok (.astore 6, 2) := by decide +kernel
theorem dX16_poke_17 : decode cX16_poke 17 = .ok (.aload 6, 2) := by decide +kernel
theorem dX16_poke_19 : decode cX16_poke 19 = .ok (.getfield 202, 3) := by decide +kernel
theorem dX16_poke_22 : decode cX16_poke 22 = .ok (.iconst 3, 1) := by decide +kernel
theorem dX16_poke_23 : decode cX16_poke 23 = .ok (.if_icmp .eq 6, 3) := by decide +kernel
theorem dX16_poke_26 : decode cX16_poke 26 = .ok (.bipush (-3), 2) := by decide +kernel
theorem dX16_poke_28 : decode cX16_poke 28 = .ok (.ireturn, 1) := by decide +kernel
theorem dX16_holds_0 : decode cX16_holds 0 = .ok (.iload_n 1, 1) := by decide +kernel
theorem dX16_holds_1 : decode cX16_holds 1 = .ok (.invokestatic 551, 3) := by decide +kernel
theorem dX16_holds_4 : decode cX16_holds 4 = .ok (.ifCond .eq 10, 3) := by decide +kernel
theorem dX16_holds_14 : decode cX16_holds 14 = .ok (.iconst (-1), 1) := by decide +kernel
theorem dX16_holds_15 : decode cX16_holds 15 = .ok (.ireturn, 1) := by decide +kernel
theorem dX16_holds_7 : decode cX16_holds 7 = .ok (.iload_n 2, 1) := by decide +kernel
theorem dX16_holds_8 : decode cX16_holds 8 = .ok (.invokestatic 551, 3) := by decide +kernel
theorem dX16_holds_11 : decode cX16_holds 11 = .ok (.ifCond .ne 5, 3) := by decide +kernel
theorem dX16_holds_16 : decode cX16_holds 16 = .ok (.aload_n 0, 1) := by decide +kernel
theorem dX16_holds_17 : decode cX16_holds 17 = .ok (.getfield 450, 3) := by decide +kernel
theorem dX16_holds_20 : decode cX16_holds 20 = .ok (.iload_n 1, 1) := by decide +kernel
theorem dX16_holds_21 : decode cX16_holds 21 = .ok (.aaload, 1) := by decide +kernel
theorem dX16_holds_22 : decode cX16_holds 22 = .ok (.astore 6, 2) := by decide +kernel
theorem dX16_holds_24 : decode cX16_holds 24 = .ok (.aload_n 0, 1) := by decide +kernel
theorem dX16_holds_25 : decode cX16_holds 25 = .ok (.getfield 450, 3) := by decide +kernel
theorem dX16_holds_28 : decode cX16_holds 28 = .ok (.iload_n 2, 1) := by decide +kernel
theorem dX16_holds_29 : decode cX16_holds 29 = .ok (.aaload, 1) := by decide +kernel
theorem dX16_holds_30 : decode cX16_holds 30 = .ok (.astore 7, 2) := by decide +kernel
theorem dX16_holds_32 : decode cX16_holds 32 = .ok (.aload 6, 2) := by decide +kernel
theorem dX16_holds_34 : decode cX16_holds 34 = .ok (.getfield 202, 3) := by decide +kernel
theorem dX16_holds_37 : decode cX16_holds 37 = .ok (.iconst 3, 1) := by decide +kernel
theorem dX16_holds_38 : decode cX16_holds 38 = .ok (.if_icmp .ne 21, 3) := by decide +kernel
theorem dX16_holds_59 : decode cX16_holds 59 = .ok (.bipush (-3), 2) := by decide +kernel
theorem dX16_holds_61 : decode cX16_holds 61 = .ok (.ireturn, 1) := by decide +kernel
theorem dX16_row_0 : decode cX16_row 0 = .ok (.iload_n 1, 1) := by decide +kernel
theorem dX16_row_1 : decode cX16_row 1 = .ok (.invokestatic 551, 3) := by decide +kernel
theorem dX16_row_4 : decode cX16_row 4 = .ok (.ifCond .eq 10, 3) := by decide +kernel
theorem dX16_row_14 : decode cX16_row 14 = .ok (.iconst (-1), 1) := by decide +kernel
theorem dX16_row_15 : decode cX16_row 15 = .ok (.ireturn, 1) := by decide +kernel
theorem dX16_row_7 : decode cX16_row 7 = .ok (.iload_n 2, 1) := by decide +kernel
theorem dX16_row_8 : decode cX16_row 8 = .ok (.invokestatic 551, 3) := by decide +kernel
theorem dX16_row_11 : decode cX16_row 11 = .ok (.ifCond .ne 5, 3) := by decide +kernel
theorem dX16_row_16 : decode cX16_row 16 = .ok (.aload_n 0, 1) := by decide +kernel
theorem dX16_row_17 : decode cX16_row 17 = .ok (.getfield 450, 3) := by decide +kernel
theorem dX16_row_20 : decode cX16_row 20 = .ok (.iload_n 1, 1) := by decide +kernel
theorem dX16_row_21 : decode cX16_row 21 = .ok (.aaload, 1) := by decide +kernel
theorem dX16_row_22 : decode cX16_row 22 = .ok (.astore_n 3, 1) := by decide +kernel
theorem dX16_row_23 : decode cX16_row 23 = .ok (.aload_n 3, 1) := by decide +kernel
theorem dX16_row_24 : decode cX16_row 24 = .ok (.getfield 202, 3) := by decide +kernel
theorem dX16_row_27 : decode cX16_row 27 = .ok (.iconst 3, 1) := by decide +kernel
theorem dX16_row_28 : decode cX16_row 28 = .ok (.if_icmp .eq 6, 3) := by decide +kernel
theorem dX16_row_31 : decode cX16_row 31 = .ok (.bipush (-3), 2) := by decide +kernel
theorem dX16_row_33 : decode cX16_row 33 = .ok (.ireturn, 1) := by decide +kernel
theorem dX16_first_0 : decode cX16_first 0 = .ok (.iload_n 1, 1) := by decide +kernel
theorem dX16_first_1 : decode cX16_first 1 = .ok (.invokestatic 551, 3) := by decide +kernel
theorem dX16_first_4 : decode cX16_first 4 = .ok (.ifCond .ne 5, 3) := by decide +kernel
theorem dX16_first_7 : decode cX16_first 7 = .ok (.iconst (-1), 1) := by decide +kernel
theorem dX16_first_8 : decode cX16_first 8 = .ok (.ireturn, 1) := by decide +kernel
theorem dX16_first_9 : decode cX16_first 9 = .ok (.aload_n 0, 1) := by decide +kernel
theorem dX16_first_10 : decode cX16_first 10 = .ok (.getfield 450, 3) := by decide +kernel
theorem dX16_first_13 : decode cX16_first 13 = .ok (.iload_n 1, 1) := by decide +kernel
theorem dX16_first_14 : decode cX16_first 14 = .ok (.aaload, 1) := by decide +kernel
theorem dX16_first_15 : decode cX16_first 15 = .ok (.astore_n 3, 1) := by decide +kernel
theorem dX16_first_16 : decode cX16_first 16 = .ok (.aload_n 3, 1) := by decide +kernel
theorem dX16_first_17 : decode cX16_first 17 = .ok (.getfield 202, 3) := by decide +kernel
theorem dX16_first_20 : decode cX16_first 20 = .ok (.iconst 4, 1) := by decide +kernel
theorem dX16_first_21 : decode cX16_first 21 = .ok (.if_icmp .eq 6, 3) := by decide +kernel
theorem dX16_first_24 : decode cX16_first 24 = .ok (.bipush (-3), 2) := by decide +kernel
theorem dX16_first_26 : decode cX16_first 26 = .ok (.ireturn, 1) := by decide +kernel
theorem dX16_at_0 : decode cX16_at 0 = .ok (.iload_n 1, 1) := by decide +kernel
theorem dX16_at_1 : decode cX16_at 1 = .ok (.invokestatic 551, 3) := by decide +kernel
theorem dX16_at_4 : decode cX16_at 4 = .ok (.ifCond .ne 5, 3) := by decide +kernel
theorem dX16_at_7 : decode cX16_at 7 = .ok (.iconst (-1), 1) := by decide +kernel
theorem dX16_at_8 : decode cX16_at 8 = .ok (.ireturn, 1) := by decide +kernel
theorem dX16_at_9 : decode cX16_at 9 = .ok (.aload_n 0, 1) := by decide +kernel
theorem dX16_at_10 : decode cX16_at 10 = .ok (.getfield 450, 3) := by decide +kernel
theorem dX16_at_13 : decode cX16_at 13 = .ok (.iload_n 1, 1) := by decide +kernel
theorem dX16_at_14 : decode cX16_at 14 = .ok (.aaload, 1) := by decide +kernel
theorem dX16_at_15 : decode cX16_at 15 = .ok (.astore_n 3, 1) := by decide +kernel
theorem dX16_at_16 : decode cX16_at 16 = .ok (.aload_n 3, 1) := by decide +kernel
theorem dX16_at_17 : decode cX16_at 17 = .ok (.getfield 202, 3) := by decide +kernel
theorem dX16_at_20 : decode cX16_at 20 = .ok (.iconst 4, 1) := by decide +kernel
theorem dX16_at_21 : decode cX16_at 21 = .ok (.if_icmp .eq 6, 3) := by decide +kernel
theorem dX16_at_24 : decode cX16_at 24 = .ok (.bipush (-3), 2) := by decide +kernel
theorem dX16_at_26 : decode cX16_at 26 = .ok (.ireturn, 1) := by decide +kernel
theorem dX16_join_0 : decode cX16_join 0 = .ok (.iload_n 1, 1) := by decide +kernel
theorem dX16_join_1 : decode cX16_join 1 = .ok (.ifCond .lt 8, 3) := by decide +kernel
theorem dX16_join_9 : decode cX16_join 9 = .ok (.iload_n 1, 1) := by decide +kernel
theorem dX16_join_10 : decode cX16_join 10 = .ok (.iconst 5, 1) := by decide +kernel
theorem dX16_join_11 : decode cX16_join 11 = .ok (.if_icmp .ne 7, 3) := by decide +kernel
theorem dX16_join_18 : decode cX16_join 18 = .ok (.iconst 0, 1) := by decide +kernel
theorem dX16_join_19 : decode cX16_join 19 = .ok (.istore 5, 2) := by decide +kernel
theorem dX16_join_21 : decode cX16_join 21 = .ok (.iload_n 2, 1) := by decide +kernel
theorem dX16_join_22 : decode cX16_join 22 = .ok (.invokestatic 551, 3) := by decide +kernel
theorem dX16_join_25 : decode cX16_join 25 = .ok (.ifCond .eq 23, 3) := by decide +kernel
theorem dX16_join_48 : decode cX16_join 48 = .ok (.iconst (-1), 1) := by decide +kernel
theorem dX16_join_49 : decode cX16_join 49 = .ok (.ireturn, 1) := by decide +kernel
theorem dX16_join_14 : decode cX16_join 14 = .ok (.iconst 1, 1) := by decide +kernel
theorem dX16_join_15 : decode cX16_join 15 = .ok (.goto 4, 3) := by decide +kernel
theorem dX16_join_4 : decode cX16_join 4 = .ok (.iload_n 1, 1) := by decide +kernel
theorem dX16_join_5 : decode cX16_join 5 = .ok (.iconst 2, 1) := by decide +kernel
theorem dX16_join_6 : decode cX16_join 6 = .ok (.if_icmp .le 8, 3) := by decide +kernel
theorem dX16_join_28 : decode cX16_join 28 = .ok (.iload 5, 2) := by decide +kernel
theorem dX16_join_30 : decode cX16_join 30 = .ok (.ifCond .eq 10, 3) := by decide +kernel
theorem dX16_join_40 : decode cX16_join 40 = .ok (.iload 4, 2) := by decide +kernel
theorem dX16_join_42 : decode cX16_join 42 = .ok (.invokestatic 551, 3) := by decide +kernel
theorem dX16_join_45 : decode cX16_join 45 = .ok (.ifCond .ne 5, 3) := by decide +kernel
theorem dX16_join_50 : decode cX16_join 50 = .ok (.aload_n 0, 1) := by decide +kernel
theorem dX16_join_51 : decode cX16_join 51 = .ok (.getfield 450, 3) := by decide +kernel
theorem dX16_join_54 : decode cX16_join 54 = .ok (.iload_n 2, 1) := by decide +kernel
theorem dX16_join_55 : decode cX16_join 55 = .ok (.aaload, 1) := by decide +kernel
theorem dX16_join_56 : decode cX16_join 56 = .ok (.astore 6, 2) := by decide +kernel
theorem dX16_join_58 : decode cX16_join 58 = .ok (.aload 6, 2) := by decide +kernel
theorem dX16_join_60 : decode cX16_join 60 = .ok (.getfield 202, 3) := by decide +kernel
theorem dX16_join_63 : decode cX16_join 63 = .ok (.iconst 4, 1) := by decide +kernel
theorem dX16_join_64 : decode cX16_join 64 = .ok (.if_icmp .eq 6, 3) := by decide +kernel
theorem dX16_join_67 : decode cX16_join 67 = .ok (.bipush (-3), 2) := by decide +kernel
theorem dX16_join_69 : decode cX16_join 69 = .ok (.ireturn, 1) := by decide +kernel
theorem dX16_join_33 : decode cX16_join 33 = .ok (.iload_n 3, 1) := by decide +kernel
theorem dX16_join_34 : decode cX16_join 34 = .ok (.invokestatic 551, 3) := by decide +kernel
theorem dX16_join_37 : decode cX16_join 37 = .ok (.ifCond .eq 11, 3) := by decide +kernel
theorem dX16_roots_0 : decode cX16_roots 0 = .ok (.iload_n 1, 1) := by decide +kernel
theorem dX16_roots_1 : decode cX16_roots 1 = .ok (.invokestatic 551, 3) := by decide +kernel
theorem dX16_roots_4 : decode cX16_roots 4 = .ok (.ifCond .ne 5, 3) := by decide +kernel
theorem dX16_roots_7 : decode cX16_roots 7 = .ok (.iconst (-1), 1) := by decide +kernel
theorem dX16_roots_8 : decode cX16_roots 8 = .ok (.ireturn, 1) := by decide +kernel
theorem dX16_roots_9 : decode cX16_roots 9 = .ok (.aload_n 0, 1) := by decide +kernel
theorem dX16_roots_10 : decode cX16_roots 10 = .ok (.getfield 450, 3) := by decide +kernel
theorem dX16_roots_13 : decode cX16_roots 13 = .ok (.iload_n 1, 1) := by decide +kernel
theorem dX16_roots_14 : decode cX16_roots 14 = .ok (.aaload, 1) := by decide +kernel
theorem dX16_roots_15 : decode cX16_roots 15 = .ok (.astore_n 2, 1) := by decide +kernel
theorem dX16_roots_16 : decode cX16_roots 16 = .ok (.aload_n 2, 1) := by decide +kernel
theorem dX16_roots_17 : decode cX16_roots 17 = .ok (.invokestatic 637, 3) := by decide +kernel
theorem dX16_roots_20 : decode cX16_roots 20 = .ok (.ifCond .eq 21, 3) := by decide +kernel
theorem dX16_roots_41 : decode cX16_roots 41 = .ok (.bipush (-3), 2) := by decide +kernel
theorem dX16_roots_43 : decode cX16_roots 43 = .ok (.ireturn, 1) := by decide +kernel
theorem dX16_solve_0 : decode cX16_solve 0 = .ok (.iload_n 1, 1) := by decide +kernel
theorem dX16_solve_1 : decode cX16_solve 1 = .ok (.invokestatic 551, 3) := by decide +kernel
theorem dX16_solve_4 : decode cX16_solve 4 = .ok (.ifCond .eq 10, 3) := by decide +kernel
theorem dX16_solve_14 : decode cX16_solve 14 = .ok (.iconst (-1), 1) := by decide +kernel
theorem dX16_solve_15 : decode cX16_solve 15 = .ok (.ireturn, 1) := by decide +kernel
theorem dX16_solve_7 : decode cX16_solve 7 = .ok (.iload_n 2, 1) := by decide +kernel
theorem dX16_solve_8 : decode cX16_solve 8 = .ok (.invokestatic 551, 3) := by decide +kernel
theorem dX16_solve_11 : decode cX16_solve 11 = .ok (.ifCond .ne 5, 3) := by decide +kernel
theorem dX16_solve_16 : decode cX16_solve 16 = .ok (.aload_n 0, 1) := by decide +kernel
theorem dX16_solve_17 : decode cX16_solve 17 = .ok (.getfield 450, 3) := by decide +kernel
theorem dX16_solve_20 : decode cX16_solve 20 = .ok (.iload_n 1, 1) := by decide +kernel
theorem dX16_solve_21 : decode cX16_solve 21 = .ok (.aaload, 1) := by decide +kernel
theorem dX16_solve_22 : decode cX16_solve 22 = .ok (.astore_n 3, 1) := by decide +kernel
theorem dX16_solve_23 : decode cX16_solve 23 = .ok (.aload_n 3, 1) := by decide +kernel
theorem dX16_solve_24 : decode cX16_solve 24 = .ok (.getfield 202, 3) := by decide +kernel
theorem dX16_solve_27 : decode cX16_solve 27 = .ok (.iconst 3, 1) := by decide +kernel
theorem dX16_solve_28 : decode cX16_solve 28 = .ok (.if_icmp .eq 14, 3) := by decide +kernel
theorem dX16_solve_31 : decode cX16_solve 31 = .ok (.aload_n 3, 1) := by decide +kernel
theorem dX16_solve_32 : decode cX16_solve 32 = .ok (.getfield 202, 3) := by decide +kernel
theorem dX16_solve_35 : decode cX16_solve 35 = .ok (.iconst 4, 1) := by decide +kernel
theorem dX16_solve_36 : decode cX16_solve 36 = .ok (.if_icmp .eq 6, 3) := by decide +kernel
theorem dX16_solve_39 : decode cX16_solve 39 = .ok (.bipush (-3), 2) := by decide +kernel
theorem dX16_solve_41 : decode cX16_solve 41 = .ok (.ireturn, 1) := by decide +kernel
def zisl (x : Int32) : Int32 := if x < 0 then 0 else if 12 ≤ x then 0 else 1
theorem zisl_1 {x : Int32} (h : zok x = true) : zisl x = 1 := by
  have ⟨a, c⟩ := of_decide_eq_true h
  rw [zisl, if_neg a, if_neg c]
theorem zisl_0 {x : Int32} (h : ¬ zok x = true) : zisl x = 0 := by
  unfold zisl
  by_cases h1 : x < 0
  · rw [if_pos h1]
  · rw [if_neg h1]
    by_cases h2 : 12 ≤ x
    · rw [if_pos h2]
    · exact absurd (decide_eq_true ⟨h1, h2⟩) h
theorem zok_in {x : Int32} (h : zok x = true) : vp_in x 12 := by
  have ⟨a, c⟩ := of_decide_eq_true h
  exact zin a c (by decide)

set_option maxHeartbeats 4000000 in
set_option maxRecDepth 100000 in
theorem c_X16_isSlot (l : Launch) (dC : Nat → ClassId) (dI : Nat → Nat → Nat) (aC : Nat → ClassId) (x : Int32) (sz : Nat) : Met l yX16_isSlot w_X16_isSlot ({ frames := 1, cells := 0, slots := 0, locals := 24 }) (zPre (dC, dI) aC [] sz [.int x]) (va_Qi (fun (r : Int32) (_ : Unit) => r = zisl x) (fun _ zt => zt.heap.size = sz) (zN sz)) 0 0 (zN sz) := by
  refine Met.ofW (cc := cX16_isSlot) (maxL := 1) (ret := (some .boolean)) (by decide) rfl ?_
  intro p e s m args below meth c s₁ B hml hv
  generalize hQ : MQ below _ _ s _ _ _ = QQ
  obtain ⟨rfl, hsz, hP, hK, hD0⟩ := hv
  have hx := B.exec
  have hb := B.bytes
  have hr := B.returns
  have hts := atoms_spec (ws := w_X16_isSlot) B.pre
  have hall := fun (w : Cond) (h : w ∈ zAll) => hts w (List.mem_cons_of_mem _ h)
  have hown : s.vm.findClass RX16 = some m.cls := findClass_of_methodNamed B.named
  have hlocks := B.notSynchronized
  subst hsz
  have hA : ∀ q : Nat, s.heap.size ≤ q → zN s.heap.size q := fun q h => h
  have hS : va_S (zN s.heap.size) s.heap s.heap [] := va_S.rf
  have hD := hD0
  have hl := lv_entry ([.int x]) (n := 1) (Nat.le_of_ble_eq_true rfl)
  rw [lg_entry_eq]
  generalize (lg_sl ([.int x]) ++ List.replicate (1 - (lg_sl ([.int x])).length) Slot.unset).toArray = ls at hl ⊢
  have hl : lv_has ls 1 [(0, .int x)] := hl
  refine lv_iload_n hx hb dX16_isSlot_0 rfl (lv_at hl 0 rfl) ?_
  refine lv_if_lt (tgt := 14) hx hb dX16_isSlot_1 (by decide) (fun c_1_b60001 => ?_) (fun c_1_b60001 => ?_)
  · refine lv_iconst (v := 0) hx hb dX16_isSlot_14 (by decide) ?_
    rw [← hQ]
    exact W.zret (v := 0) hx hb hr (by rfl) (fun zt ht hW => ⟨⟨0, (), rfl, by simp [zisl, c_1_b60001], (show zt.heap.size = s.heap.size by rw [ht])⟩, hS.F ht⟩) hS.2.2 dX16_isSlot_15
  · refine lv_iload_n hx hb dX16_isSlot_4 rfl (lv_at hl 0 rfl) ?_
    refine lv_bipush (v := 12) hx hb dX16_isSlot_5 (by decide) ?_
    refine lv_icmp_ge (tgt := 14) hx hb dX16_isSlot_7 (by decide) (fun c_7_b60002 => ?_) (fun c_7_b60002 => ?_)
    · refine lv_iconst (v := 0) hx hb dX16_isSlot_14 (by decide) ?_
      rw [← hQ]
      exact W.zret (v := 0) hx hb hr (by rfl) (fun zt ht hW => ⟨⟨0, (), rfl, by simp [zisl, c_1_b60001, c_7_b60002], (show zt.heap.size = s.heap.size by rw [ht])⟩, hS.F ht⟩) hS.2.2 dX16_isSlot_15
    · refine lv_iconst (v := 1) hx hb dX16_isSlot_10 (by decide) ?_
      refine lv_goto (tgt := 15) hx hb dX16_isSlot_11 (by decide) ?_
      rw [← hQ]
      exact W.zret (v := 1) hx hb hr (by rfl) (fun zt ht hW => ⟨⟨1, (), rfl, by simp [zisl, c_1_b60001, c_7_b60002], (show zt.heap.size = s.heap.size by rw [ht])⟩, hS.F ht⟩) hS.2.2 dX16_isSlot_15

set_option maxHeartbeats 4000000 in
set_option maxRecDepth 100000 in
theorem c_X16_isPolynomial (l : Launch) (dC : Nat → ClassId) (dI : Nat → Nat → Nat) (aC : Nat → ClassId) (a : Nat) (sz : Nat) : Met l yX16_isPolynomial w_X16_isPolynomial ({ frames := 1, cells := 0, slots := 0, locals := 24 }) (zPre (dC, dI) aC [(a, .inr (13, [.int 0, .ref (a + 1 + 0), .ref (a + 1 + 1), .int 0, .int 0, .int 0, .ref (a + 1 + 2), .ref (a + 1 + 3), .ref (a + 1 + 4), .ref (a + 1 + 5), .int 0, .ref (a + 1 + 6), .int 0, .int 0, .ref (a + 1 + 7)]))] sz [.ref a]) (va_Qi (fun (r : Int32) (_ : Unit) => r = 0) (fun _ zt => zt.heap.size = sz) (zN sz)) 0 0 (zN sz) := by
  refine Met.ofW (cc := cX16_isPolynomial) (maxL := 1) (ret := (some .boolean)) (by decide) rfl ?_
  intro p e s m args below meth c s₁ B hml hv
  generalize hQ : MQ below _ _ s _ _ _ = QQ
  obtain ⟨rfl, hsz, hP, hK, hD0⟩ := hv
  have hx := B.exec
  have hb := B.bytes
  have hr := B.returns
  have hts := atoms_spec (ws := w_X16_isPolynomial) B.pre
  have hall := fun (w : Cond) (h : w ∈ zAll) => hts w (List.mem_cons_of_mem _ h)
  have hown : s.vm.findClass RX16 = some m.cls := findClass_of_methodNamed B.named
  have hlocks := B.notSynchronized
  subst hsz
  have hA : ∀ q : Nat, s.heap.size ≤ q → zN s.heap.size q := fun q h => h
  have hS : va_S (zN s.heap.size) s.heap s.heap [] := va_S.rf
  have hD := hD0
  have hl := lv_entry ([.ref a]) (n := 1) (Nat.le_of_ble_eq_true rfl)
  rw [lg_entry_eq]
  generalize (lg_sl ([.ref a]) ++ List.replicate (1 - (lg_sl ([.ref a])).length) Slot.unset).toArray = ls at hl ⊢
  have hl : lv_has ls 1 [(0, .ref a)] := hl
  refine lv_aload_n hx hb dX16_isPolynomial_0 rfl (lv_at hl 0 rfl) ?_
  refine va_get (D := (dC, dI)) (ci := 13) (v := .int 0) (C := RX14) (T := TX14) (N := 15) hx hb hall zx_14 hown hK.1 hP 0 rfl rfl 0 (by decide) (hall _ zw_402) (fun _ h9 => h9) rfl dX16_isPolynomial_1 ?_
  refine lv_iconst (v := 1) hx hb dX16_isPolynomial_4 (by decide) ?_
  refine lv_icmp_ne (tgt := 22) hx hb dX16_isPolynomial_5 (by decide) (fun _ => ?_) (fun c_5_b60003 => absurd c_5_b60003 (by decide))
  refine lv_iconst (v := 0) hx hb dX16_isPolynomial_22 (by decide) ?_
  rw [← hQ]
  exact W.zret (v := 0) hx hb hr (by rfl) (fun zt ht hW => ⟨⟨0, (), rfl, rfl, (show zt.heap.size = s.heap.size by rw [ht])⟩, hS.F ht⟩) hS.2.2 dX16_isPolynomial_23

set_option maxHeartbeats 4000000 in
set_option maxRecDepth 100000 in
theorem c_X16_begin (l : Launch) (dC : Nat → ClassId) (dI : Nat → Nat → Nat) (aC : Nat → ClassId) (h0 d : Nat) (sz : Nat) : Met l yX16_begin w_X16_begin ({ frames := 1, cells := 0, slots := 0, locals := 24 }) (zPre (dC, dI) aC [(h0, .inr (15, [.ref (d + 0), .int 0, .ref (d + 1), .int 0, .ref (d + 2), .ref (d + 3), .ref (d + 68), .ref (d + 77), .ref (d + 78), .int 0, .int 0, .ref (d + 79), .int 0, .int 0, .int 0, .ref (d + 80), .int 0, .int 0, .int 0, .int 0, .ref (d + 81), .ref (d + 82), .int (-1), .ref (d + 91), .int 0, .int 0, .ref (d + 92), .int 0, .ref (d + 93), .int 0, .ref (d + 94), .int 0, .ref (d + 95), .ref (d + 96), .ref (d + 97), .ref (d + 98), .int 0, .int 0, .ref (d + 99), .null, .null, .null, .null, .null, .ref (d + 148), .ref (d + 175), .ref (d + 176), .ref (d + 177), .int 0, .ref (d + 178), .ref (d + 179), .ref (d + 180), .ref (d + 185), .ref (d + 190), .ref (d + 191), .ref (d + 192), .ref (d + 193), .ref (d + 201), .ref (d + 209), .ref (d + 210), .ref (d + 211), .ref (d + 272), .ref (d + 273), .int 0, .ref (d + 274)]))] sz [.ref h0]) (va_Qv (fun (u : Unit) => True) (fun u zt => zB (dC, dI) [(h0, .inr (15, [.ref (d + 0), .int 0, .ref (d + 1), .int 0, .ref (d + 2), .ref (d + 3), .ref (d + 68), .ref (d + 77), .ref (d + 78), .int 0, .int 0, .ref (d + 79), .int 0, .int 0, .int 0, .ref (d + 80), .int 0, .int 0, .int 0, .int 0, .ref (d + 81), .ref (d + 82), .int (-1), .ref (d + 91), .int 0, .int 0, .ref (d + 92), .int 0, .ref (d + 93), .int 0, .ref (d + 94), .int 0, .ref (d + 95), .ref (d + 96), .ref (d + 97), .ref (d + 98), .int 0, .int 0, .ref (d + 99), .null, .null, .null, .null, .null, .ref (d + 148), .ref (d + 175), .ref (d + 176), .ref (d + 177), .int 0, .ref (d + 178), .ref (d + 179), .ref (d + 180), .ref (d + 185), .ref (d + 190), .ref (d + 191), .ref (d + 192), .ref (d + 193), .ref (d + 201), .ref (d + 209), .ref (d + 210), .ref (d + 211), .ref (d + 272), .ref (d + 273), .int 0, .ref (d + 274)]))] (va_A [(h0, .inr (15, [.ref (d + 0), .int 0, .ref (d + 1), .int 0, .ref (d + 2), .ref (d + 3), .ref (d + 68), .ref (d + 77), .ref (d + 78), .int 0, .int 0, .ref (d + 79), .int 0, .int 0, .int 0, .ref (d + 80), .int 0, .int 0, .int 0, .int 0, .ref (d + 81), .ref (d + 82), .int (-1), .ref (d + 91), .int 0, .int 0, .ref (d + 92), .int 0, .ref (d + 93), .int 0, .ref (d + 94), .int 0, .ref (d + 95), .ref (d + 96), .ref (d + 97), .ref (d + 98), .int 0, .int 0, .ref (d + 99), .null, .null, .null, .null, .null, .ref (d + 148), .ref (d + 175), .ref (d + 176), .ref (d + 177), .int 0, .ref (d + 178), .ref (d + 179), .ref (d + 180), .ref (d + 185), .ref (d + 190), .ref (d + 191), .ref (d + 192), .ref (d + 193), .ref (d + 201), .ref (d + 209), .ref (d + 210), .ref (d + 211), .ref (d + 272), .ref (d + 273), .int 0, .ref (d + 274)]))] sz) (sz + 0) zt) (va_A [(h0, .inr (15, [.ref (d + 0), .int 0, .ref (d + 1), .int 0, .ref (d + 2), .ref (d + 3), .ref (d + 68), .ref (d + 77), .ref (d + 78), .int 0, .int 0, .ref (d + 79), .int 0, .int 0, .int 0, .ref (d + 80), .int 0, .int 0, .int 0, .int 0, .ref (d + 81), .ref (d + 82), .int (-1), .ref (d + 91), .int 0, .int 0, .ref (d + 92), .int 0, .ref (d + 93), .int 0, .ref (d + 94), .int 0, .ref (d + 95), .ref (d + 96), .ref (d + 97), .ref (d + 98), .int 0, .int 0, .ref (d + 99), .null, .null, .null, .null, .null, .ref (d + 148), .ref (d + 175), .ref (d + 176), .ref (d + 177), .int 0, .ref (d + 178), .ref (d + 179), .ref (d + 180), .ref (d + 185), .ref (d + 190), .ref (d + 191), .ref (d + 192), .ref (d + 193), .ref (d + 201), .ref (d + 209), .ref (d + 210), .ref (d + 211), .ref (d + 272), .ref (d + 273), .int 0, .ref (d + 274)]))] sz)) 0 0 (va_A [(h0, .inr (15, [.ref (d + 0), .int 0, .ref (d + 1), .int 0, .ref (d + 2), .ref (d + 3), .ref (d + 68), .ref (d + 77), .ref (d + 78), .int 0, .int 0, .ref (d + 79), .int 0, .int 0, .int 0, .ref (d + 80), .int 0, .int 0, .int 0, .int 0, .ref (d + 81), .ref (d + 82), .int (-1), .ref (d + 91), .int 0, .int 0, .ref (d + 92), .int 0, .ref (d + 93), .int 0, .ref (d + 94), .int 0, .ref (d + 95), .ref (d + 96), .ref (d + 97), .ref (d + 98), .int 0, .int 0, .ref (d + 99), .null, .null, .null, .null, .null, .ref (d + 148), .ref (d + 175), .ref (d + 176), .ref (d + 177), .int 0, .ref (d + 178), .ref (d + 179), .ref (d + 180), .ref (d + 185), .ref (d + 190), .ref (d + 191), .ref (d + 192), .ref (d + 193), .ref (d + 201), .ref (d + 209), .ref (d + 210), .ref (d + 211), .ref (d + 272), .ref (d + 273), .int 0, .ref (d + 274)]))] sz) := by
  refine Met.ofW (cc := cX16_begin) (maxL := 1) (ret := none) (by decide) rfl ?_
  intro p e s m args below meth c s₁ B hml hv
  generalize hQ : MQ below _ _ s _ _ _ = QQ
  obtain ⟨rfl, hsz, hP, hK, hD0⟩ := hv
  have hx := B.exec
  have hb := B.bytes
  have hr := B.returns
  have hts := atoms_spec (ws := w_X16_begin) B.pre
  have hall := fun (w : Cond) (h : w ∈ zAll) => hts w (List.mem_cons_of_mem _ h)
  have hown : s.vm.findClass RX16 = some m.cls := findClass_of_methodNamed B.named
  have hlocks := B.notSynchronized
  subst hsz
  have hD := hD0.self (sz := s.heap.size)
  generalize hAe : va_A [(h0, .inr (15, [.ref (d + 0), .int 0, .ref (d + 1), .int 0, .ref (d + 2), .ref (d + 3), .ref (d + 68), .ref (d + 77), .ref (d + 78), .int 0, .int 0, .ref (d + 79), .int 0, .int 0, .int 0, .ref (d + 80), .int 0, .int 0, .int 0, .int 0, .ref (d + 81), .ref (d + 82), .int (-1), .ref (d + 91), .int 0, .int 0, .ref (d + 92), .int 0, .ref (d + 93), .int 0, .ref (d + 94), .int 0, .ref (d + 95), .ref (d + 96), .ref (d + 97), .ref (d + 98), .int 0, .int 0, .ref (d + 99), .null, .null, .null, .null, .null, .ref (d + 148), .ref (d + 175), .ref (d + 176), .ref (d + 177), .int 0, .ref (d + 178), .ref (d + 179), .ref (d + 180), .ref (d + 185), .ref (d + 190), .ref (d + 191), .ref (d + 192), .ref (d + 193), .ref (d + 201), .ref (d + 209), .ref (d + 210), .ref (d + 211), .ref (d + 272), .ref (d + 273), .int 0, .ref (d + 274)]))] s.heap.size = A at hD ⊢
  have hA : ∀ q : Nat, s.heap.size ≤ q → A q := fun q h => by rw [← hAe]; exact Or.inr h
  have hS : va_S A s.heap s.heap [] := va_S.rf
  have hz0 : s.heap.size = s.heap.size + 0 := rfl
  have hl := lv_entry ([.ref h0]) (n := 1) (Nat.le_of_ble_eq_true rfl)
  rw [lg_entry_eq]
  generalize (lg_sl ([.ref h0]) ++ List.replicate (1 - (lg_sl ([.ref h0])).length) Slot.unset).toArray = ls at hl ⊢
  have hl : lv_has ls 1 [(0, .ref h0)] := hl
  refine lv_aload_n hx hb dX16_begin_0 rfl (lv_at hl 0 rfl) ?_
  refine lv_iconst (v := 0) hx hb dX16_begin_1 (by decide) ?_
  refine zput (D := (dC, dI)) (ci := 15) (v := .int 0) (ty := .int) (C := RX16) (T := TX16) (N := 65) hx hb hall zx_16 tyX16 tyX16_ok nmX16 hown hK.1 hP hD hS 0 rfl rfl 1 (by decide) (hall _ zw_371) (fun _ h9 => h9) rfl (by decide +kernel) rfl rfl (Nat.le_of_ble_eq_true rfl) dX16_begin_2 (fun H60004 L60005 hB hP' hD' hS' => ?_)
  replace hz0 : H60004.size = s.heap.size + 0 := hB.1.trans hz0
  clear hP hD hS hB
  have hP : va_P (dC, dI) vwCl [(h0, .inr (15, [.ref (d + 0), .int 0, .ref (d + 1), .int 0, .ref (d + 2), .ref (d + 3), .ref (d + 68), .ref (d + 77), .ref (d + 78), .int 0, .int 0, .ref (d + 79), .int 0, .int 0, .int 0, .ref (d + 80), .int 0, .int 0, .int 0, .int 0, .ref (d + 81), .ref (d + 82), .int (-1), .ref (d + 91), .int 0, .int 0, .ref (d + 92), .int 0, .ref (d + 93), .int 0, .ref (d + 94), .int 0, .ref (d + 95), .ref (d + 96), .ref (d + 97), .ref (d + 98), .int 0, .int 0, .ref (d + 99), .null, .null, .null, .null, .null, .ref (d + 148), .ref (d + 175), .ref (d + 176), .ref (d + 177), .int 0, .ref (d + 178), .ref (d + 179), .ref (d + 180), .ref (d + 185), .ref (d + 190), .ref (d + 191), .ref (d + 192), .ref (d + 193), .ref (d + 201), .ref (d + 209), .ref (d + 210), .ref (d + 211), .ref (d + 272), .ref (d + 273), .int 0, .ref (d + 274)]))] H60004 := hP'
  have hD : va_D A [(h0, .inr (15, [.ref (d + 0), .int 0, .ref (d + 1), .int 0, .ref (d + 2), .ref (d + 3), .ref (d + 68), .ref (d + 77), .ref (d + 78), .int 0, .int 0, .ref (d + 79), .int 0, .int 0, .int 0, .ref (d + 80), .int 0, .int 0, .int 0, .int 0, .ref (d + 81), .ref (d + 82), .int (-1), .ref (d + 91), .int 0, .int 0, .ref (d + 92), .int 0, .ref (d + 93), .int 0, .ref (d + 94), .int 0, .ref (d + 95), .ref (d + 96), .ref (d + 97), .ref (d + 98), .int 0, .int 0, .ref (d + 99), .null, .null, .null, .null, .null, .ref (d + 148), .ref (d + 175), .ref (d + 176), .ref (d + 177), .int 0, .ref (d + 178), .ref (d + 179), .ref (d + 180), .ref (d + 185), .ref (d + 190), .ref (d + 191), .ref (d + 192), .ref (d + 193), .ref (d + 201), .ref (d + 209), .ref (d + 210), .ref (d + 211), .ref (d + 272), .ref (d + 273), .int 0, .ref (d + 274)]))] := hD'
  have hS : va_S A s.heap H60004 L60005 := hS'
  clear hP' hD' hS'
  refine lv_aload_n hx hb dX16_begin_5 rfl (lv_at hl 0 rfl) ?_
  refine lv_iconst (v := 0) hx hb dX16_begin_6 (by decide) ?_
  show W p l e _ s m _ below meth c _ _ _ _ QQ (F0 m 7 ls [.int 0, .ref h0])
  refine zput (D := (dC, dI)) (ci := 15) (v := .int 0) (ty := .int) (C := RX16) (T := TX16) (N := 65) hx hb hall zx_16 tyX16 tyX16_ok nmX16 hown hK.1 hP hD hS 0 rfl rfl 3 (by decide) (hall _ zw_372) (fun _ h9 => h9) rfl (by decide +kernel) rfl rfl (Nat.le_of_ble_eq_true rfl) dX16_begin_7 (fun H60006 L60007 hB hP' hD' hS' => ?_)
  replace hz0 : H60006.size = s.heap.size + 0 := hB.1.trans hz0
  clear hP hD hS hB
  have hP : va_P (dC, dI) vwCl [(h0, .inr (15, [.ref (d + 0), .int 0, .ref (d + 1), .int 0, .ref (d + 2), .ref (d + 3), .ref (d + 68), .ref (d + 77), .ref (d + 78), .int 0, .int 0, .ref (d + 79), .int 0, .int 0, .int 0, .ref (d + 80), .int 0, .int 0, .int 0, .int 0, .ref (d + 81), .ref (d + 82), .int (-1), .ref (d + 91), .int 0, .int 0, .ref (d + 92), .int 0, .ref (d + 93), .int 0, .ref (d + 94), .int 0, .ref (d + 95), .ref (d + 96), .ref (d + 97), .ref (d + 98), .int 0, .int 0, .ref (d + 99), .null, .null, .null, .null, .null, .ref (d + 148), .ref (d + 175), .ref (d + 176), .ref (d + 177), .int 0, .ref (d + 178), .ref (d + 179), .ref (d + 180), .ref (d + 185), .ref (d + 190), .ref (d + 191), .ref (d + 192), .ref (d + 193), .ref (d + 201), .ref (d + 209), .ref (d + 210), .ref (d + 211), .ref (d + 272), .ref (d + 273), .int 0, .ref (d + 274)]))] H60006 := hP'
  have hD : va_D A [(h0, .inr (15, [.ref (d + 0), .int 0, .ref (d + 1), .int 0, .ref (d + 2), .ref (d + 3), .ref (d + 68), .ref (d + 77), .ref (d + 78), .int 0, .int 0, .ref (d + 79), .int 0, .int 0, .int 0, .ref (d + 80), .int 0, .int 0, .int 0, .int 0, .ref (d + 81), .ref (d + 82), .int (-1), .ref (d + 91), .int 0, .int 0, .ref (d + 92), .int 0, .ref (d + 93), .int 0, .ref (d + 94), .int 0, .ref (d + 95), .ref (d + 96), .ref (d + 97), .ref (d + 98), .int 0, .int 0, .ref (d + 99), .null, .null, .null, .null, .null, .ref (d + 148), .ref (d + 175), .ref (d + 176), .ref (d + 177), .int 0, .ref (d + 178), .ref (d + 179), .ref (d + 180), .ref (d + 185), .ref (d + 190), .ref (d + 191), .ref (d + 192), .ref (d + 193), .ref (d + 201), .ref (d + 209), .ref (d + 210), .ref (d + 211), .ref (d + 272), .ref (d + 273), .int 0, .ref (d + 274)]))] := hD'
  have hS : va_S A s.heap H60006 L60007 := hS'
  clear hP' hD' hS'
  clear L60005 H60004
  refine lv_aload_n hx hb dX16_begin_10 rfl (lv_at hl 0 rfl) ?_
  refine lv_iconst (v := 0) hx hb dX16_begin_11 (by decide) ?_
  refine zput (D := (dC, dI)) (ci := 15) (v := .int 0) (ty := .int) (C := RX16) (T := TX16) (N := 65) hx hb hall zx_16 tyX16 tyX16_ok nmX16 hown hK.1 hP hD hS 0 rfl rfl 16 (by decide) (hall _ zw_373) (fun _ h9 => h9) rfl (by decide +kernel) rfl rfl (Nat.le_of_ble_eq_true rfl) dX16_begin_12 (fun H60008 L60009 hB hP' hD' hS' => ?_)
  replace hz0 : H60008.size = s.heap.size + 0 := hB.1.trans hz0
  clear hP hD hS hB
  have hP : va_P (dC, dI) vwCl [(h0, .inr (15, [.ref (d + 0), .int 0, .ref (d + 1), .int 0, .ref (d + 2), .ref (d + 3), .ref (d + 68), .ref (d + 77), .ref (d + 78), .int 0, .int 0, .ref (d + 79), .int 0, .int 0, .int 0, .ref (d + 80), .int 0, .int 0, .int 0, .int 0, .ref (d + 81), .ref (d + 82), .int (-1), .ref (d + 91), .int 0, .int 0, .ref (d + 92), .int 0, .ref (d + 93), .int 0, .ref (d + 94), .int 0, .ref (d + 95), .ref (d + 96), .ref (d + 97), .ref (d + 98), .int 0, .int 0, .ref (d + 99), .null, .null, .null, .null, .null, .ref (d + 148), .ref (d + 175), .ref (d + 176), .ref (d + 177), .int 0, .ref (d + 178), .ref (d + 179), .ref (d + 180), .ref (d + 185), .ref (d + 190), .ref (d + 191), .ref (d + 192), .ref (d + 193), .ref (d + 201), .ref (d + 209), .ref (d + 210), .ref (d + 211), .ref (d + 272), .ref (d + 273), .int 0, .ref (d + 274)]))] H60008 := hP'
  have hD : va_D A [(h0, .inr (15, [.ref (d + 0), .int 0, .ref (d + 1), .int 0, .ref (d + 2), .ref (d + 3), .ref (d + 68), .ref (d + 77), .ref (d + 78), .int 0, .int 0, .ref (d + 79), .int 0, .int 0, .int 0, .ref (d + 80), .int 0, .int 0, .int 0, .int 0, .ref (d + 81), .ref (d + 82), .int (-1), .ref (d + 91), .int 0, .int 0, .ref (d + 92), .int 0, .ref (d + 93), .int 0, .ref (d + 94), .int 0, .ref (d + 95), .ref (d + 96), .ref (d + 97), .ref (d + 98), .int 0, .int 0, .ref (d + 99), .null, .null, .null, .null, .null, .ref (d + 148), .ref (d + 175), .ref (d + 176), .ref (d + 177), .int 0, .ref (d + 178), .ref (d + 179), .ref (d + 180), .ref (d + 185), .ref (d + 190), .ref (d + 191), .ref (d + 192), .ref (d + 193), .ref (d + 201), .ref (d + 209), .ref (d + 210), .ref (d + 211), .ref (d + 272), .ref (d + 273), .int 0, .ref (d + 274)]))] := hD'
  have hS : va_S A s.heap H60008 L60009 := hS'
  clear hP' hD' hS'
  clear L60007 H60006
  refine W.widen (k := 0) (n := 0) (Nat.le_of_ble_eq_true rfl) (Nat.le_of_ble_eq_true rfl) ?_
  rw [← hQ, hAe]
  have hP := zsubP (wc := [(h0, .inr (15, [.ref (d + 0), .int 0, .ref (d + 1), .int 0, .ref (d + 2), .ref (d + 3), .ref (d + 68), .ref (d + 77), .ref (d + 78), .int 0, .int 0, .ref (d + 79), .int 0, .int 0, .int 0, .ref (d + 80), .int 0, .int 0, .int 0, .int 0, .ref (d + 81), .ref (d + 82), .int (-1), .ref (d + 91), .int 0, .int 0, .ref (d + 92), .int 0, .ref (d + 93), .int 0, .ref (d + 94), .int 0, .ref (d + 95), .ref (d + 96), .ref (d + 97), .ref (d + 98), .int 0, .int 0, .ref (d + 99), .null, .null, .null, .null, .null, .ref (d + 148), .ref (d + 175), .ref (d + 176), .ref (d + 177), .int 0, .ref (d + 178), .ref (d + 179), .ref (d + 180), .ref (d + 185), .ref (d + 190), .ref (d + 191), .ref (d + 192), .ref (d + 193), .ref (d + 201), .ref (d + 209), .ref (d + 210), .ref (d + 211), .ref (d + 272), .ref (d + 273), .int 0, .ref (d + 274)]))]) hP [0] rfl
  have hD := hD.sub (ws' := [(h0, .inr (15, [.ref (d + 0), .int 0, .ref (d + 1), .int 0, .ref (d + 2), .ref (d + 3), .ref (d + 68), .ref (d + 77), .ref (d + 78), .int 0, .int 0, .ref (d + 79), .int 0, .int 0, .int 0, .ref (d + 80), .int 0, .int 0, .int 0, .int 0, .ref (d + 81), .ref (d + 82), .int (-1), .ref (d + 91), .int 0, .int 0, .ref (d + 92), .int 0, .ref (d + 93), .int 0, .ref (d + 94), .int 0, .ref (d + 95), .ref (d + 96), .ref (d + 97), .ref (d + 98), .int 0, .int 0, .ref (d + 99), .null, .null, .null, .null, .null, .ref (d + 148), .ref (d + 175), .ref (d + 176), .ref (d + 177), .int 0, .ref (d + 178), .ref (d + 179), .ref (d + 180), .ref (d + 185), .ref (d + 190), .ref (d + 191), .ref (d + 192), .ref (d + 193), .ref (d + 201), .ref (d + 209), .ref (d + 210), .ref (d + 211), .ref (d + 272), .ref (d + 273), .int 0, .ref (d + 274)]))]) [0] (by decide) rfl
  exact W.vret hx hb hr (fun zt ht hW => ⟨⟨(), rfl, trivial, by rw [ht]; exact hP, hD, by rw [ht]; exact hz0⟩, hS.F ht⟩) hS.2.2 dX16_begin_15

set_option maxHeartbeats 4000000 in
set_option maxRecDepth 100000 in
theorem c_X16_write_out (l : Launch) (dC : Nat → ClassId) (dI : Nat → Nat → Nat) (aC : Nat → ClassId) (h0 d : Nat) (x : Int32) (sz : Nat) (hxm : ¬ zok x = true) : Met l yX16_write w_X16_write ({ frames := 2, cells := 0, slots := 0, locals := 44 }) (zPre (dC, dI) aC [(h0, .inr (15, [.ref (d + 0), .int 0, .ref (d + 1), .int 0, .ref (d + 2), .ref (d + 3), .ref (d + 68), .ref (d + 77), .ref (d + 78), .int 0, .int 0, .ref (d + 79), .int 0, .int 0, .int 0, .ref (d + 80), .int 0, .int 0, .int 0, .int 0, .ref (d + 81), .ref (d + 82), .int (-1), .ref (d + 91), .int 0, .int 0, .ref (d + 92), .int 0, .ref (d + 93), .int 0, .ref (d + 94), .int 0, .ref (d + 95), .ref (d + 96), .ref (d + 97), .ref (d + 98), .int 0, .int 0, .ref (d + 99), .null, .null, .null, .null, .null, .ref (d + 148), .ref (d + 175), .ref (d + 176), .ref (d + 177), .int 0, .ref (d + 178), .ref (d + 179), .ref (d + 180), .ref (d + 185), .ref (d + 190), .ref (d + 191), .ref (d + 192), .ref (d + 193), .ref (d + 201), .ref (d + 209), .ref (d + 210), .ref (d + 211), .ref (d + 272), .ref (d + 273), .int 0, .ref (d + 274)])), (d + 81, .inl (aC 6, 12, .inr (.inr (.inr (.inr (zrefs (fun i => d + (7485 + 9 * i)) 12))))))] sz [.ref h0, .int x]) (va_Qi (fun (r : Int32) (_ : Unit) => r = -1) (fun _ zt => zt.heap.size = sz) (zN sz)) 0 0 (zN sz) := by
  refine Met.ofW (cc := cX16_write) (maxL := 4) (ret := (some .int)) (by decide) rfl ?_
  intro p e s m args below meth c s₁ B hml hv
  generalize hQ : MQ below _ _ s _ _ _ = QQ
  obtain ⟨rfl, hsz, hP, hK, hD0⟩ := hv
  have hx := B.exec
  have hb := B.bytes
  have hr := B.returns
  have hts := atoms_spec (ws := w_X16_write) B.pre
  have hall := fun (w : Cond) (h : w ∈ zAll) => hts w (List.mem_cons_of_mem _ h)
  have hown : s.vm.findClass RX16 = some m.cls := findClass_of_methodNamed B.named
  have hlocks := B.notSynchronized
  subst hsz
  have hA : ∀ q : Nat, s.heap.size ≤ q → zN s.heap.size q := fun q h => h
  have hS : va_S (zN s.heap.size) s.heap s.heap [] := va_S.rf
  have hD := hD0
  have hl := lv_entry ([.ref h0, .int x]) (n := 4) (Nat.le_of_ble_eq_true rfl)
  rw [lg_entry_eq]
  generalize (lg_sl ([.ref h0, .int x]) ++ List.replicate (4 - (lg_sl ([.ref h0, .int x])).length) Slot.unset).toArray = ls at hl ⊢
  have hl : lv_has ls 4 [(0, .ref h0), (1, .int x)] := hl
  refine lv_iload_n hx hb dX16_write_0 rfl (lv_at hl 1 rfl) ?_
  refine zro_i hS hA (va_runS (As := [.int x]) (rest := []) ⟨hx, hb, hml, hown, hall⟩ (c_X16_isSlot l dC dI aC x s.heap.size) (va_cwS 1 hall (zgS zw_434 zw_436 zw_812 g_X16_isSlot) rfl rfl rfl (by decide +kernel) ⟨Nat.le_of_ble_eq_true rfl, Nat.le_of_ble_eq_true rfl⟩) (zPre_S (As := [.int x]) hK hP hD [] rfl (by decide +kernel)) rfl rfl hl.1 rfl (lv_room (Nat.le_of_ble_eq_true rfl)) dX16_write_1 ⟨Nat.le_of_ble_eq_true rfl, Nat.le_of_ble_eq_true rfl⟩) (fun r60010 L60011 hw hS' => ?_)
  clear hS
  have hS := hS'
  clear hS'
  obtain rfl : r60010 = 0 := hw.trans (zisl_0 hxm)
  try clear hw
  refine lv_if_ne (tgt := 9) hx hb dX16_write_4 (by decide) (fun c_4_b60012 => absurd (by decide) c_4_b60012) (fun _ => ?_)
  refine lv_iconst (v := (-1)) hx hb dX16_write_7 (by decide) ?_
  rw [← hQ]
  exact W.iret (v := (-1)) hx hb hr (fun zt ht hW => ⟨⟨(-1), (), rfl, rfl, (show zt.heap.size = s.heap.size by rw [ht])⟩, hS.F ht⟩) hS.2.2 dX16_write_8

set_option maxHeartbeats 4000000 in
set_option maxRecDepth 100000 in
theorem c_X16_write_in (l : Launch) (dC : Nat → ClassId) (dI : Nat → Nat → Nat) (aC : Nat → ClassId) (h0 d a : Nat) (x : Int32) (sz : Nat) (hxm : zok x = true) (ha : a = d + (7485 + 9 * x.toNatClampNeg)) : Met l yX16_write w_X16_write ({ frames := 2, cells := 0, slots := 0, locals := 44 }) (zPre (dC, dI) aC [(h0, .inr (15, [.ref (d + 0), .int 0, .ref (d + 1), .int 0, .ref (d + 2), .ref (d + 3), .ref (d + 68), .ref (d + 77), .ref (d + 78), .int 0, .int 0, .ref (d + 79), .int 0, .int 0, .int 0, .ref (d + 80), .int 0, .int 0, .int 0, .int 0, .ref (d + 81), .ref (d + 82), .int (-1), .ref (d + 91), .int 0, .int 0, .ref (d + 92), .int 0, .ref (d + 93), .int 0, .ref (d + 94), .int 0, .ref (d + 95), .ref (d + 96), .ref (d + 97), .ref (d + 98), .int 0, .int 0, .ref (d + 99), .null, .null, .null, .null, .null, .ref (d + 148), .ref (d + 175), .ref (d + 176), .ref (d + 177), .int 0, .ref (d + 178), .ref (d + 179), .ref (d + 180), .ref (d + 185), .ref (d + 190), .ref (d + 191), .ref (d + 192), .ref (d + 193), .ref (d + 201), .ref (d + 209), .ref (d + 210), .ref (d + 211), .ref (d + 272), .ref (d + 273), .int 0, .ref (d + 274)])), (d + 81, .inl (aC 6, 12, .inr (.inr (.inr (.inr (zrefs (fun i => d + (7485 + 9 * i)) 12)))))), (a, .inr (13, [.int 0, .ref (a + 1 + 0), .ref (a + 1 + 1), .int 0, .int 0, .int 0, .ref (a + 1 + 2), .ref (a + 1 + 3), .ref (a + 1 + 4), .ref (a + 1 + 5), .int 0, .ref (a + 1 + 6), .int 0, .int 0, .ref (a + 1 + 7)]))] sz [.ref h0, .int x]) (va_Qi (fun (r : Int32) (_ : Unit) => r = -3) (fun _ zt => zt.heap.size = sz) (zN sz)) 0 0 (zN sz) := by
  refine Met.ofW (cc := cX16_write) (maxL := 4) (ret := (some .int)) (by decide) rfl ?_
  intro p e s m args below meth c s₁ B hml hv
  generalize hQ : MQ below _ _ s _ _ _ = QQ
  obtain ⟨rfl, hsz, hP, hK, hD0⟩ := hv
  have hx := B.exec
  have hb := B.bytes
  have hr := B.returns
  have hts := atoms_spec (ws := w_X16_write) B.pre
  have hall := fun (w : Cond) (h : w ∈ zAll) => hts w (List.mem_cons_of_mem _ h)
  have hown : s.vm.findClass RX16 = some m.cls := findClass_of_methodNamed B.named
  have hlocks := B.notSynchronized
  subst hsz
  have hA : ∀ q : Nat, s.heap.size ≤ q → zN s.heap.size q := fun q h => h
  have hS : va_S (zN s.heap.size) s.heap s.heap [] := va_S.rf
  have hD := hD0
  have hl := lv_entry ([.ref h0, .int x]) (n := 4) (Nat.le_of_ble_eq_true rfl)
  rw [lg_entry_eq]
  generalize (lg_sl ([.ref h0, .int x]) ++ List.replicate (4 - (lg_sl ([.ref h0, .int x])).length) Slot.unset).toArray = ls at hl ⊢
  have hl : lv_has ls 4 [(0, .ref h0), (1, .int x)] := hl
  refine lv_iload_n hx hb dX16_write_0 rfl (lv_at hl 1 rfl) ?_
  refine zro_i hS hA (va_runS (As := [.int x]) (rest := []) ⟨hx, hb, hml, hown, hall⟩ (c_X16_isSlot l dC dI aC x s.heap.size) (va_cwS 1 hall (zgS zw_434 zw_436 zw_812 g_X16_isSlot) rfl rfl rfl (by decide +kernel) ⟨Nat.le_of_ble_eq_true rfl, Nat.le_of_ble_eq_true rfl⟩) (zPre_S (As := [.int x]) hK hP hD [] rfl (by decide +kernel)) rfl rfl hl.1 rfl (lv_room (Nat.le_of_ble_eq_true rfl)) dX16_write_1 ⟨Nat.le_of_ble_eq_true rfl, Nat.le_of_ble_eq_true rfl⟩) (fun r60013 L60014 hw hS' => ?_)
  clear hS
  have hS := hS'
  clear hS'
  obtain rfl : r60013 = 1 := hw.trans (zisl_1 hxm)
  try clear hw
  refine lv_if_ne (tgt := 9) hx hb dX16_write_4 (by decide) (fun _ => ?_) (fun c_4_b60015 => absurd c_4_b60015 (by decide))
  refine lv_aload_n hx hb dX16_write_9 rfl (lv_at hl 0 rfl) ?_
  refine va_get (D := (dC, dI)) (ci := 15) (v := .ref (d + 81)) (C := RX16) (T := TX16) (N := 65) hx hb hall zx_16 hown hK.1 hP 0 rfl rfl 20 (by decide) (hall _ zw_336) (fun _ h9 => h9) rfl dX16_write_10 ?_
  show W p l e _ s m _ below meth c _ _ _ _ QQ (F0 m 13 ls [.ref (d + 81)])
  refine lv_iload_n hx hb dX16_write_13 rfl (lv_at hl 1 rfl) ?_
  refine zaldr hx hb hK.1 hP 1 6 rfl rfl (zok_in hxm) (zrefs_in (zok_in hxm)) dX16_write_14 ?_
  rw [← ha]
  refine lv_astore_n (lv' := [(2, .ref a), (0, .ref h0), (1, .int x)]) hx hb dX16_write_15 rfl hl (by decide) rfl (fun ls60016 hl' => ?_)
  clear hl
  have hl : lv_has ls60016 4 [(2, .ref a), (0, .ref h0), (1, .int x)] := hl'
  clear hl'
  refine lv_aload_n hx hb dX16_write_16 rfl (lv_at hl 0 rfl) ?_
  refine va_get (D := (dC, dI)) (ci := 13) (v := .int 0) (C := RX14) (T := TX14) (N := 15) hx hb hall zx_14 hown hK.1 hP 2 rfl rfl 0 (by decide) (hall _ zw_402) (fun _ h9 => h9) rfl dX16_write_17 ?_
  show W p l e _ s m _ below meth c _ _ _ _ QQ (F0 m 20 ls60016 [.int 0])
  refine lv_iconst (v := 1) hx hb dX16_write_20 (by decide) ?_
  refine lv_icmp_eq (tgt := 35) hx hb dX16_write_21 (by decide) (fun c_21_b60017 => absurd c_21_b60017 (by decide)) (fun _ => ?_)
  refine lv_aload_n hx hb dX16_write_24 rfl (lv_at hl 0 rfl) ?_
  refine va_get (D := (dC, dI)) (ci := 13) (v := .int 0) (C := RX14) (T := TX14) (N := 15) hx hb hall zx_14 hown hK.1 hP 2 rfl rfl 0 (by decide) (hall _ zw_402) (fun _ h9 => h9) rfl dX16_write_25 ?_
  refine lv_iconst (v := 2) hx hb dX16_write_28 (by decide) ?_
  refine lv_icmp_eq (tgt := 35) hx hb dX16_write_29 (by decide) (fun c_29_b60018 => absurd c_29_b60018 (by decide)) (fun _ => ?_)
  show W p l e _ s m _ below meth c _ _ _ _ QQ (F0 m 32 ls60016 [])
  refine lv_bipush (v := (-3)) hx hb dX16_write_32 (by decide) ?_
  rw [← hQ]
  exact W.iret (v := (-3)) hx hb hr (fun zt ht hW => ⟨⟨(-3), (), rfl, rfl, (show zt.heap.size = s.heap.size by rw [ht])⟩, hS.F ht⟩) hS.2.2 dX16_write_34

set_option maxHeartbeats 4000000 in
set_option maxRecDepth 100000 in
theorem c_X16_kind_out (l : Launch) (dC : Nat → ClassId) (dI : Nat → Nat → Nat) (aC : Nat → ClassId) (h0 d : Nat) (x : Int32) (sz : Nat) (hxm : ¬ zok x = true) : Met l yX16_kind w_X16_kind ({ frames := 2, cells := 0, slots := 0, locals := 44 }) (zPre (dC, dI) aC [(h0, .inr (15, [.ref (d + 0), .int 0, .ref (d + 1), .int 0, .ref (d + 2), .ref (d + 3), .ref (d + 68), .ref (d + 77), .ref (d + 78), .int 0, .int 0, .ref (d + 79), .int 0, .int 0, .int 0, .ref (d + 80), .int 0, .int 0, .int 0, .int 0, .ref (d + 81), .ref (d + 82), .int (-1), .ref (d + 91), .int 0, .int 0, .ref (d + 92), .int 0, .ref (d + 93), .int 0, .ref (d + 94), .int 0, .ref (d + 95), .ref (d + 96), .ref (d + 97), .ref (d + 98), .int 0, .int 0, .ref (d + 99), .null, .null, .null, .null, .null, .ref (d + 148), .ref (d + 175), .ref (d + 176), .ref (d + 177), .int 0, .ref (d + 178), .ref (d + 179), .ref (d + 180), .ref (d + 185), .ref (d + 190), .ref (d + 191), .ref (d + 192), .ref (d + 193), .ref (d + 201), .ref (d + 209), .ref (d + 210), .ref (d + 211), .ref (d + 272), .ref (d + 273), .int 0, .ref (d + 274)])), (d + 81, .inl (aC 6, 12, .inr (.inr (.inr (.inr (zrefs (fun i => d + (7485 + 9 * i)) 12))))))] sz [.ref h0, .int x]) (va_Qi (fun (r : Int32) (_ : Unit) => r = -1) (fun _ zt => zt.heap.size = sz) (zN sz)) 0 0 (zN sz) := by
  refine Met.ofW (cc := cX16_kind) (maxL := 2) (ret := (some .int)) (by decide) rfl ?_
  intro p e s m args below meth c s₁ B hml hv
  generalize hQ : MQ below _ _ s _ _ _ = QQ
  obtain ⟨rfl, hsz, hP, hK, hD0⟩ := hv
  have hx := B.exec
  have hb := B.bytes
  have hr := B.returns
  have hts := atoms_spec (ws := w_X16_kind) B.pre
  have hall := fun (w : Cond) (h : w ∈ zAll) => hts w (List.mem_cons_of_mem _ h)
  have hown : s.vm.findClass RX16 = some m.cls := findClass_of_methodNamed B.named
  have hlocks := B.notSynchronized
  subst hsz
  have hA : ∀ q : Nat, s.heap.size ≤ q → zN s.heap.size q := fun q h => h
  have hS : va_S (zN s.heap.size) s.heap s.heap [] := va_S.rf
  have hD := hD0
  have hl := lv_entry ([.ref h0, .int x]) (n := 2) (Nat.le_of_ble_eq_true rfl)
  rw [lg_entry_eq]
  generalize (lg_sl ([.ref h0, .int x]) ++ List.replicate (2 - (lg_sl ([.ref h0, .int x])).length) Slot.unset).toArray = ls at hl ⊢
  have hl : lv_has ls 2 [(0, .ref h0), (1, .int x)] := hl
  refine lv_iload_n hx hb dX16_kind_0 rfl (lv_at hl 1 rfl) ?_
  refine zro_i hS hA (va_runS (As := [.int x]) (rest := []) ⟨hx, hb, hml, hown, hall⟩ (c_X16_isSlot l dC dI aC x s.heap.size) (va_cwS 1 hall (zgS zw_434 zw_436 zw_812 g_X16_isSlot) rfl rfl rfl (by decide +kernel) ⟨Nat.le_of_ble_eq_true rfl, Nat.le_of_ble_eq_true rfl⟩) (zPre_S (As := [.int x]) hK hP hD [] rfl (by decide +kernel)) rfl rfl hl.1 rfl (lv_room (Nat.le_of_ble_eq_true rfl)) dX16_kind_1 ⟨Nat.le_of_ble_eq_true rfl, Nat.le_of_ble_eq_true rfl⟩) (fun r60019 L60020 hw hS' => ?_)
  clear hS
  have hS := hS'
  clear hS'
  obtain rfl : r60019 = 0 := hw.trans (zisl_0 hxm)
  try clear hw
  refine lv_if_eq (tgt := 19) hx hb dX16_kind_4 (by decide) (fun _ => ?_) (fun c_4_b60021 => absurd (by decide) c_4_b60021)
  refine lv_iconst (v := (-1)) hx hb dX16_kind_19 (by decide) ?_
  rw [← hQ]
  exact W.iret (v := (-1)) hx hb hr (fun zt ht hW => ⟨⟨(-1), (), rfl, rfl, (show zt.heap.size = s.heap.size by rw [ht])⟩, hS.F ht⟩) hS.2.2 dX16_kind_20

set_option maxHeartbeats 4000000 in
set_option maxRecDepth 100000 in
theorem c_X16_kind_in (l : Launch) (dC : Nat → ClassId) (dI : Nat → Nat → Nat) (aC : Nat → ClassId) (h0 d a : Nat) (x : Int32) (sz : Nat) (hxm : zok x = true) (ha : a = d + (7485 + 9 * x.toNatClampNeg)) : Met l yX16_kind w_X16_kind ({ frames := 2, cells := 0, slots := 0, locals := 44 }) (zPre (dC, dI) aC [(h0, .inr (15, [.ref (d + 0), .int 0, .ref (d + 1), .int 0, .ref (d + 2), .ref (d + 3), .ref (d + 68), .ref (d + 77), .ref (d + 78), .int 0, .int 0, .ref (d + 79), .int 0, .int 0, .int 0, .ref (d + 80), .int 0, .int 0, .int 0, .int 0, .ref (d + 81), .ref (d + 82), .int (-1), .ref (d + 91), .int 0, .int 0, .ref (d + 92), .int 0, .ref (d + 93), .int 0, .ref (d + 94), .int 0, .ref (d + 95), .ref (d + 96), .ref (d + 97), .ref (d + 98), .int 0, .int 0, .ref (d + 99), .null, .null, .null, .null, .null, .ref (d + 148), .ref (d + 175), .ref (d + 176), .ref (d + 177), .int 0, .ref (d + 178), .ref (d + 179), .ref (d + 180), .ref (d + 185), .ref (d + 190), .ref (d + 191), .ref (d + 192), .ref (d + 193), .ref (d + 201), .ref (d + 209), .ref (d + 210), .ref (d + 211), .ref (d + 272), .ref (d + 273), .int 0, .ref (d + 274)])), (d + 81, .inl (aC 6, 12, .inr (.inr (.inr (.inr (zrefs (fun i => d + (7485 + 9 * i)) 12)))))), (a, .inr (13, [.int 0, .ref (a + 1 + 0), .ref (a + 1 + 1), .int 0, .int 0, .int 0, .ref (a + 1 + 2), .ref (a + 1 + 3), .ref (a + 1 + 4), .ref (a + 1 + 5), .int 0, .ref (a + 1 + 6), .int 0, .int 0, .ref (a + 1 + 7)]))] sz [.ref h0, .int x]) (va_Qi (fun (r : Int32) (_ : Unit) => r = 0) (fun _ zt => zt.heap.size = sz) (zN sz)) 0 0 (zN sz) := by
  refine Met.ofW (cc := cX16_kind) (maxL := 2) (ret := (some .int)) (by decide) rfl ?_
  intro p e s m args below meth c s₁ B hml hv
  generalize hQ : MQ below _ _ s _ _ _ = QQ
  obtain ⟨rfl, hsz, hP, hK, hD0⟩ := hv
  have hx := B.exec
  have hb := B.bytes
  have hr := B.returns
  have hts := atoms_spec (ws := w_X16_kind) B.pre
  have hall := fun (w : Cond) (h : w ∈ zAll) => hts w (List.mem_cons_of_mem _ h)
  have hown : s.vm.findClass RX16 = some m.cls := findClass_of_methodNamed B.named
  have hlocks := B.notSynchronized
  subst hsz
  have hA : ∀ q : Nat, s.heap.size ≤ q → zN s.heap.size q := fun q h => h
  have hS : va_S (zN s.heap.size) s.heap s.heap [] := va_S.rf
  have hD := hD0
  have hl := lv_entry ([.ref h0, .int x]) (n := 2) (Nat.le_of_ble_eq_true rfl)
  rw [lg_entry_eq]
  generalize (lg_sl ([.ref h0, .int x]) ++ List.replicate (2 - (lg_sl ([.ref h0, .int x])).length) Slot.unset).toArray = ls at hl ⊢
  have hl : lv_has ls 2 [(0, .ref h0), (1, .int x)] := hl
  refine lv_iload_n hx hb dX16_kind_0 rfl (lv_at hl 1 rfl) ?_
  refine zro_i hS hA (va_runS (As := [.int x]) (rest := []) ⟨hx, hb, hml, hown, hall⟩ (c_X16_isSlot l dC dI aC x s.heap.size) (va_cwS 1 hall (zgS zw_434 zw_436 zw_812 g_X16_isSlot) rfl rfl rfl (by decide +kernel) ⟨Nat.le_of_ble_eq_true rfl, Nat.le_of_ble_eq_true rfl⟩) (zPre_S (As := [.int x]) hK hP hD [] rfl (by decide +kernel)) rfl rfl hl.1 rfl (lv_room (Nat.le_of_ble_eq_true rfl)) dX16_kind_1 ⟨Nat.le_of_ble_eq_true rfl, Nat.le_of_ble_eq_true rfl⟩) (fun r60022 L60023 hw hS' => ?_)
  clear hS
  have hS := hS'
  clear hS'
  obtain rfl : r60022 = 1 := hw.trans (zisl_1 hxm)
  try clear hw
  refine lv_if_eq (tgt := 19) hx hb dX16_kind_4 (by decide) (fun c_4_b60024 => absurd c_4_b60024 (by decide)) (fun _ => ?_)
  refine lv_aload_n hx hb dX16_kind_7 rfl (lv_at hl 0 rfl) ?_
  refine va_get (D := (dC, dI)) (ci := 15) (v := .ref (d + 81)) (C := RX16) (T := TX16) (N := 65) hx hb hall zx_16 hown hK.1 hP 0 rfl rfl 20 (by decide) (hall _ zw_336) (fun _ h9 => h9) rfl dX16_kind_8 ?_
  show W p l e _ s m _ below meth c _ _ _ _ QQ (F0 m 11 ls [.ref (d + 81)])
  refine lv_iload_n hx hb dX16_kind_11 rfl (lv_at hl 1 rfl) ?_
  refine zaldr hx hb hK.1 hP 1 6 rfl rfl (zok_in hxm) (zrefs_in (zok_in hxm)) dX16_kind_12 ?_
  rw [← ha]
  refine va_get (D := (dC, dI)) (ci := 13) (v := .int 0) (C := RX14) (T := TX14) (N := 15) hx hb hall zx_14 hown hK.1 hP 2 rfl rfl 0 (by decide) (hall _ zw_402) (fun _ h9 => h9) rfl dX16_kind_13 ?_
  refine lv_goto (tgt := 20) hx hb dX16_kind_16 (by decide) ?_
  rw [← hQ]
  exact W.iret (v := 0) hx hb hr (fun zt ht hW => ⟨⟨0, (), rfl, rfl, (show zt.heap.size = s.heap.size by rw [ht])⟩, hS.F ht⟩) hS.2.2 dX16_kind_20

set_option maxHeartbeats 4000000 in
set_option maxRecDepth 100000 in
theorem c_X16_degree__out (l : Launch) (dC : Nat → ClassId) (dI : Nat → Nat → Nat) (aC : Nat → ClassId) (h0 d : Nat) (x y z : Int32) (sz : Nat) (hxm : ¬ zok x = true) : Met l yX16_degree_ w_X16_degree_ ({ frames := 2, cells := 0, slots := 0, locals := 44 }) (zPre (dC, dI) aC [(h0, .inr (15, [.ref (d + 0), .int 0, .ref (d + 1), .int 0, .ref (d + 2), .ref (d + 3), .ref (d + 68), .ref (d + 77), .ref (d + 78), .int 0, .int 0, .ref (d + 79), .int 0, .int 0, .int 0, .ref (d + 80), .int 0, .int 0, .int 0, .int 0, .ref (d + 81), .ref (d + 82), .int (-1), .ref (d + 91), .int 0, .int 0, .ref (d + 92), .int 0, .ref (d + 93), .int 0, .ref (d + 94), .int 0, .ref (d + 95), .ref (d + 96), .ref (d + 97), .ref (d + 98), .int 0, .int 0, .ref (d + 99), .null, .null, .null, .null, .null, .ref (d + 148), .ref (d + 175), .ref (d + 176), .ref (d + 177), .int 0, .ref (d + 178), .ref (d + 179), .ref (d + 180), .ref (d + 185), .ref (d + 190), .ref (d + 191), .ref (d + 192), .ref (d + 193), .ref (d + 201), .ref (d + 209), .ref (d + 210), .ref (d + 211), .ref (d + 272), .ref (d + 273), .int 0, .ref (d + 274)])), (d + 81, .inl (aC 6, 12, .inr (.inr (.inr (.inr (zrefs (fun i => d + (7485 + 9 * i)) 12))))))] sz [.ref h0, .int x, .int y, .int z]) (va_Qi (fun (r : Int32) (_ : Unit) => r = -1) (fun _ zt => zt.heap.size = sz) (zN sz)) 0 0 (zN sz) := by
  refine Met.ofW (cc := cX16_degree_) (maxL := 5) (ret := (some .int)) (by decide) rfl ?_
  intro p e s m args below meth c s₁ B hml hv
  generalize hQ : MQ below _ _ s _ _ _ = QQ
  obtain ⟨rfl, hsz, hP, hK, hD0⟩ := hv
  have hx := B.exec
  have hb := B.bytes
  have hr := B.returns
  have hts := atoms_spec (ws := w_X16_degree_) B.pre
  have hall := fun (w : Cond) (h : w ∈ zAll) => hts w (List.mem_cons_of_mem _ h)
  have hown : s.vm.findClass RX16 = some m.cls := findClass_of_methodNamed B.named
  have hlocks := B.notSynchronized
  subst hsz
  have hA : ∀ q : Nat, s.heap.size ≤ q → zN s.heap.size q := fun q h => h
  have hS : va_S (zN s.heap.size) s.heap s.heap [] := va_S.rf
  have hD := hD0
  have hl := lv_entry ([.ref h0, .int x, .int y, .int z]) (n := 5) (Nat.le_of_ble_eq_true rfl)
  rw [lg_entry_eq]
  generalize (lg_sl ([.ref h0, .int x, .int y, .int z]) ++ List.replicate (5 - (lg_sl ([.ref h0, .int x, .int y, .int z])).length) Slot.unset).toArray = ls at hl ⊢
  have hl : lv_has ls 5 [(0, .ref h0), (1, .int x), (2, .int y), (3, .int z)] := hl
  refine lv_iload_n hx hb dX16_degree__0 rfl (lv_at hl 1 rfl) ?_
  refine zro_i hS hA (va_runS (As := [.int x]) (rest := []) ⟨hx, hb, hml, hown, hall⟩ (c_X16_isSlot l dC dI aC x s.heap.size) (va_cwS 1 hall (zgS zw_434 zw_436 zw_812 g_X16_isSlot) rfl rfl rfl (by decide +kernel) ⟨Nat.le_of_ble_eq_true rfl, Nat.le_of_ble_eq_true rfl⟩) (zPre_S (As := [.int x]) hK hP hD [] rfl (by decide +kernel)) rfl rfl hl.1 rfl (lv_room (Nat.le_of_ble_eq_true rfl)) dX16_degree__1 ⟨Nat.le_of_ble_eq_true rfl, Nat.le_of_ble_eq_true rfl⟩) (fun r60025 L60026 hw hS' => ?_)
  clear hS
  have hS := hS'
  clear hS'
  obtain rfl : r60025 = 0 := hw.trans (zisl_0 hxm)
  try clear hw
  refine lv_if_ne (tgt := 9) hx hb dX16_degree__4 (by decide) (fun c_4_b60027 => absurd (by decide) c_4_b60027) (fun _ => ?_)
  refine lv_iconst (v := (-1)) hx hb dX16_degree__7 (by decide) ?_
  rw [← hQ]
  exact W.iret (v := (-1)) hx hb hr (fun zt ht hW => ⟨⟨(-1), (), rfl, rfl, (show zt.heap.size = s.heap.size by rw [ht])⟩, hS.F ht⟩) hS.2.2 dX16_degree__8

set_option maxHeartbeats 4000000 in
set_option maxRecDepth 100000 in
theorem c_X16_degree__in (l : Launch) (dC : Nat → ClassId) (dI : Nat → Nat → Nat) (aC : Nat → ClassId) (h0 d a : Nat) (x y z : Int32) (sz : Nat) (hxm : zok x = true) (ha : a = d + (7485 + 9 * x.toNatClampNeg)) : Met l yX16_degree_ w_X16_degree_ ({ frames := 2, cells := 0, slots := 0, locals := 44 }) (zPre (dC, dI) aC [(h0, .inr (15, [.ref (d + 0), .int 0, .ref (d + 1), .int 0, .ref (d + 2), .ref (d + 3), .ref (d + 68), .ref (d + 77), .ref (d + 78), .int 0, .int 0, .ref (d + 79), .int 0, .int 0, .int 0, .ref (d + 80), .int 0, .int 0, .int 0, .int 0, .ref (d + 81), .ref (d + 82), .int (-1), .ref (d + 91), .int 0, .int 0, .ref (d + 92), .int 0, .ref (d + 93), .int 0, .ref (d + 94), .int 0, .ref (d + 95), .ref (d + 96), .ref (d + 97), .ref (d + 98), .int 0, .int 0, .ref (d + 99), .null, .null, .null, .null, .null, .ref (d + 148), .ref (d + 175), .ref (d + 176), .ref (d + 177), .int 0, .ref (d + 178), .ref (d + 179), .ref (d + 180), .ref (d + 185), .ref (d + 190), .ref (d + 191), .ref (d + 192), .ref (d + 193), .ref (d + 201), .ref (d + 209), .ref (d + 210), .ref (d + 211), .ref (d + 272), .ref (d + 273), .int 0, .ref (d + 274)])), (d + 81, .inl (aC 6, 12, .inr (.inr (.inr (.inr (zrefs (fun i => d + (7485 + 9 * i)) 12)))))), (a, .inr (13, [.int 0, .ref (a + 1 + 0), .ref (a + 1 + 1), .int 0, .int 0, .int 0, .ref (a + 1 + 2), .ref (a + 1 + 3), .ref (a + 1 + 4), .ref (a + 1 + 5), .int 0, .ref (a + 1 + 6), .int 0, .int 0, .ref (a + 1 + 7)]))] sz [.ref h0, .int x, .int y, .int z]) (va_Qi (fun (r : Int32) (_ : Unit) => r = -3) (fun _ zt => zt.heap.size = sz) (zN sz)) 0 0 (zN sz) := by
  refine Met.ofW (cc := cX16_degree_) (maxL := 5) (ret := (some .int)) (by decide) rfl ?_
  intro p e s m args below meth c s₁ B hml hv
  generalize hQ : MQ below _ _ s _ _ _ = QQ
  obtain ⟨rfl, hsz, hP, hK, hD0⟩ := hv
  have hx := B.exec
  have hb := B.bytes
  have hr := B.returns
  have hts := atoms_spec (ws := w_X16_degree_) B.pre
  have hall := fun (w : Cond) (h : w ∈ zAll) => hts w (List.mem_cons_of_mem _ h)
  have hown : s.vm.findClass RX16 = some m.cls := findClass_of_methodNamed B.named
  have hlocks := B.notSynchronized
  subst hsz
  have hA : ∀ q : Nat, s.heap.size ≤ q → zN s.heap.size q := fun q h => h
  have hS : va_S (zN s.heap.size) s.heap s.heap [] := va_S.rf
  have hD := hD0
  have hl := lv_entry ([.ref h0, .int x, .int y, .int z]) (n := 5) (Nat.le_of_ble_eq_true rfl)
  rw [lg_entry_eq]
  generalize (lg_sl ([.ref h0, .int x, .int y, .int z]) ++ List.replicate (5 - (lg_sl ([.ref h0, .int x, .int y, .int z])).length) Slot.unset).toArray = ls at hl ⊢
  have hl : lv_has ls 5 [(0, .ref h0), (1, .int x), (2, .int y), (3, .int z)] := hl
  refine lv_iload_n hx hb dX16_degree__0 rfl (lv_at hl 1 rfl) ?_
  refine zro_i hS hA (va_runS (As := [.int x]) (rest := []) ⟨hx, hb, hml, hown, hall⟩ (c_X16_isSlot l dC dI aC x s.heap.size) (va_cwS 1 hall (zgS zw_434 zw_436 zw_812 g_X16_isSlot) rfl rfl rfl (by decide +kernel) ⟨Nat.le_of_ble_eq_true rfl, Nat.le_of_ble_eq_true rfl⟩) (zPre_S (As := [.int x]) hK hP hD [] rfl (by decide +kernel)) rfl rfl hl.1 rfl (lv_room (Nat.le_of_ble_eq_true rfl)) dX16_degree__1 ⟨Nat.le_of_ble_eq_true rfl, Nat.le_of_ble_eq_true rfl⟩) (fun r60028 L60029 hw hS' => ?_)
  clear hS
  have hS := hS'
  clear hS'
  obtain rfl : r60028 = 1 := hw.trans (zisl_1 hxm)
  try clear hw
  refine lv_if_ne (tgt := 9) hx hb dX16_degree__4 (by decide) (fun _ => ?_) (fun c_4_b60030 => absurd c_4_b60030 (by decide))
  refine lv_aload_n hx hb dX16_degree__9 rfl (lv_at hl 0 rfl) ?_
  refine va_get (D := (dC, dI)) (ci := 15) (v := .ref (d + 81)) (C := RX16) (T := TX16) (N := 65) hx hb hall zx_16 hown hK.1 hP 0 rfl rfl 20 (by decide) (hall _ zw_336) (fun _ h9 => h9) rfl dX16_degree__10 ?_
  show W p l e _ s m _ below meth c _ _ _ _ QQ (F0 m 13 ls [.ref (d + 81)])
  refine lv_iload_n hx hb dX16_degree__13 rfl (lv_at hl 1 rfl) ?_
  refine zaldr hx hb hK.1 hP 1 6 rfl rfl (zok_in hxm) (zrefs_in (zok_in hxm)) dX16_degree__14 ?_
  rw [← ha]
  refine lv_astore (lv' := [(4, .ref a), (0, .ref h0), (1, .int x), (2, .int y), (3, .int z)]) hx hb dX16_degree__15 hl (by decide) rfl (fun ls60031 hl' => ?_)
  clear hl
  have hl : lv_has ls60031 5 [(4, .ref a), (0, .ref h0), (1, .int x), (2, .int y), (3, .int z)] := hl'
  clear hl'
  refine lv_aload hx hb dX16_degree__17 (lv_at hl 0 rfl) ?_
  refine va_get (D := (dC, dI)) (ci := 13) (v := .int 0) (C := RX14) (T := TX14) (N := 15) hx hb hall zx_14 hown hK.1 hP 2 rfl rfl 0 (by decide) (hall _ zw_402) (fun _ h9 => h9) rfl dX16_degree__19 ?_
  show W p l e _ s m _ below meth c _ _ _ _ QQ (F0 m 22 ls60031 [.int 0])
  refine lv_iconst (v := 1) hx hb dX16_degree__22 (by decide) ?_
  refine lv_icmp_lt (tgt := 35) hx hb dX16_degree__23 (by decide) (fun _ => ?_) (fun c_23_b60032 => absurd (by decide) c_23_b60032)
  refine lv_bipush (v := (-3)) hx hb dX16_degree__35 (by decide) ?_
  rw [← hQ]
  exact W.iret (v := (-3)) hx hb hr (fun zt ht hW => ⟨⟨(-3), (), rfl, rfl, (show zt.heap.size = s.heap.size by rw [ht])⟩, hS.F ht⟩) hS.2.2 dX16_degree__37

set_option maxHeartbeats 4000000 in
set_option maxRecDepth 100000 in
theorem c_X16_number__out (l : Launch) (dC : Nat → ClassId) (dI : Nat → Nat → Nat) (aC : Nat → ClassId) (h0 d : Nat) (x y z v : Int32) (sz : Nat) (hxm : ¬ zok x = true) : Met l yX16_number_ w_X16_number_ ({ frames := 2, cells := 0, slots := 0, locals := 44 }) (zPre (dC, dI) aC [(h0, .inr (15, [.ref (d + 0), .int 0, .ref (d + 1), .int 0, .ref (d + 2), .ref (d + 3), .ref (d + 68), .ref (d + 77), .ref (d + 78), .int 0, .int 0, .ref (d + 79), .int 0, .int 0, .int 0, .ref (d + 80), .int 0, .int 0, .int 0, .int 0, .ref (d + 81), .ref (d + 82), .int (-1), .ref (d + 91), .int 0, .int 0, .ref (d + 92), .int 0, .ref (d + 93), .int 0, .ref (d + 94), .int 0, .ref (d + 95), .ref (d + 96), .ref (d + 97), .ref (d + 98), .int 0, .int 0, .ref (d + 99), .null, .null, .null, .null, .null, .ref (d + 148), .ref (d + 175), .ref (d + 176), .ref (d + 177), .int 0, .ref (d + 178), .ref (d + 179), .ref (d + 180), .ref (d + 185), .ref (d + 190), .ref (d + 191), .ref (d + 192), .ref (d + 193), .ref (d + 201), .ref (d + 209), .ref (d + 210), .ref (d + 211), .ref (d + 272), .ref (d + 273), .int 0, .ref (d + 274)])), (d + 81, .inl (aC 6, 12, .inr (.inr (.inr (.inr (zrefs (fun i => d + (7485 + 9 * i)) 12))))))] sz [.ref h0, .int x, .int y, .int z, .int v]) (va_Qi (fun (r : Int32) (_ : Unit) => r = -1) (fun _ zt => zt.heap.size = sz) (zN sz)) 0 0 (zN sz) := by
  refine Met.ofW (cc := cX16_number_) (maxL := 7) (ret := (some .int)) (by decide) rfl ?_
  intro p e s m args below meth c s₁ B hml hv
  generalize hQ : MQ below _ _ s _ _ _ = QQ
  obtain ⟨rfl, hsz, hP, hK, hD0⟩ := hv
  have hx := B.exec
  have hb := B.bytes
  have hr := B.returns
  have hts := atoms_spec (ws := w_X16_number_) B.pre
  have hall := fun (w : Cond) (h : w ∈ zAll) => hts w (List.mem_cons_of_mem _ h)
  have hown : s.vm.findClass RX16 = some m.cls := findClass_of_methodNamed B.named
  have hlocks := B.notSynchronized
  subst hsz
  have hA : ∀ q : Nat, s.heap.size ≤ q → zN s.heap.size q := fun q h => h
  have hS : va_S (zN s.heap.size) s.heap s.heap [] := va_S.rf
  have hD := hD0
  have hl := lv_entry ([.ref h0, .int x, .int y, .int z, .int v]) (n := 7) (Nat.le_of_ble_eq_true rfl)
  rw [lg_entry_eq]
  generalize (lg_sl ([.ref h0, .int x, .int y, .int z, .int v]) ++ List.replicate (7 - (lg_sl ([.ref h0, .int x, .int y, .int z, .int v])).length) Slot.unset).toArray = ls at hl ⊢
  have hl : lv_has ls 7 [(0, .ref h0), (1, .int x), (2, .int y), (3, .int z), (4, .int v)] := hl
  refine lv_iload_n hx hb dX16_number__0 rfl (lv_at hl 1 rfl) ?_
  refine zro_i hS hA (va_runS (As := [.int x]) (rest := []) ⟨hx, hb, hml, hown, hall⟩ (c_X16_isSlot l dC dI aC x s.heap.size) (va_cwS 1 hall (zgS zw_434 zw_436 zw_812 g_X16_isSlot) rfl rfl rfl (by decide +kernel) ⟨Nat.le_of_ble_eq_true rfl, Nat.le_of_ble_eq_true rfl⟩) (zPre_S (As := [.int x]) hK hP hD [] rfl (by decide +kernel)) rfl rfl hl.1 rfl (lv_room (Nat.le_of_ble_eq_true rfl)) dX16_number__1 ⟨Nat.le_of_ble_eq_true rfl, Nat.le_of_ble_eq_true rfl⟩) (fun r60033 L60034 hw hS' => ?_)
  clear hS
  have hS := hS'
  clear hS'
  obtain rfl : r60033 = 0 := hw.trans (zisl_0 hxm)
  try clear hw
  refine lv_if_ne (tgt := 9) hx hb dX16_number__4 (by decide) (fun c_4_b60035 => absurd (by decide) c_4_b60035) (fun _ => ?_)
  refine lv_iconst (v := (-1)) hx hb dX16_number__7 (by decide) ?_
  rw [← hQ]
  exact W.iret (v := (-1)) hx hb hr (fun zt ht hW => ⟨⟨(-1), (), rfl, rfl, (show zt.heap.size = s.heap.size by rw [ht])⟩, hS.F ht⟩) hS.2.2 dX16_number__8

set_option maxHeartbeats 4000000 in
set_option maxRecDepth 100000 in
theorem c_X16_number__in (l : Launch) (dC : Nat → ClassId) (dI : Nat → Nat → Nat) (aC : Nat → ClassId) (h0 d a : Nat) (x y z v : Int32) (sz : Nat) (hxm : zok x = true) (ha : a = d + (7485 + 9 * x.toNatClampNeg)) : Met l yX16_number_ w_X16_number_ ({ frames := 2, cells := 0, slots := 0, locals := 44 }) (zPre (dC, dI) aC [(h0, .inr (15, [.ref (d + 0), .int 0, .ref (d + 1), .int 0, .ref (d + 2), .ref (d + 3), .ref (d + 68), .ref (d + 77), .ref (d + 78), .int 0, .int 0, .ref (d + 79), .int 0, .int 0, .int 0, .ref (d + 80), .int 0, .int 0, .int 0, .int 0, .ref (d + 81), .ref (d + 82), .int (-1), .ref (d + 91), .int 0, .int 0, .ref (d + 92), .int 0, .ref (d + 93), .int 0, .ref (d + 94), .int 0, .ref (d + 95), .ref (d + 96), .ref (d + 97), .ref (d + 98), .int 0, .int 0, .ref (d + 99), .null, .null, .null, .null, .null, .ref (d + 148), .ref (d + 175), .ref (d + 176), .ref (d + 177), .int 0, .ref (d + 178), .ref (d + 179), .ref (d + 180), .ref (d + 185), .ref (d + 190), .ref (d + 191), .ref (d + 192), .ref (d + 193), .ref (d + 201), .ref (d + 209), .ref (d + 210), .ref (d + 211), .ref (d + 272), .ref (d + 273), .int 0, .ref (d + 274)])), (d + 81, .inl (aC 6, 12, .inr (.inr (.inr (.inr (zrefs (fun i => d + (7485 + 9 * i)) 12)))))), (a, .inr (13, [.int 0, .ref (a + 1 + 0), .ref (a + 1 + 1), .int 0, .int 0, .int 0, .ref (a + 1 + 2), .ref (a + 1 + 3), .ref (a + 1 + 4), .ref (a + 1 + 5), .int 0, .ref (a + 1 + 6), .int 0, .int 0, .ref (a + 1 + 7)]))] sz [.ref h0, .int x, .int y, .int z, .int v]) (va_Qi (fun (r : Int32) (_ : Unit) => r = -3) (fun _ zt => zt.heap.size = sz) (zN sz)) 0 0 (zN sz) := by
  refine Met.ofW (cc := cX16_number_) (maxL := 7) (ret := (some .int)) (by decide) rfl ?_
  intro p e s m args below meth c s₁ B hml hv
  generalize hQ : MQ below _ _ s _ _ _ = QQ
  obtain ⟨rfl, hsz, hP, hK, hD0⟩ := hv
  have hx := B.exec
  have hb := B.bytes
  have hr := B.returns
  have hts := atoms_spec (ws := w_X16_number_) B.pre
  have hall := fun (w : Cond) (h : w ∈ zAll) => hts w (List.mem_cons_of_mem _ h)
  have hown : s.vm.findClass RX16 = some m.cls := findClass_of_methodNamed B.named
  have hlocks := B.notSynchronized
  subst hsz
  have hA : ∀ q : Nat, s.heap.size ≤ q → zN s.heap.size q := fun q h => h
  have hS : va_S (zN s.heap.size) s.heap s.heap [] := va_S.rf
  have hD := hD0
  have hl := lv_entry ([.ref h0, .int x, .int y, .int z, .int v]) (n := 7) (Nat.le_of_ble_eq_true rfl)
  rw [lg_entry_eq]
  generalize (lg_sl ([.ref h0, .int x, .int y, .int z, .int v]) ++ List.replicate (7 - (lg_sl ([.ref h0, .int x, .int y, .int z, .int v])).length) Slot.unset).toArray = ls at hl ⊢
  have hl : lv_has ls 7 [(0, .ref h0), (1, .int x), (2, .int y), (3, .int z), (4, .int v)] := hl
  refine lv_iload_n hx hb dX16_number__0 rfl (lv_at hl 1 rfl) ?_
  refine zro_i hS hA (va_runS (As := [.int x]) (rest := []) ⟨hx, hb, hml, hown, hall⟩ (c_X16_isSlot l dC dI aC x s.heap.size) (va_cwS 1 hall (zgS zw_434 zw_436 zw_812 g_X16_isSlot) rfl rfl rfl (by decide +kernel) ⟨Nat.le_of_ble_eq_true rfl, Nat.le_of_ble_eq_true rfl⟩) (zPre_S (As := [.int x]) hK hP hD [] rfl (by decide +kernel)) rfl rfl hl.1 rfl (lv_room (Nat.le_of_ble_eq_true rfl)) dX16_number__1 ⟨Nat.le_of_ble_eq_true rfl, Nat.le_of_ble_eq_true rfl⟩) (fun r60036 L60037 hw hS' => ?_)
  clear hS
  have hS := hS'
  clear hS'
  obtain rfl : r60036 = 1 := hw.trans (zisl_1 hxm)
  try clear hw
  refine lv_if_ne (tgt := 9) hx hb dX16_number__4 (by decide) (fun _ => ?_) (fun c_4_b60038 => absurd c_4_b60038 (by decide))
  refine lv_aload_n hx hb dX16_number__9 rfl (lv_at hl 0 rfl) ?_
  refine va_get (D := (dC, dI)) (ci := 15) (v := .ref (d + 81)) (C := RX16) (T := TX16) (N := 65) hx hb hall zx_16 hown hK.1 hP 0 rfl rfl 20 (by decide) (hall _ zw_336) (fun _ h9 => h9) rfl dX16_number__10 ?_
  show W p l e _ s m _ below meth c _ _ _ _ QQ (F0 m 13 ls [.ref (d + 81)])
  refine lv_iload_n hx hb dX16_number__13 rfl (lv_at hl 1 rfl) ?_
  refine zaldr hx hb hK.1 hP 1 6 rfl rfl (zok_in hxm) (zrefs_in (zok_in hxm)) dX16_number__14 ?_
  rw [← ha]
  refine lv_astore (lv' := [(5, .ref a), (0, .ref h0), (1, .int x), (2, .int y), (3, .int z), (4, .int v)]) hx hb dX16_number__15 hl (by decide) rfl (fun ls60039 hl' => ?_)
  clear hl
  have hl : lv_has ls60039 7 [(5, .ref a), (0, .ref h0), (1, .int x), (2, .int y), (3, .int z), (4, .int v)] := hl'
  clear hl'
  refine lv_aload hx hb dX16_number__17 (lv_at hl 0 rfl) ?_
  refine va_get (D := (dC, dI)) (ci := 13) (v := .int 0) (C := RX14) (T := TX14) (N := 15) hx hb hall zx_14 hown hK.1 hP 2 rfl rfl 0 (by decide) (hall _ zw_402) (fun _ h9 => h9) rfl dX16_number__19 ?_
  show W p l e _ s m _ below meth c _ _ _ _ QQ (F0 m 22 ls60039 [.int 0])
  refine lv_iconst (v := 3) hx hb dX16_number__22 (by decide) ?_
  refine lv_icmp_eq (tgt := 35) hx hb dX16_number__23 (by decide) (fun c_23_b60040 => absurd c_23_b60040 (by decide)) (fun _ => ?_)
  refine lv_aload hx hb dX16_number__26 (lv_at hl 0 rfl) ?_
  refine va_get (D := (dC, dI)) (ci := 13) (v := .int 0) (C := RX14) (T := TX14) (N := 15) hx hb hall zx_14 hown hK.1 hP 2 rfl rfl 0 (by decide) (hall _ zw_402) (fun _ h9 => h9) rfl dX16_number__28 ?_
  refine lv_iconst (v := 4) hx hb dX16_number__31 (by decide) ?_
  refine lv_icmp_ne (tgt := 39) hx hb dX16_number__32 (by decide) (fun _ => ?_) (fun c_32_b60041 => absurd c_32_b60041 (by decide))
  show W p l e _ s m _ below meth c _ _ _ _ QQ (F0 m 39 ls60039 [])
  refine lv_iconst (v := 0) hx hb dX16_number__39 (by decide) ?_
  refine lv_istore (lv' := [(6, .int 0), (5, .ref a), (0, .ref h0), (1, .int x), (2, .int y), (3, .int z), (4, .int v)]) hx hb dX16_number__40 hl (by decide) rfl (fun ls60042 hl' => ?_)
  clear hl
  have hl : lv_has ls60042 7 [(6, .int 0), (5, .ref a), (0, .ref h0), (1, .int x), (2, .int y), (3, .int z), (4, .int v)] := hl'
  clear hl'
  refine lv_aload hx hb dX16_number__42 (lv_at hl 1 rfl) ?_
  refine va_get (D := (dC, dI)) (ci := 13) (v := .int 0) (C := RX14) (T := TX14) (N := 15) hx hb hall zx_14 hown hK.1 hP 2 rfl rfl 0 (by decide) (hall _ zw_402) (fun _ h9 => h9) rfl dX16_number__44 ?_
  refine lv_if_eq (tgt := 78) hx hb dX16_number__47 (by decide) (fun _ => ?_) (fun c_47_b60043 => absurd (by decide) c_47_b60043)
  show W p l e _ s m _ below meth c _ _ _ _ QQ (F0 m 78 ls60042 [])
  refine lv_bipush (v := (-3)) hx hb dX16_number__78 (by decide) ?_
  rw [← hQ]
  exact W.iret (v := (-3)) hx hb hr (fun zt ht hW => ⟨⟨(-3), (), rfl, rfl, (show zt.heap.size = s.heap.size by rw [ht])⟩, hS.F ht⟩) hS.2.2 dX16_number__80

set_option maxHeartbeats 4000000 in
set_option maxRecDepth 100000 in
theorem c_X16_told_out (l : Launch) (dC : Nat → ClassId) (dI : Nat → Nat → Nat) (aC : Nat → ClassId) (h0 d : Nat) (x y : Int32) (sz : Nat) (hxm : ¬ zok x = true) : Met l yX16_told w_X16_told ({ frames := 2, cells := 0, slots := 0, locals := 44 }) (zPre (dC, dI) aC [(h0, .inr (15, [.ref (d + 0), .int 0, .ref (d + 1), .int 0, .ref (d + 2), .ref (d + 3), .ref (d + 68), .ref (d + 77), .ref (d + 78), .int 0, .int 0, .ref (d + 79), .int 0, .int 0, .int 0, .ref (d + 80), .int 0, .int 0, .int 0, .int 0, .ref (d + 81), .ref (d + 82), .int (-1), .ref (d + 91), .int 0, .int 0, .ref (d + 92), .int 0, .ref (d + 93), .int 0, .ref (d + 94), .int 0, .ref (d + 95), .ref (d + 96), .ref (d + 97), .ref (d + 98), .int 0, .int 0, .ref (d + 99), .null, .null, .null, .null, .null, .ref (d + 148), .ref (d + 175), .ref (d + 176), .ref (d + 177), .int 0, .ref (d + 178), .ref (d + 179), .ref (d + 180), .ref (d + 185), .ref (d + 190), .ref (d + 191), .ref (d + 192), .ref (d + 193), .ref (d + 201), .ref (d + 209), .ref (d + 210), .ref (d + 211), .ref (d + 272), .ref (d + 273), .int 0, .ref (d + 274)])), (d + 81, .inl (aC 6, 12, .inr (.inr (.inr (.inr (zrefs (fun i => d + (7485 + 9 * i)) 12))))))] sz [.ref h0, .int x, .int y]) (va_Qi (fun (r : Int32) (_ : Unit) => r = -1) (fun _ zt => zt.heap.size = sz) (zN sz)) 0 0 (zN sz) := by
  refine Met.ofW (cc := cX16_told) (maxL := 5) (ret := (some .int)) (by decide) rfl ?_
  intro p e s m args below meth c s₁ B hml hv
  generalize hQ : MQ below _ _ s _ _ _ = QQ
  obtain ⟨rfl, hsz, hP, hK, hD0⟩ := hv
  have hx := B.exec
  have hb := B.bytes
  have hr := B.returns
  have hts := atoms_spec (ws := w_X16_told) B.pre
  have hall := fun (w : Cond) (h : w ∈ zAll) => hts w (List.mem_cons_of_mem _ h)
  have hown : s.vm.findClass RX16 = some m.cls := findClass_of_methodNamed B.named
  have hlocks := B.notSynchronized
  subst hsz
  have hA : ∀ q : Nat, s.heap.size ≤ q → zN s.heap.size q := fun q h => h
  have hS : va_S (zN s.heap.size) s.heap s.heap [] := va_S.rf
  have hD := hD0
  have hl := lv_entry ([.ref h0, .int x, .int y]) (n := 5) (Nat.le_of_ble_eq_true rfl)
  rw [lg_entry_eq]
  generalize (lg_sl ([.ref h0, .int x, .int y]) ++ List.replicate (5 - (lg_sl ([.ref h0, .int x, .int y])).length) Slot.unset).toArray = ls at hl ⊢
  have hl : lv_has ls 5 [(0, .ref h0), (1, .int x), (2, .int y)] := hl
  refine lv_iload_n hx hb dX16_told_0 rfl (lv_at hl 1 rfl) ?_
  refine zro_i hS hA (va_runS (As := [.int x]) (rest := []) ⟨hx, hb, hml, hown, hall⟩ (c_X16_isSlot l dC dI aC x s.heap.size) (va_cwS 1 hall (zgS zw_434 zw_436 zw_812 g_X16_isSlot) rfl rfl rfl (by decide +kernel) ⟨Nat.le_of_ble_eq_true rfl, Nat.le_of_ble_eq_true rfl⟩) (zPre_S (As := [.int x]) hK hP hD [] rfl (by decide +kernel)) rfl rfl hl.1 rfl (lv_room (Nat.le_of_ble_eq_true rfl)) dX16_told_1 ⟨Nat.le_of_ble_eq_true rfl, Nat.le_of_ble_eq_true rfl⟩) (fun r60044 L60045 hw hS' => ?_)
  clear hS
  have hS := hS'
  clear hS'
  obtain rfl : r60044 = 0 := hw.trans (zisl_0 hxm)
  try clear hw
  refine lv_if_ne (tgt := 9) hx hb dX16_told_4 (by decide) (fun c_4_b60046 => absurd (by decide) c_4_b60046) (fun _ => ?_)
  refine lv_iconst (v := (-1)) hx hb dX16_told_7 (by decide) ?_
  rw [← hQ]
  exact W.iret (v := (-1)) hx hb hr (fun zt ht hW => ⟨⟨(-1), (), rfl, rfl, (show zt.heap.size = s.heap.size by rw [ht])⟩, hS.F ht⟩) hS.2.2 dX16_told_8

set_option maxHeartbeats 4000000 in
set_option maxRecDepth 100000 in
theorem c_X16_told_in (l : Launch) (dC : Nat → ClassId) (dI : Nat → Nat → Nat) (aC : Nat → ClassId) (h0 d a : Nat) (x y : Int32) (sz : Nat) (hxm : zok x = true) (ha : a = d + (7485 + 9 * x.toNatClampNeg)) : Met l yX16_told w_X16_told ({ frames := 2, cells := 0, slots := 0, locals := 44 }) (zPre (dC, dI) aC [(h0, .inr (15, [.ref (d + 0), .int 0, .ref (d + 1), .int 0, .ref (d + 2), .ref (d + 3), .ref (d + 68), .ref (d + 77), .ref (d + 78), .int 0, .int 0, .ref (d + 79), .int 0, .int 0, .int 0, .ref (d + 80), .int 0, .int 0, .int 0, .int 0, .ref (d + 81), .ref (d + 82), .int (-1), .ref (d + 91), .int 0, .int 0, .ref (d + 92), .int 0, .ref (d + 93), .int 0, .ref (d + 94), .int 0, .ref (d + 95), .ref (d + 96), .ref (d + 97), .ref (d + 98), .int 0, .int 0, .ref (d + 99), .null, .null, .null, .null, .null, .ref (d + 148), .ref (d + 175), .ref (d + 176), .ref (d + 177), .int 0, .ref (d + 178), .ref (d + 179), .ref (d + 180), .ref (d + 185), .ref (d + 190), .ref (d + 191), .ref (d + 192), .ref (d + 193), .ref (d + 201), .ref (d + 209), .ref (d + 210), .ref (d + 211), .ref (d + 272), .ref (d + 273), .int 0, .ref (d + 274)])), (d + 81, .inl (aC 6, 12, .inr (.inr (.inr (.inr (zrefs (fun i => d + (7485 + 9 * i)) 12)))))), (a, .inr (13, [.int 0, .ref (a + 1 + 0), .ref (a + 1 + 1), .int 0, .int 0, .int 0, .ref (a + 1 + 2), .ref (a + 1 + 3), .ref (a + 1 + 4), .ref (a + 1 + 5), .int 0, .ref (a + 1 + 6), .int 0, .int 0, .ref (a + 1 + 7)]))] sz [.ref h0, .int x, .int y]) (va_Qi (fun (r : Int32) (_ : Unit) => r = zfive y) (fun _ zt => zt.heap.size = sz) (zN sz)) 0 0 (zN sz) := by
  refine Met.ofW (cc := cX16_told) (maxL := 5) (ret := (some .int)) (by decide) rfl ?_
  intro p e s m args below meth c s₁ B hml hv
  generalize hQ : MQ below _ _ s _ _ _ = QQ
  obtain ⟨rfl, hsz, hP, hK, hD0⟩ := hv
  have hx := B.exec
  have hb := B.bytes
  have hr := B.returns
  have hts := atoms_spec (ws := w_X16_told) B.pre
  have hall := fun (w : Cond) (h : w ∈ zAll) => hts w (List.mem_cons_of_mem _ h)
  have hown : s.vm.findClass RX16 = some m.cls := findClass_of_methodNamed B.named
  have hlocks := B.notSynchronized
  subst hsz
  have hA : ∀ q : Nat, s.heap.size ≤ q → zN s.heap.size q := fun q h => h
  have hS : va_S (zN s.heap.size) s.heap s.heap [] := va_S.rf
  have hD := hD0
  have hl := lv_entry ([.ref h0, .int x, .int y]) (n := 5) (Nat.le_of_ble_eq_true rfl)
  rw [lg_entry_eq]
  generalize (lg_sl ([.ref h0, .int x, .int y]) ++ List.replicate (5 - (lg_sl ([.ref h0, .int x, .int y])).length) Slot.unset).toArray = ls at hl ⊢
  have hl : lv_has ls 5 [(0, .ref h0), (1, .int x), (2, .int y)] := hl
  refine lv_iload_n hx hb dX16_told_0 rfl (lv_at hl 1 rfl) ?_
  refine zro_i hS hA (va_runS (As := [.int x]) (rest := []) ⟨hx, hb, hml, hown, hall⟩ (c_X16_isSlot l dC dI aC x s.heap.size) (va_cwS 1 hall (zgS zw_434 zw_436 zw_812 g_X16_isSlot) rfl rfl rfl (by decide +kernel) ⟨Nat.le_of_ble_eq_true rfl, Nat.le_of_ble_eq_true rfl⟩) (zPre_S (As := [.int x]) hK hP hD [] rfl (by decide +kernel)) rfl rfl hl.1 rfl (lv_room (Nat.le_of_ble_eq_true rfl)) dX16_told_1 ⟨Nat.le_of_ble_eq_true rfl, Nat.le_of_ble_eq_true rfl⟩) (fun r60047 L60048 hw hS' => ?_)
  clear hS
  have hS := hS'
  clear hS'
  obtain rfl : r60047 = 1 := hw.trans (zisl_1 hxm)
  try clear hw
  refine lv_if_ne (tgt := 9) hx hb dX16_told_4 (by decide) (fun _ => ?_) (fun c_4_b60049 => absurd c_4_b60049 (by decide))
  refine lv_aload_n hx hb dX16_told_9 rfl (lv_at hl 0 rfl) ?_
  refine va_get (D := (dC, dI)) (ci := 15) (v := .ref (d + 81)) (C := RX16) (T := TX16) (N := 65) hx hb hall zx_16 hown hK.1 hP 0 rfl rfl 20 (by decide) (hall _ zw_336) (fun _ h9 => h9) rfl dX16_told_10 ?_
  show W p l e _ s m _ below meth c _ _ _ _ QQ (F0 m 13 ls [.ref (d + 81)])
  refine lv_iload_n hx hb dX16_told_13 rfl (lv_at hl 1 rfl) ?_
  refine zaldr hx hb hK.1 hP 1 6 rfl rfl (zok_in hxm) (zrefs_in (zok_in hxm)) dX16_told_14 ?_
  rw [← ha]
  refine lv_astore_n (lv' := [(3, .ref a), (0, .ref h0), (1, .int x), (2, .int y)]) hx hb dX16_told_15 rfl hl (by decide) rfl (fun ls60050 hl' => ?_)
  clear hl
  have hl : lv_has ls60050 5 [(3, .ref a), (0, .ref h0), (1, .int x), (2, .int y)] := hl'
  clear hl'
  refine lv_iload_n hx hb dX16_told_16 rfl (lv_at hl 3 rfl) ?_
  refine lv_iconst (v := 2) hx hb dX16_told_17 (by decide) ?_
  refine lv_icmp_gt (tgt := 37) hx hb dX16_told_18 (by decide) (fun c_18_b60051 => ?_) (fun c_18_b60051 => ?_)
  · refine lv_iload_n hx hb dX16_told_37 rfl (lv_at hl 3 rfl) ?_
    show W p l e _ s m _ below meth c _ _ _ _ QQ (F0 m 38 ls60050 [.int y])
    refine lv_iconst (v := 3) hx hb dX16_told_38 (by decide) ?_
    refine lv_icmp_ne (tgt := 66) hx hb dX16_told_39 (by decide) (fun c_39_b60052 => ?_) (fun c_39_b60052 => ?_)
    · refine lv_aload_n hx hb dX16_told_66 rfl (lv_at hl 0 rfl) ?_
      refine va_get (D := (dC, dI)) (ci := 13) (v := .int 0) (C := RX14) (T := TX14) (N := 15) hx hb hall zx_14 hown hK.1 hP 2 rfl rfl 0 (by decide) (hall _ zw_402) (fun _ h9 => h9) rfl dX16_told_67 ?_
      refine lv_iconst (v := 4) hx hb dX16_told_70 (by decide) ?_
      refine lv_icmp_ne (tgt := 78) hx hb dX16_told_71 (by decide) (fun _ => ?_) (fun c_71_b60053 => absurd c_71_b60053 (by decide))
      show W p l e _ s m _ below meth c _ _ _ _ QQ (F0 m 78 ls60050 [])
      refine lv_iconst (v := 0) hx hb dX16_told_78 (by decide) ?_
      refine lv_istore (lv' := [(4, .int 0), (3, .ref a), (0, .ref h0), (1, .int x), (2, .int y)]) hx hb dX16_told_79 hl (by decide) rfl (fun ls60054 hl' => ?_)
      clear hl
      have hl : lv_has ls60054 5 [(4, .int 0), (3, .ref a), (0, .ref h0), (1, .int x), (2, .int y)] := hl'
      clear hl'
      refine lv_iload_n hx hb dX16_told_81 rfl (lv_at hl 4 rfl) ?_
      refine lv_if_lt (tgt := 90) hx hb dX16_told_82 (by decide) (fun c_82_b60055 => ?_) (fun c_82_b60055 => ?_)
      · refine lv_iconst (v := (-1)) hx hb dX16_told_90 (by decide) ?_
        rw [← hQ]
        exact W.iret (v := (-1)) hx hb hr (fun zt ht hW => ⟨⟨(-1), (), rfl, by simp [zfive, c_18_b60051, c_39_b60052, c_82_b60055], (show zt.heap.size = s.heap.size by rw [ht])⟩, hS.F ht⟩) hS.2.2 dX16_told_91
      · refine lv_iload_n hx hb dX16_told_85 rfl (lv_at hl 4 rfl) ?_
        refine lv_iconst (v := 4) hx hb dX16_told_86 (by decide) ?_
        refine lv_icmp_le (tgt := 92) hx hb dX16_told_87 (by decide) (fun c_87_b60056 => ?_) (fun c_87_b60056 => ?_)
        · refine lv_iload hx hb dX16_told_92 (lv_at hl 0 rfl) ?_
          refine lv_if_ne (tgt := 100) hx hb dX16_told_94 (by decide) (fun c_94_b60057 => absurd (by decide) c_94_b60057) (fun _ => ?_)
          show W p l e _ s m _ below meth c _ _ _ _ QQ (F0 m 97 ls60054 [])
          refine lv_bipush (v := (-3)) hx hb dX16_told_97 (by decide) ?_
          rw [← hQ]
          exact W.iret (v := (-3)) hx hb hr (fun zt ht hW => ⟨⟨(-3), (), rfl, by simp [zfive, c_18_b60051, c_39_b60052, c_82_b60055, c_87_b60056, Int32.not_lt.mpr c_87_b60056], (show zt.heap.size = s.heap.size by rw [ht])⟩, hS.F ht⟩) hS.2.2 dX16_told_99
        · refine lv_iconst (v := (-1)) hx hb dX16_told_90 (by decide) ?_
          rw [← hQ]
          exact W.iret (v := (-1)) hx hb hr (fun zt ht hW => ⟨⟨(-1), (), rfl, by simp [zfive, c_18_b60051, c_39_b60052, c_82_b60055, c_87_b60056, Int32.not_le.mp c_87_b60056], (show zt.heap.size = s.heap.size by rw [ht])⟩, hS.F ht⟩) hS.2.2 dX16_told_91
    · refine lv_aload_n hx hb dX16_told_42 rfl (lv_at hl 0 rfl) ?_
      refine va_get (D := (dC, dI)) (ci := 13) (v := .int 0) (C := RX14) (T := TX14) (N := 15) hx hb hall zx_14 hown hK.1 hP 2 rfl rfl 0 (by decide) (hall _ zw_402) (fun _ h9 => h9) rfl dX16_told_43 ?_
      refine lv_iconst (v := 3) hx hb dX16_told_46 (by decide) ?_
      refine lv_icmp_eq (tgt := 58) hx hb dX16_told_47 (by decide) (fun c_47_b60058 => absurd c_47_b60058 (by decide)) (fun _ => ?_)
      show W p l e _ s m _ below meth c _ _ _ _ QQ (F0 m 50 ls60050 [])
      refine lv_aload_n hx hb dX16_told_50 rfl (lv_at hl 0 rfl) ?_
      refine va_get (D := (dC, dI)) (ci := 13) (v := .int 0) (C := RX14) (T := TX14) (N := 15) hx hb hall zx_14 hown hK.1 hP 2 rfl rfl 0 (by decide) (hall _ zw_402) (fun _ h9 => h9) rfl dX16_told_51 ?_
      refine lv_iconst (v := 4) hx hb dX16_told_54 (by decide) ?_
      refine lv_icmp_ne (tgt := 62) hx hb dX16_told_55 (by decide) (fun _ => ?_) (fun c_55_b60059 => absurd c_55_b60059 (by decide))
      refine lv_iconst (v := 0) hx hb dX16_told_62 (by decide) ?_
      refine lv_goto (tgt := 79) hx hb dX16_told_63 (by decide) ?_
      show W p l e _ s m _ below meth c _ _ _ _ QQ (F0 m 79 ls60050 [.int 0])
      refine lv_istore (lv' := [(4, .int 0), (3, .ref a), (0, .ref h0), (1, .int x), (2, .int y)]) hx hb dX16_told_79 hl (by decide) rfl (fun ls60060 hl' => ?_)
      clear hl
      have hl : lv_has ls60060 5 [(4, .int 0), (3, .ref a), (0, .ref h0), (1, .int x), (2, .int y)] := hl'
      clear hl'
      refine lv_iload_n hx hb dX16_told_81 rfl (lv_at hl 4 rfl) ?_
      refine lv_if_lt (tgt := 90) hx hb dX16_told_82 (by decide) (fun c_82_b60061 => ?_) (fun c_82_b60061 => ?_)
      · refine lv_iconst (v := (-1)) hx hb dX16_told_90 (by decide) ?_
        rw [← hQ]
        exact W.iret (v := (-1)) hx hb hr (fun zt ht hW => ⟨⟨(-1), (), rfl, by first | (simp [zfive, c_18_b60051, c_39_b60052, c_82_b60061]; done) | exact absurd (c_39_b60052 ▸ c_18_b60051) (by decide) | exact absurd (c_39_b60052 ▸ c_82_b60061) (by decide), (show zt.heap.size = s.heap.size by rw [ht])⟩, hS.F ht⟩) hS.2.2 dX16_told_91
      · refine lv_iload_n hx hb dX16_told_85 rfl (lv_at hl 4 rfl) ?_
        refine lv_iconst (v := 4) hx hb dX16_told_86 (by decide) ?_
        refine lv_icmp_le (tgt := 92) hx hb dX16_told_87 (by decide) (fun c_87_b60062 => ?_) (fun c_87_b60062 => ?_)
        · refine lv_iload hx hb dX16_told_92 (lv_at hl 0 rfl) ?_
          refine lv_if_ne (tgt := 100) hx hb dX16_told_94 (by decide) (fun c_94_b60063 => absurd (by decide) c_94_b60063) (fun _ => ?_)
          show W p l e _ s m _ below meth c _ _ _ _ QQ (F0 m 97 ls60060 [])
          refine lv_bipush (v := (-3)) hx hb dX16_told_97 (by decide) ?_
          rw [← hQ]
          exact W.iret (v := (-3)) hx hb hr (fun zt ht hW => ⟨⟨(-3), (), rfl, by first | (simp [zfive, c_18_b60051, c_39_b60052, c_82_b60061, c_87_b60062, Int32.not_lt.mpr c_87_b60062]; done) | exact absurd (c_39_b60052 ▸ c_18_b60051) (by decide) | exact absurd (c_39_b60052 ▸ c_82_b60061) (by decide) | exact absurd (c_39_b60052 ▸ c_87_b60062) (by decide), (show zt.heap.size = s.heap.size by rw [ht])⟩, hS.F ht⟩) hS.2.2 dX16_told_99
        · refine lv_iconst (v := (-1)) hx hb dX16_told_90 (by decide) ?_
          rw [← hQ]
          exact W.iret (v := (-1)) hx hb hr (fun zt ht hW => ⟨⟨(-1), (), rfl, by first | (simp [zfive, c_18_b60051, c_39_b60052, c_82_b60061, c_87_b60062, Int32.not_le.mp c_87_b60062]; done) | exact absurd (c_39_b60052 ▸ c_18_b60051) (by decide) | exact absurd (c_39_b60052 ▸ c_82_b60061) (by decide) | exact absurd (c_39_b60052 ▸ c_87_b60062) (by decide), (show zt.heap.size = s.heap.size by rw [ht])⟩, hS.F ht⟩) hS.2.2 dX16_told_91
  · refine lv_aload_n hx hb dX16_told_21 rfl (lv_at hl 0 rfl) ?_
    show W p l e _ s m _ below meth c _ _ _ _ QQ (F0 m 22 ls60050 [.ref a])
    refine va_get (D := (dC, dI)) (ci := 13) (v := .int 0) (C := RX14) (T := TX14) (N := 15) hx hb hall zx_14 hown hK.1 hP 2 rfl rfl 0 (by decide) (hall _ zw_402) (fun _ h9 => h9) rfl dX16_told_22 ?_
    refine lv_iconst (v := 2) hx hb dX16_told_25 (by decide) ?_
    refine lv_icmp_ne (tgt := 33) hx hb dX16_told_26 (by decide) (fun _ => ?_) (fun c_26_b60064 => absurd c_26_b60064 (by decide))
    refine lv_iconst (v := 0) hx hb dX16_told_33 (by decide) ?_
    refine lv_goto (tgt := 79) hx hb dX16_told_34 (by decide) ?_
    show W p l e _ s m _ below meth c _ _ _ _ QQ (F0 m 79 ls60050 [.int 0])
    refine lv_istore (lv' := [(4, .int 0), (3, .ref a), (0, .ref h0), (1, .int x), (2, .int y)]) hx hb dX16_told_79 hl (by decide) rfl (fun ls60065 hl' => ?_)
    clear hl
    have hl : lv_has ls60065 5 [(4, .int 0), (3, .ref a), (0, .ref h0), (1, .int x), (2, .int y)] := hl'
    clear hl'
    refine lv_iload_n hx hb dX16_told_81 rfl (lv_at hl 4 rfl) ?_
    refine lv_if_lt (tgt := 90) hx hb dX16_told_82 (by decide) (fun c_82_b60066 => ?_) (fun c_82_b60066 => ?_)
    · refine lv_iconst (v := (-1)) hx hb dX16_told_90 (by decide) ?_
      rw [← hQ]
      exact W.iret (v := (-1)) hx hb hr (fun zt ht hW => ⟨⟨(-1), (), rfl, by simp [zfive, c_18_b60051, c_82_b60066], (show zt.heap.size = s.heap.size by rw [ht])⟩, hS.F ht⟩) hS.2.2 dX16_told_91
    · refine lv_iload_n hx hb dX16_told_85 rfl (lv_at hl 4 rfl) ?_
      refine lv_iconst (v := 4) hx hb dX16_told_86 (by decide) ?_
      refine lv_icmp_le (tgt := 92) hx hb dX16_told_87 (by decide) (fun c_87_b60067 => ?_) (fun c_87_b60067 => ?_)
      · refine lv_iload hx hb dX16_told_92 (lv_at hl 0 rfl) ?_
        refine lv_if_ne (tgt := 100) hx hb dX16_told_94 (by decide) (fun c_94_b60068 => absurd (by decide) c_94_b60068) (fun _ => ?_)
        show W p l e _ s m _ below meth c _ _ _ _ QQ (F0 m 97 ls60065 [])
        refine lv_bipush (v := (-3)) hx hb dX16_told_97 (by decide) ?_
        rw [← hQ]
        exact W.iret (v := (-3)) hx hb hr (fun zt ht hW => ⟨⟨(-3), (), rfl, by simp [zfive, c_18_b60051, c_82_b60066, c_87_b60067, Int32.not_lt.mpr c_87_b60067], (show zt.heap.size = s.heap.size by rw [ht])⟩, hS.F ht⟩) hS.2.2 dX16_told_99
      · refine lv_iconst (v := (-1)) hx hb dX16_told_90 (by decide) ?_
        rw [← hQ]
        exact W.iret (v := (-1)) hx hb hr (fun zt ht hW => ⟨⟨(-1), (), rfl, by simp [zfive, c_18_b60051, c_82_b60066, c_87_b60067, Int32.not_le.mp c_87_b60067], (show zt.heap.size = s.heap.size by rw [ht])⟩, hS.F ht⟩) hS.2.2 dX16_told_91

set_option maxHeartbeats 4000000 in
set_option maxRecDepth 100000 in
theorem c_X16_factorial__out (l : Launch) (dC : Nat → ClassId) (dI : Nat → Nat → Nat) (aC : Nat → ClassId) (h0 d : Nat) (x y z : Int32) (sz : Nat) (hxm : ¬ zok x = true) : Met l yX16_factorial_ w_X16_factorial_ ({ frames := 2, cells := 0, slots := 0, locals := 44 }) (zPre (dC, dI) aC [(h0, .inr (15, [.ref (d + 0), .int 0, .ref (d + 1), .int 0, .ref (d + 2), .ref (d + 3), .ref (d + 68), .ref (d + 77), .ref (d + 78), .int 0, .int 0, .ref (d + 79), .int 0, .int 0, .int 0, .ref (d + 80), .int 0, .int 0, .int 0, .int 0, .ref (d + 81), .ref (d + 82), .int (-1), .ref (d + 91), .int 0, .int 0, .ref (d + 92), .int 0, .ref (d + 93), .int 0, .ref (d + 94), .int 0, .ref (d + 95), .ref (d + 96), .ref (d + 97), .ref (d + 98), .int 0, .int 0, .ref (d + 99), .null, .null, .null, .null, .null, .ref (d + 148), .ref (d + 175), .ref (d + 176), .ref (d + 177), .int 0, .ref (d + 178), .ref (d + 179), .ref (d + 180), .ref (d + 185), .ref (d + 190), .ref (d + 191), .ref (d + 192), .ref (d + 193), .ref (d + 201), .ref (d + 209), .ref (d + 210), .ref (d + 211), .ref (d + 272), .ref (d + 273), .int 0, .ref (d + 274)])), (d + 81, .inl (aC 6, 12, .inr (.inr (.inr (.inr (zrefs (fun i => d + (7485 + 9 * i)) 12))))))] sz [.ref h0, .int x, .int y, .int z]) (va_Qi (fun (r : Int32) (_ : Unit) => r = -1) (fun _ zt => zt.heap.size = sz) (zN sz)) 0 0 (zN sz) := by
  refine Met.ofW (cc := cX16_factorial_) (maxL := 5) (ret := (some .int)) (by decide) rfl ?_
  intro p e s m args below meth c s₁ B hml hv
  generalize hQ : MQ below _ _ s _ _ _ = QQ
  obtain ⟨rfl, hsz, hP, hK, hD0⟩ := hv
  have hx := B.exec
  have hb := B.bytes
  have hr := B.returns
  have hts := atoms_spec (ws := w_X16_factorial_) B.pre
  have hall := fun (w : Cond) (h : w ∈ zAll) => hts w (List.mem_cons_of_mem _ h)
  have hown : s.vm.findClass RX16 = some m.cls := findClass_of_methodNamed B.named
  have hlocks := B.notSynchronized
  subst hsz
  have hA : ∀ q : Nat, s.heap.size ≤ q → zN s.heap.size q := fun q h => h
  have hS : va_S (zN s.heap.size) s.heap s.heap [] := va_S.rf
  have hD := hD0
  have hl := lv_entry ([.ref h0, .int x, .int y, .int z]) (n := 5) (Nat.le_of_ble_eq_true rfl)
  rw [lg_entry_eq]
  generalize (lg_sl ([.ref h0, .int x, .int y, .int z]) ++ List.replicate (5 - (lg_sl ([.ref h0, .int x, .int y, .int z])).length) Slot.unset).toArray = ls at hl ⊢
  have hl : lv_has ls 5 [(0, .ref h0), (1, .int x), (2, .int y), (3, .int z)] := hl
  refine lv_iload_n hx hb dX16_factorial__0 rfl (lv_at hl 1 rfl) ?_
  refine zro_i hS hA (va_runS (As := [.int x]) (rest := []) ⟨hx, hb, hml, hown, hall⟩ (c_X16_isSlot l dC dI aC x s.heap.size) (va_cwS 1 hall (zgS zw_434 zw_436 zw_812 g_X16_isSlot) rfl rfl rfl (by decide +kernel) ⟨Nat.le_of_ble_eq_true rfl, Nat.le_of_ble_eq_true rfl⟩) (zPre_S (As := [.int x]) hK hP hD [] rfl (by decide +kernel)) rfl rfl hl.1 rfl (lv_room (Nat.le_of_ble_eq_true rfl)) dX16_factorial__1 ⟨Nat.le_of_ble_eq_true rfl, Nat.le_of_ble_eq_true rfl⟩) (fun r60069 L60070 hw hS' => ?_)
  clear hS
  have hS := hS'
  clear hS'
  obtain rfl : r60069 = 0 := hw.trans (zisl_0 hxm)
  try clear hw
  refine lv_if_ne (tgt := 9) hx hb dX16_factorial__4 (by decide) (fun c_4_b60071 => absurd (by decide) c_4_b60071) (fun _ => ?_)
  refine lv_iconst (v := (-1)) hx hb dX16_factorial__7 (by decide) ?_
  rw [← hQ]
  exact W.iret (v := (-1)) hx hb hr (fun zt ht hW => ⟨⟨(-1), (), rfl, rfl, (show zt.heap.size = s.heap.size by rw [ht])⟩, hS.F ht⟩) hS.2.2 dX16_factorial__8

set_option maxHeartbeats 4000000 in
set_option maxRecDepth 100000 in
theorem c_X16_factorial__in (l : Launch) (dC : Nat → ClassId) (dI : Nat → Nat → Nat) (aC : Nat → ClassId) (h0 d a : Nat) (x y z : Int32) (sz : Nat) (hxm : zok x = true) (ha : a = d + (7485 + 9 * x.toNatClampNeg)) : Met l yX16_factorial_ w_X16_factorial_ ({ frames := 2, cells := 0, slots := 0, locals := 44 }) (zPre (dC, dI) aC [(h0, .inr (15, [.ref (d + 0), .int 0, .ref (d + 1), .int 0, .ref (d + 2), .ref (d + 3), .ref (d + 68), .ref (d + 77), .ref (d + 78), .int 0, .int 0, .ref (d + 79), .int 0, .int 0, .int 0, .ref (d + 80), .int 0, .int 0, .int 0, .int 0, .ref (d + 81), .ref (d + 82), .int (-1), .ref (d + 91), .int 0, .int 0, .ref (d + 92), .int 0, .ref (d + 93), .int 0, .ref (d + 94), .int 0, .ref (d + 95), .ref (d + 96), .ref (d + 97), .ref (d + 98), .int 0, .int 0, .ref (d + 99), .null, .null, .null, .null, .null, .ref (d + 148), .ref (d + 175), .ref (d + 176), .ref (d + 177), .int 0, .ref (d + 178), .ref (d + 179), .ref (d + 180), .ref (d + 185), .ref (d + 190), .ref (d + 191), .ref (d + 192), .ref (d + 193), .ref (d + 201), .ref (d + 209), .ref (d + 210), .ref (d + 211), .ref (d + 272), .ref (d + 273), .int 0, .ref (d + 274)])), (d + 81, .inl (aC 6, 12, .inr (.inr (.inr (.inr (zrefs (fun i => d + (7485 + 9 * i)) 12)))))), (a, .inr (13, [.int 0, .ref (a + 1 + 0), .ref (a + 1 + 1), .int 0, .int 0, .int 0, .ref (a + 1 + 2), .ref (a + 1 + 3), .ref (a + 1 + 4), .ref (a + 1 + 5), .int 0, .ref (a + 1 + 6), .int 0, .int 0, .ref (a + 1 + 7)]))] sz [.ref h0, .int x, .int y, .int z]) (va_Qi (fun (r : Int32) (_ : Unit) => r = 0) (fun _ zt => zt.heap.size = sz) (zN sz)) 0 0 (zN sz) := by
  refine Met.ofW (cc := cX16_factorial_) (maxL := 5) (ret := (some .int)) (by decide) rfl ?_
  intro p e s m args below meth c s₁ B hml hv
  generalize hQ : MQ below _ _ s _ _ _ = QQ
  obtain ⟨rfl, hsz, hP, hK, hD0⟩ := hv
  have hx := B.exec
  have hb := B.bytes
  have hr := B.returns
  have hts := atoms_spec (ws := w_X16_factorial_) B.pre
  have hall := fun (w : Cond) (h : w ∈ zAll) => hts w (List.mem_cons_of_mem _ h)
  have hown : s.vm.findClass RX16 = some m.cls := findClass_of_methodNamed B.named
  have hlocks := B.notSynchronized
  subst hsz
  have hA : ∀ q : Nat, s.heap.size ≤ q → zN s.heap.size q := fun q h => h
  have hS : va_S (zN s.heap.size) s.heap s.heap [] := va_S.rf
  have hD := hD0
  have hl := lv_entry ([.ref h0, .int x, .int y, .int z]) (n := 5) (Nat.le_of_ble_eq_true rfl)
  rw [lg_entry_eq]
  generalize (lg_sl ([.ref h0, .int x, .int y, .int z]) ++ List.replicate (5 - (lg_sl ([.ref h0, .int x, .int y, .int z])).length) Slot.unset).toArray = ls at hl ⊢
  have hl : lv_has ls 5 [(0, .ref h0), (1, .int x), (2, .int y), (3, .int z)] := hl
  refine lv_iload_n hx hb dX16_factorial__0 rfl (lv_at hl 1 rfl) ?_
  refine zro_i hS hA (va_runS (As := [.int x]) (rest := []) ⟨hx, hb, hml, hown, hall⟩ (c_X16_isSlot l dC dI aC x s.heap.size) (va_cwS 1 hall (zgS zw_434 zw_436 zw_812 g_X16_isSlot) rfl rfl rfl (by decide +kernel) ⟨Nat.le_of_ble_eq_true rfl, Nat.le_of_ble_eq_true rfl⟩) (zPre_S (As := [.int x]) hK hP hD [] rfl (by decide +kernel)) rfl rfl hl.1 rfl (lv_room (Nat.le_of_ble_eq_true rfl)) dX16_factorial__1 ⟨Nat.le_of_ble_eq_true rfl, Nat.le_of_ble_eq_true rfl⟩) (fun r60072 L60073 hw hS' => ?_)
  clear hS
  have hS := hS'
  clear hS'
  obtain rfl : r60072 = 1 := hw.trans (zisl_1 hxm)
  try clear hw
  refine lv_if_ne (tgt := 9) hx hb dX16_factorial__4 (by decide) (fun _ => ?_) (fun c_4_b60074 => absurd c_4_b60074 (by decide))
  refine lv_aload_n hx hb dX16_factorial__9 rfl (lv_at hl 0 rfl) ?_
  refine va_get (D := (dC, dI)) (ci := 15) (v := .ref (d + 81)) (C := RX16) (T := TX16) (N := 65) hx hb hall zx_16 hown hK.1 hP 0 rfl rfl 20 (by decide) (hall _ zw_336) (fun _ h9 => h9) rfl dX16_factorial__10 ?_
  show W p l e _ s m _ below meth c _ _ _ _ QQ (F0 m 13 ls [.ref (d + 81)])
  refine lv_iload_n hx hb dX16_factorial__13 rfl (lv_at hl 1 rfl) ?_
  refine zaldr hx hb hK.1 hP 1 6 rfl rfl (zok_in hxm) (zrefs_in (zok_in hxm)) dX16_factorial__14 ?_
  rw [← ha]
  refine lv_astore (lv' := [(4, .ref a), (0, .ref h0), (1, .int x), (2, .int y), (3, .int z)]) hx hb dX16_factorial__15 hl (by decide) rfl (fun ls60075 hl' => ?_)
  clear hl
  have hl : lv_has ls60075 5 [(4, .ref a), (0, .ref h0), (1, .int x), (2, .int y), (3, .int z)] := hl'
  clear hl'
  refine lv_aload hx hb dX16_factorial__17 (lv_at hl 0 rfl) ?_
  refine va_get (D := (dC, dI)) (ci := 13) (v := .int 0) (C := RX14) (T := TX14) (N := 15) hx hb hall zx_14 hown hK.1 hP 2 rfl rfl 0 (by decide) (hall _ zw_402) (fun _ h9 => h9) rfl dX16_factorial__19 ?_
  show W p l e _ s m _ below meth c _ _ _ _ QQ (F0 m 22 ls60075 [.int 0])
  refine lv_iconst (v := 2) hx hb dX16_factorial__22 (by decide) ?_
  refine lv_icmp_ne (tgt := 48) hx hb dX16_factorial__23 (by decide) (fun _ => ?_) (fun c_23_b60076 => absurd c_23_b60076 (by decide))
  refine lv_iconst (v := 0) hx hb dX16_factorial__48 (by decide) ?_
  rw [← hQ]
  exact W.iret (v := 0) hx hb hr (fun zt ht hW => ⟨⟨0, (), rfl, rfl, (show zt.heap.size = s.heap.size by rw [ht])⟩, hS.F ht⟩) hS.2.2 dX16_factorial__49

set_option maxHeartbeats 4000000 in
set_option maxRecDepth 100000 in
theorem c_X16_work_out (l : Launch) (dC : Nat → ClassId) (dI : Nat → Nat → Nat) (aC : Nat → ClassId) (h0 d : Nat) (o x y z : Int32) (sz : Nat) (hxm : ¬ zok x = true) : Met l yX16_work w_X16_work ({ frames := 2, cells := 0, slots := 0, locals := 44 }) (zPre (dC, dI) aC [(h0, .inr (15, [.ref (d + 0), .int 0, .ref (d + 1), .int 0, .ref (d + 2), .ref (d + 3), .ref (d + 68), .ref (d + 77), .ref (d + 78), .int 0, .int 0, .ref (d + 79), .int 0, .int 0, .int 0, .ref (d + 80), .int 0, .int 0, .int 0, .int 0, .ref (d + 81), .ref (d + 82), .int (-1), .ref (d + 91), .int 0, .int 0, .ref (d + 92), .int 0, .ref (d + 93), .int 0, .ref (d + 94), .int 0, .ref (d + 95), .ref (d + 96), .ref (d + 97), .ref (d + 98), .int 0, .int 0, .ref (d + 99), .null, .null, .null, .null, .null, .ref (d + 148), .ref (d + 175), .ref (d + 176), .ref (d + 177), .int 0, .ref (d + 178), .ref (d + 179), .ref (d + 180), .ref (d + 185), .ref (d + 190), .ref (d + 191), .ref (d + 192), .ref (d + 193), .ref (d + 201), .ref (d + 209), .ref (d + 210), .ref (d + 211), .ref (d + 272), .ref (d + 273), .int 0, .ref (d + 274)])), (d + 81, .inl (aC 6, 12, .inr (.inr (.inr (.inr (zrefs (fun i => d + (7485 + 9 * i)) 12))))))] sz [.ref h0, .int o, .int x, .int y, .int z]) (va_Qi (fun (r : Int32) (_ : Unit) => r = -1) (fun _ zt => zt.heap.size = sz) (zN sz)) 0 0 (zN sz) := by
  refine Met.ofW (cc := cX16_work) (maxL := 12) (ret := (some .int)) (by decide) rfl ?_
  intro p e s m args below meth c s₁ B hml hv
  generalize hQ : MQ below _ _ s _ _ _ = QQ
  obtain ⟨rfl, hsz, hP, hK, hD0⟩ := hv
  have hx := B.exec
  have hb := B.bytes
  have hr := B.returns
  have hts := atoms_spec (ws := w_X16_work) B.pre
  have hall := fun (w : Cond) (h : w ∈ zAll) => hts w (List.mem_cons_of_mem _ h)
  have hown : s.vm.findClass RX16 = some m.cls := findClass_of_methodNamed B.named
  have hlocks := B.notSynchronized
  subst hsz
  have hA : ∀ q : Nat, s.heap.size ≤ q → zN s.heap.size q := fun q h => h
  have hS : va_S (zN s.heap.size) s.heap s.heap [] := va_S.rf
  have hD := hD0
  have hl := lv_entry ([.ref h0, .int o, .int x, .int y, .int z]) (n := 12) (Nat.le_of_ble_eq_true rfl)
  rw [lg_entry_eq]
  generalize (lg_sl ([.ref h0, .int o, .int x, .int y, .int z]) ++ List.replicate (12 - (lg_sl ([.ref h0, .int o, .int x, .int y, .int z])).length) Slot.unset).toArray = ls at hl ⊢
  have hl : lv_has ls 12 [(0, .ref h0), (1, .int o), (2, .int x), (3, .int y), (4, .int z)] := hl
  refine lv_iload_n hx hb dX16_work_0 rfl (lv_at hl 2 rfl) ?_
  refine zro_i hS hA (va_runS (As := [.int x]) (rest := []) ⟨hx, hb, hml, hown, hall⟩ (c_X16_isSlot l dC dI aC x s.heap.size) (va_cwS 1 hall (zgS zw_434 zw_436 zw_812 g_X16_isSlot) rfl rfl rfl (by decide +kernel) ⟨Nat.le_of_ble_eq_true rfl, Nat.le_of_ble_eq_true rfl⟩) (zPre_S (As := [.int x]) hK hP hD [] rfl (by decide +kernel)) rfl rfl hl.1 rfl (lv_room (Nat.le_of_ble_eq_true rfl)) dX16_work_1 ⟨Nat.le_of_ble_eq_true rfl, Nat.le_of_ble_eq_true rfl⟩) (fun r60077 L60078 hw hS' => ?_)
  clear hS
  have hS := hS'
  clear hS'
  obtain rfl : r60077 = 0 := hw.trans (zisl_0 hxm)
  try clear hw
  refine lv_if_eq (tgt := 22) hx hb dX16_work_4 (by decide) (fun _ => ?_) (fun c_4_b60079 => absurd (by decide) c_4_b60079)
  refine lv_iconst (v := (-1)) hx hb dX16_work_22 (by decide) ?_
  rw [← hQ]
  exact W.iret (v := (-1)) hx hb hr (fun zt ht hW => ⟨⟨(-1), (), rfl, rfl, (show zt.heap.size = s.heap.size by rw [ht])⟩, hS.F ht⟩) hS.2.2 dX16_work_23

set_option maxHeartbeats 4000000 in
set_option maxRecDepth 100000 in
theorem c_X16_work_in (l : Launch) (dC : Nat → ClassId) (dI : Nat → Nat → Nat) (aC : Nat → ClassId) (h0 d a : Nat) (o x y z : Int32) (sz : Nat) (hxm : zok x = true) (ha : a = d + (7485 + 9 * x.toNatClampNeg)) : Met l yX16_work w_X16_work ({ frames := 2, cells := 0, slots := 0, locals := 44 }) (zPre (dC, dI) aC [(h0, .inr (15, [.ref (d + 0), .int 0, .ref (d + 1), .int 0, .ref (d + 2), .ref (d + 3), .ref (d + 68), .ref (d + 77), .ref (d + 78), .int 0, .int 0, .ref (d + 79), .int 0, .int 0, .int 0, .ref (d + 80), .int 0, .int 0, .int 0, .int 0, .ref (d + 81), .ref (d + 82), .int (-1), .ref (d + 91), .int 0, .int 0, .ref (d + 92), .int 0, .ref (d + 93), .int 0, .ref (d + 94), .int 0, .ref (d + 95), .ref (d + 96), .ref (d + 97), .ref (d + 98), .int 0, .int 0, .ref (d + 99), .null, .null, .null, .null, .null, .ref (d + 148), .ref (d + 175), .ref (d + 176), .ref (d + 177), .int 0, .ref (d + 178), .ref (d + 179), .ref (d + 180), .ref (d + 185), .ref (d + 190), .ref (d + 191), .ref (d + 192), .ref (d + 193), .ref (d + 201), .ref (d + 209), .ref (d + 210), .ref (d + 211), .ref (d + 272), .ref (d + 273), .int 0, .ref (d + 274)])), (d + 81, .inl (aC 6, 12, .inr (.inr (.inr (.inr (zrefs (fun i => d + (7485 + 9 * i)) 12)))))), (a, .inr (13, [.int 0, .ref (a + 1 + 0), .ref (a + 1 + 1), .int 0, .int 0, .int 0, .ref (a + 1 + 2), .ref (a + 1 + 3), .ref (a + 1 + 4), .ref (a + 1 + 5), .int 0, .ref (a + 1 + 6), .int 0, .int 0, .ref (a + 1 + 7)]))] sz [.ref h0, .int o, .int x, .int y, .int z]) (va_Qi (fun (r : Int32) (_ : Unit) => r = zwork y z) (fun _ zt => zt.heap.size = sz) (zN sz)) 0 0 (zN sz) := by
  refine Met.ofW (cc := cX16_work) (maxL := 12) (ret := (some .int)) (by decide) rfl ?_
  intro p e s m args below meth c s₁ B hml hv
  generalize hQ : MQ below _ _ s _ _ _ = QQ
  obtain ⟨rfl, hsz, hP, hK, hD0⟩ := hv
  have hx := B.exec
  have hb := B.bytes
  have hr := B.returns
  have hts := atoms_spec (ws := w_X16_work) B.pre
  have hall := fun (w : Cond) (h : w ∈ zAll) => hts w (List.mem_cons_of_mem _ h)
  have hown : s.vm.findClass RX16 = some m.cls := findClass_of_methodNamed B.named
  have hlocks := B.notSynchronized
  subst hsz
  have hA : ∀ q : Nat, s.heap.size ≤ q → zN s.heap.size q := fun q h => h
  have hS : va_S (zN s.heap.size) s.heap s.heap [] := va_S.rf
  have hD := hD0
  have hl := lv_entry ([.ref h0, .int o, .int x, .int y, .int z]) (n := 12) (Nat.le_of_ble_eq_true rfl)
  rw [lg_entry_eq]
  generalize (lg_sl ([.ref h0, .int o, .int x, .int y, .int z]) ++ List.replicate (12 - (lg_sl ([.ref h0, .int o, .int x, .int y, .int z])).length) Slot.unset).toArray = ls at hl ⊢
  have hl : lv_has ls 12 [(0, .ref h0), (1, .int o), (2, .int x), (3, .int y), (4, .int z)] := hl
  refine lv_iload_n hx hb dX16_work_0 rfl (lv_at hl 2 rfl) ?_
  refine zro_i hS hA (va_runS (As := [.int x]) (rest := []) ⟨hx, hb, hml, hown, hall⟩ (c_X16_isSlot l dC dI aC x s.heap.size) (va_cwS 1 hall (zgS zw_434 zw_436 zw_812 g_X16_isSlot) rfl rfl rfl (by decide +kernel) ⟨Nat.le_of_ble_eq_true rfl, Nat.le_of_ble_eq_true rfl⟩) (zPre_S (As := [.int x]) hK hP hD [] rfl (by decide +kernel)) rfl rfl hl.1 rfl (lv_room (Nat.le_of_ble_eq_true rfl)) dX16_work_1 ⟨Nat.le_of_ble_eq_true rfl, Nat.le_of_ble_eq_true rfl⟩) (fun r60080 L60081 hw hS' => ?_)
  clear hS
  have hS := hS'
  clear hS'
  obtain rfl : r60080 = 1 := hw.trans (zisl_1 hxm)
  try clear hw
  refine lv_if_eq (tgt := 22) hx hb dX16_work_4 (by decide) (fun c_4_b60082 => absurd c_4_b60082 (by decide)) (fun _ => ?_)
  refine lv_iload_n hx hb dX16_work_7 rfl (lv_at hl 3 rfl) ?_
  refine zro_i hS hA (va_runS (As := [.int y]) (rest := []) ⟨hx, hb, hml, hown, hall⟩ (c_X16_isSlot l dC dI aC y s.heap.size) (va_cwS 1 hall (zgS zw_434 zw_436 zw_812 g_X16_isSlot) rfl rfl rfl (by decide +kernel) ⟨Nat.le_of_ble_eq_true rfl, Nat.le_of_ble_eq_true rfl⟩) (zPre_S (As := [.int y]) hK hP hD [] rfl (by decide +kernel)) rfl rfl hl.1 rfl (lv_room (Nat.le_of_ble_eq_true rfl)) dX16_work_8 ⟨Nat.le_of_ble_eq_true rfl, Nat.le_of_ble_eq_true rfl⟩) (fun r60083 L60084 hw hS' => ?_)
  clear hS
  have hS := hS'
  clear hS'
  by_cases z60085 : zok y = true
  · obtain rfl : r60083 = 1 := hw.trans (zisl_1 z60085)
    try clear hw
    show W p l e _ s m _ below meth c _ _ _ _ QQ (F0 m 11 ls [.int 1])
    refine lv_if_eq (tgt := 22) hx hb dX16_work_11 (by decide) (fun c_11_b60086 => absurd c_11_b60086 (by decide)) (fun _ => ?_)
    refine lv_iload hx hb dX16_work_14 (lv_at hl 4 rfl) ?_
    refine zro_i hS hA (va_runS (As := [.int z]) (rest := []) ⟨hx, hb, hml, hown, hall⟩ (c_X16_isSlot l dC dI aC z s.heap.size) (va_cwS 1 hall (zgS zw_434 zw_436 zw_812 g_X16_isSlot) rfl rfl rfl (by decide +kernel) ⟨Nat.le_of_ble_eq_true rfl, Nat.le_of_ble_eq_true rfl⟩) (zPre_S (As := [.int z]) hK hP hD [] rfl (by decide +kernel)) rfl rfl hl.1 rfl (lv_room (Nat.le_of_ble_eq_true rfl)) dX16_work_16 ⟨Nat.le_of_ble_eq_true rfl, Nat.le_of_ble_eq_true rfl⟩) (fun r60087 L60088 hw hS' => ?_)
    clear hS
    have hS := hS'
    clear hS'
    by_cases z60089 : zok z = true
    · obtain rfl : r60087 = 1 := hw.trans (zisl_1 z60089)
      try clear hw
      show W p l e _ s m _ below meth c _ _ _ _ QQ (F0 m 19 ls [.int 1])
      refine lv_if_ne (tgt := 24) hx hb dX16_work_19 (by decide) (fun _ => ?_) (fun c_19_b60090 => absurd c_19_b60090 (by decide))
      refine lv_aload_n hx hb dX16_work_24 rfl (lv_at hl 0 rfl) ?_
      refine va_get (D := (dC, dI)) (ci := 15) (v := .ref (d + 81)) (C := RX16) (T := TX16) (N := 65) hx hb hall zx_16 hown hK.1 hP 0 rfl rfl 20 (by decide) (hall _ zw_336) (fun _ h9 => h9) rfl dX16_work_25 ?_
      refine lv_iload_n hx hb dX16_work_28 rfl (lv_at hl 2 rfl) ?_
      refine zaldr hx hb hK.1 hP 1 6 rfl rfl (zok_in hxm) (zrefs_in (zok_in hxm)) dX16_work_29 ?_
      rw [← ha]
      show W p l e _ s m _ below meth c _ _ _ _ QQ (F0 m 30 ls [.ref a])
      refine lv_astore (lv' := [(5, .ref a), (0, .ref h0), (1, .int o), (2, .int x), (3, .int y), (4, .int z)]) hx hb dX16_work_30 hl (by decide) rfl (fun ls60091 hl' => ?_)
      clear hl
      have hl : lv_has ls60091 12 [(5, .ref a), (0, .ref h0), (1, .int o), (2, .int x), (3, .int y), (4, .int z)] := hl'
      clear hl'
      refine lv_aload_n hx hb dX16_work_32 rfl (lv_at hl 1 rfl) ?_
      refine va_get (D := (dC, dI)) (ci := 15) (v := .ref (d + 81)) (C := RX16) (T := TX16) (N := 65) hx hb hall zx_16 hown hK.1 hP 0 rfl rfl 20 (by decide) (hall _ zw_336) (fun _ h9 => h9) rfl dX16_work_33 ?_
      refine lv_iload_n hx hb dX16_work_36 rfl (lv_at hl 4 rfl) ?_
      refine zaldr hx hb hK.1 hP 1 6 rfl rfl (zok_in z60085) (zrefs_in (zok_in z60085)) dX16_work_37 ?_
      show W p l e _ s m _ below meth c _ _ _ _ QQ (F0 m 38 ls60091 [.ref (d + (7485 + 9 * y.toNatClampNeg))])
      refine lv_astore (lv' := [(6, .ref (d + (7485 + 9 * y.toNatClampNeg))), (5, .ref a), (0, .ref h0), (1, .int o), (2, .int x), (3, .int y), (4, .int z)]) hx hb dX16_work_38 hl (by decide) rfl (fun ls60092 hl' => ?_)
      clear hl
      have hl : lv_has ls60092 12 [(6, .ref (d + (7485 + 9 * y.toNatClampNeg))), (5, .ref a), (0, .ref h0), (1, .int o), (2, .int x), (3, .int y), (4, .int z)] := hl'
      clear hl'
      refine lv_aload hx hb dX16_work_40 (lv_at hl 1 rfl) ?_
      refine va_get (D := (dC, dI)) (ci := 13) (v := .int 0) (C := RX14) (T := TX14) (N := 15) hx hb hall zx_14 hown hK.1 hP 2 rfl rfl 0 (by decide) (hall _ zw_402) (fun _ h9 => h9) rfl dX16_work_42 ?_
      refine lv_iconst (v := 1) hx hb dX16_work_45 (by decide) ?_
      refine lv_icmp_eq (tgt := 58) hx hb dX16_work_46 (by decide) (fun c_46_b60093 => absurd c_46_b60093 (by decide)) (fun _ => ?_)
      show W p l e _ s m _ below meth c _ _ _ _ QQ (F0 m 49 ls60092 [])
      refine lv_aload hx hb dX16_work_49 (lv_at hl 1 rfl) ?_
      refine va_get (D := (dC, dI)) (ci := 13) (v := .int 0) (C := RX14) (T := TX14) (N := 15) hx hb hall zx_14 hown hK.1 hP 2 rfl rfl 0 (by decide) (hall _ zw_402) (fun _ h9 => h9) rfl dX16_work_51 ?_
      refine lv_iconst (v := 2) hx hb dX16_work_54 (by decide) ?_
      refine lv_icmp_ne (tgt := 76) hx hb dX16_work_55 (by decide) (fun _ => ?_) (fun c_55_b60094 => absurd c_55_b60094 (by decide))
      refine lv_bipush (v := (-3)) hx hb dX16_work_76 (by decide) ?_
      rw [← hQ]
      exact W.iret (v := (-3)) hx hb hr (fun zt ht hW => ⟨⟨(-3), (), rfl, by simp [zwork, z60085, z60089], (show zt.heap.size = s.heap.size by rw [ht])⟩, hS.F ht⟩) hS.2.2 dX16_work_78
    · obtain rfl : r60087 = 0 := hw.trans (zisl_0 z60089)
      try clear hw
      show W p l e _ s m _ below meth c _ _ _ _ QQ (F0 m 19 ls [.int 0])
      refine lv_if_ne (tgt := 24) hx hb dX16_work_19 (by decide) (fun c_19_b60095 => absurd (by decide) c_19_b60095) (fun _ => ?_)
      refine lv_iconst (v := (-1)) hx hb dX16_work_22 (by decide) ?_
      rw [← hQ]
      exact W.iret (v := (-1)) hx hb hr (fun zt ht hW => ⟨⟨(-1), (), rfl, by simp [zwork, z60085, z60089], (show zt.heap.size = s.heap.size by rw [ht])⟩, hS.F ht⟩) hS.2.2 dX16_work_23
  · obtain rfl : r60083 = 0 := hw.trans (zisl_0 z60085)
    try clear hw
    show W p l e _ s m _ below meth c _ _ _ _ QQ (F0 m 11 ls [.int 0])
    refine lv_if_eq (tgt := 22) hx hb dX16_work_11 (by decide) (fun _ => ?_) (fun c_11_b60096 => absurd (by decide) c_11_b60096)
    refine lv_iconst (v := (-1)) hx hb dX16_work_22 (by decide) ?_
    rw [← hQ]
    exact W.iret (v := (-1)) hx hb hr (fun zt ht hW => ⟨⟨(-1), (), rfl, by simp [zwork, z60085], (show zt.heap.size = s.heap.size by rw [ht])⟩, hS.F ht⟩) hS.2.2 dX16_work_23

set_option maxHeartbeats 4000000 in
set_option maxRecDepth 100000 in
theorem c_X16_value_out (l : Launch) (dC : Nat → ClassId) (dI : Nat → Nat → Nat) (aC : Nat → ClassId) (h0 d : Nat) (x y z : Int32) (sz : Nat) (hxm : ¬ zok x = true) : Met l yX16_value w_X16_value ({ frames := 2, cells := 0, slots := 0, locals := 44 }) (zPre (dC, dI) aC [(h0, .inr (15, [.ref (d + 0), .int 0, .ref (d + 1), .int 0, .ref (d + 2), .ref (d + 3), .ref (d + 68), .ref (d + 77), .ref (d + 78), .int 0, .int 0, .ref (d + 79), .int 0, .int 0, .int 0, .ref (d + 80), .int 0, .int 0, .int 0, .int 0, .ref (d + 81), .ref (d + 82), .int (-1), .ref (d + 91), .int 0, .int 0, .ref (d + 92), .int 0, .ref (d + 93), .int 0, .ref (d + 94), .int 0, .ref (d + 95), .ref (d + 96), .ref (d + 97), .ref (d + 98), .int 0, .int 0, .ref (d + 99), .null, .null, .null, .null, .null, .ref (d + 148), .ref (d + 175), .ref (d + 176), .ref (d + 177), .int 0, .ref (d + 178), .ref (d + 179), .ref (d + 180), .ref (d + 185), .ref (d + 190), .ref (d + 191), .ref (d + 192), .ref (d + 193), .ref (d + 201), .ref (d + 209), .ref (d + 210), .ref (d + 211), .ref (d + 272), .ref (d + 273), .int 0, .ref (d + 274)])), (d + 81, .inl (aC 6, 12, .inr (.inr (.inr (.inr (zrefs (fun i => d + (7485 + 9 * i)) 12))))))] sz [.ref h0, .int x, .int y, .int z]) (va_Qi (fun (r : Int32) (_ : Unit) => r = -1) (fun _ zt => zt.heap.size = sz) (zN sz)) 0 0 (zN sz) := by
  refine Met.ofW (cc := cX16_value) (maxL := 5) (ret := (some .int)) (by decide) rfl ?_
  intro p e s m args below meth c s₁ B hml hv
  generalize hQ : MQ below _ _ s _ _ _ = QQ
  obtain ⟨rfl, hsz, hP, hK, hD0⟩ := hv
  have hx := B.exec
  have hb := B.bytes
  have hr := B.returns
  have hts := atoms_spec (ws := w_X16_value) B.pre
  have hall := fun (w : Cond) (h : w ∈ zAll) => hts w (List.mem_cons_of_mem _ h)
  have hown : s.vm.findClass RX16 = some m.cls := findClass_of_methodNamed B.named
  have hlocks := B.notSynchronized
  subst hsz
  have hA : ∀ q : Nat, s.heap.size ≤ q → zN s.heap.size q := fun q h => h
  have hS : va_S (zN s.heap.size) s.heap s.heap [] := va_S.rf
  have hD := hD0
  have hl := lv_entry ([.ref h0, .int x, .int y, .int z]) (n := 5) (Nat.le_of_ble_eq_true rfl)
  rw [lg_entry_eq]
  generalize (lg_sl ([.ref h0, .int x, .int y, .int z]) ++ List.replicate (5 - (lg_sl ([.ref h0, .int x, .int y, .int z])).length) Slot.unset).toArray = ls at hl ⊢
  have hl : lv_has ls 5 [(0, .ref h0), (1, .int x), (2, .int y), (3, .int z)] := hl
  refine lv_iload_n hx hb dX16_value_0 rfl (lv_at hl 1 rfl) ?_
  refine zro_i hS hA (va_runS (As := [.int x]) (rest := []) ⟨hx, hb, hml, hown, hall⟩ (c_X16_isSlot l dC dI aC x s.heap.size) (va_cwS 1 hall (zgS zw_434 zw_436 zw_812 g_X16_isSlot) rfl rfl rfl (by decide +kernel) ⟨Nat.le_of_ble_eq_true rfl, Nat.le_of_ble_eq_true rfl⟩) (zPre_S (As := [.int x]) hK hP hD [] rfl (by decide +kernel)) rfl rfl hl.1 rfl (lv_room (Nat.le_of_ble_eq_true rfl)) dX16_value_1 ⟨Nat.le_of_ble_eq_true rfl, Nat.le_of_ble_eq_true rfl⟩) (fun r60097 L60098 hw hS' => ?_)
  clear hS
  have hS := hS'
  clear hS'
  obtain rfl : r60097 = 0 := hw.trans (zisl_0 hxm)
  try clear hw
  refine lv_if_ne (tgt := 9) hx hb dX16_value_4 (by decide) (fun c_4_b60099 => absurd (by decide) c_4_b60099) (fun _ => ?_)
  refine lv_iconst (v := (-1)) hx hb dX16_value_7 (by decide) ?_
  rw [← hQ]
  exact W.iret (v := (-1)) hx hb hr (fun zt ht hW => ⟨⟨(-1), (), rfl, rfl, (show zt.heap.size = s.heap.size by rw [ht])⟩, hS.F ht⟩) hS.2.2 dX16_value_8

set_option maxHeartbeats 4000000 in
set_option maxRecDepth 100000 in
theorem c_X16_value_in (l : Launch) (dC : Nat → ClassId) (dI : Nat → Nat → Nat) (aC : Nat → ClassId) (h0 d a : Nat) (x y z : Int32) (sz : Nat) (hxm : zok x = true) (ha : a = d + (7485 + 9 * x.toNatClampNeg)) : Met l yX16_value w_X16_value ({ frames := 2, cells := 0, slots := 0, locals := 44 }) (zPre (dC, dI) aC [(h0, .inr (15, [.ref (d + 0), .int 0, .ref (d + 1), .int 0, .ref (d + 2), .ref (d + 3), .ref (d + 68), .ref (d + 77), .ref (d + 78), .int 0, .int 0, .ref (d + 79), .int 0, .int 0, .int 0, .ref (d + 80), .int 0, .int 0, .int 0, .int 0, .ref (d + 81), .ref (d + 82), .int (-1), .ref (d + 91), .int 0, .int 0, .ref (d + 92), .int 0, .ref (d + 93), .int 0, .ref (d + 94), .int 0, .ref (d + 95), .ref (d + 96), .ref (d + 97), .ref (d + 98), .int 0, .int 0, .ref (d + 99), .null, .null, .null, .null, .null, .ref (d + 148), .ref (d + 175), .ref (d + 176), .ref (d + 177), .int 0, .ref (d + 178), .ref (d + 179), .ref (d + 180), .ref (d + 185), .ref (d + 190), .ref (d + 191), .ref (d + 192), .ref (d + 193), .ref (d + 201), .ref (d + 209), .ref (d + 210), .ref (d + 211), .ref (d + 272), .ref (d + 273), .int 0, .ref (d + 274)])), (d + 81, .inl (aC 6, 12, .inr (.inr (.inr (.inr (zrefs (fun i => d + (7485 + 9 * i)) 12)))))), (a, .inr (13, [.int 0, .ref (a + 1 + 0), .ref (a + 1 + 1), .int 0, .int 0, .int 0, .ref (a + 1 + 2), .ref (a + 1 + 3), .ref (a + 1 + 4), .ref (a + 1 + 5), .int 0, .ref (a + 1 + 6), .int 0, .int 0, .ref (a + 1 + 7)]))] sz [.ref h0, .int x, .int y, .int z]) (va_Qi (fun (r : Int32) (_ : Unit) => r = -3) (fun _ zt => zt.heap.size = sz) (zN sz)) 0 0 (zN sz) := by
  refine Met.ofW (cc := cX16_value) (maxL := 5) (ret := (some .int)) (by decide) rfl ?_
  intro p e s m args below meth c s₁ B hml hv
  generalize hQ : MQ below _ _ s _ _ _ = QQ
  obtain ⟨rfl, hsz, hP, hK, hD0⟩ := hv
  have hx := B.exec
  have hb := B.bytes
  have hr := B.returns
  have hts := atoms_spec (ws := w_X16_value) B.pre
  have hall := fun (w : Cond) (h : w ∈ zAll) => hts w (List.mem_cons_of_mem _ h)
  have hown : s.vm.findClass RX16 = some m.cls := findClass_of_methodNamed B.named
  have hlocks := B.notSynchronized
  subst hsz
  have hA : ∀ q : Nat, s.heap.size ≤ q → zN s.heap.size q := fun q h => h
  have hS : va_S (zN s.heap.size) s.heap s.heap [] := va_S.rf
  have hD := hD0
  have hl := lv_entry ([.ref h0, .int x, .int y, .int z]) (n := 5) (Nat.le_of_ble_eq_true rfl)
  rw [lg_entry_eq]
  generalize (lg_sl ([.ref h0, .int x, .int y, .int z]) ++ List.replicate (5 - (lg_sl ([.ref h0, .int x, .int y, .int z])).length) Slot.unset).toArray = ls at hl ⊢
  have hl : lv_has ls 5 [(0, .ref h0), (1, .int x), (2, .int y), (3, .int z)] := hl
  refine lv_iload_n hx hb dX16_value_0 rfl (lv_at hl 1 rfl) ?_
  refine zro_i hS hA (va_runS (As := [.int x]) (rest := []) ⟨hx, hb, hml, hown, hall⟩ (c_X16_isSlot l dC dI aC x s.heap.size) (va_cwS 1 hall (zgS zw_434 zw_436 zw_812 g_X16_isSlot) rfl rfl rfl (by decide +kernel) ⟨Nat.le_of_ble_eq_true rfl, Nat.le_of_ble_eq_true rfl⟩) (zPre_S (As := [.int x]) hK hP hD [] rfl (by decide +kernel)) rfl rfl hl.1 rfl (lv_room (Nat.le_of_ble_eq_true rfl)) dX16_value_1 ⟨Nat.le_of_ble_eq_true rfl, Nat.le_of_ble_eq_true rfl⟩) (fun r60100 L60101 hw hS' => ?_)
  clear hS
  have hS := hS'
  clear hS'
  obtain rfl : r60100 = 1 := hw.trans (zisl_1 hxm)
  try clear hw
  refine lv_if_ne (tgt := 9) hx hb dX16_value_4 (by decide) (fun _ => ?_) (fun c_4_b60102 => absurd c_4_b60102 (by decide))
  refine lv_aload_n hx hb dX16_value_9 rfl (lv_at hl 0 rfl) ?_
  refine va_get (D := (dC, dI)) (ci := 15) (v := .ref (d + 81)) (C := RX16) (T := TX16) (N := 65) hx hb hall zx_16 hown hK.1 hP 0 rfl rfl 20 (by decide) (hall _ zw_336) (fun _ h9 => h9) rfl dX16_value_10 ?_
  show W p l e _ s m _ below meth c _ _ _ _ QQ (F0 m 13 ls [.ref (d + 81)])
  refine lv_iload_n hx hb dX16_value_13 rfl (lv_at hl 1 rfl) ?_
  refine zaldr hx hb hK.1 hP 1 6 rfl rfl (zok_in hxm) (zrefs_in (zok_in hxm)) dX16_value_14 ?_
  rw [← ha]
  refine lv_astore (lv' := [(4, .ref a), (0, .ref h0), (1, .int x), (2, .int y), (3, .int z)]) hx hb dX16_value_15 hl (by decide) rfl (fun ls60103 hl' => ?_)
  clear hl
  have hl : lv_has ls60103 5 [(4, .ref a), (0, .ref h0), (1, .int x), (2, .int y), (3, .int z)] := hl'
  clear hl'
  refine lv_aload hx hb dX16_value_17 (lv_at hl 0 rfl) ?_
  refine va_get (D := (dC, dI)) (ci := 13) (v := .int 0) (C := RX14) (T := TX14) (N := 15) hx hb hall zx_14 hown hK.1 hP 2 rfl rfl 0 (by decide) (hall _ zw_402) (fun _ h9 => h9) rfl dX16_value_19 ?_
  show W p l e _ s m _ below meth c _ _ _ _ QQ (F0 m 22 ls60103 [.int 0])
  refine lv_iconst (v := 1) hx hb dX16_value_22 (by decide) ?_
  refine lv_icmp_eq (tgt := 35) hx hb dX16_value_23 (by decide) (fun c_23_b60104 => absurd c_23_b60104 (by decide)) (fun _ => ?_)
  refine lv_aload hx hb dX16_value_26 (lv_at hl 0 rfl) ?_
  refine va_get (D := (dC, dI)) (ci := 13) (v := .int 0) (C := RX14) (T := TX14) (N := 15) hx hb hall zx_14 hown hK.1 hP 2 rfl rfl 0 (by decide) (hall _ zw_402) (fun _ h9 => h9) rfl dX16_value_28 ?_
  refine lv_iconst (v := 2) hx hb dX16_value_31 (by decide) ?_
  refine lv_icmp_ne (tgt := 46) hx hb dX16_value_32 (by decide) (fun _ => ?_) (fun c_32_b60105 => absurd c_32_b60105 (by decide))
  show W p l e _ s m _ below meth c _ _ _ _ QQ (F0 m 46 ls60103 [])
  refine lv_bipush (v := (-3)) hx hb dX16_value_46 (by decide) ?_
  rw [← hQ]
  exact W.iret (v := (-3)) hx hb hr (fun zt ht hW => ⟨⟨(-3), (), rfl, rfl, (show zt.heap.size = s.heap.size by rw [ht])⟩, hS.F ht⟩) hS.2.2 dX16_value_48

set_option maxHeartbeats 4000000 in
set_option maxRecDepth 100000 in
theorem c_X16_sum__out (l : Launch) (dC : Nat → ClassId) (dI : Nat → Nat → Nat) (aC : Nat → ClassId) (h0 d : Nat) (x y z v : Int32) (sz : Nat) (hxm : ¬ zok x = true) : Met l yX16_sum_ w_X16_sum_ ({ frames := 2, cells := 0, slots := 0, locals := 44 }) (zPre (dC, dI) aC [(h0, .inr (15, [.ref (d + 0), .int 0, .ref (d + 1), .int 0, .ref (d + 2), .ref (d + 3), .ref (d + 68), .ref (d + 77), .ref (d + 78), .int 0, .int 0, .ref (d + 79), .int 0, .int 0, .int 0, .ref (d + 80), .int 0, .int 0, .int 0, .int 0, .ref (d + 81), .ref (d + 82), .int (-1), .ref (d + 91), .int 0, .int 0, .ref (d + 92), .int 0, .ref (d + 93), .int 0, .ref (d + 94), .int 0, .ref (d + 95), .ref (d + 96), .ref (d + 97), .ref (d + 98), .int 0, .int 0, .ref (d + 99), .null, .null, .null, .null, .null, .ref (d + 148), .ref (d + 175), .ref (d + 176), .ref (d + 177), .int 0, .ref (d + 178), .ref (d + 179), .ref (d + 180), .ref (d + 185), .ref (d + 190), .ref (d + 191), .ref (d + 192), .ref (d + 193), .ref (d + 201), .ref (d + 209), .ref (d + 210), .ref (d + 211), .ref (d + 272), .ref (d + 273), .int 0, .ref (d + 274)])), (d + 81, .inl (aC 6, 12, .inr (.inr (.inr (.inr (zrefs (fun i => d + (7485 + 9 * i)) 12))))))] sz [.ref h0, .int x, .int y, .int z, .int v]) (va_Qi (fun (r : Int32) (_ : Unit) => r = -1) (fun _ zt => zt.heap.size = sz) (zN sz)) 0 0 (zN sz) := by
  refine Met.ofW (cc := cX16_sum_) (maxL := 6) (ret := (some .int)) (by decide) rfl ?_
  intro p e s m args below meth c s₁ B hml hv
  generalize hQ : MQ below _ _ s _ _ _ = QQ
  obtain ⟨rfl, hsz, hP, hK, hD0⟩ := hv
  have hx := B.exec
  have hb := B.bytes
  have hr := B.returns
  have hts := atoms_spec (ws := w_X16_sum_) B.pre
  have hall := fun (w : Cond) (h : w ∈ zAll) => hts w (List.mem_cons_of_mem _ h)
  have hown : s.vm.findClass RX16 = some m.cls := findClass_of_methodNamed B.named
  have hlocks := B.notSynchronized
  subst hsz
  have hA : ∀ q : Nat, s.heap.size ≤ q → zN s.heap.size q := fun q h => h
  have hS : va_S (zN s.heap.size) s.heap s.heap [] := va_S.rf
  have hD := hD0
  have hl := lv_entry ([.ref h0, .int x, .int y, .int z, .int v]) (n := 6) (Nat.le_of_ble_eq_true rfl)
  rw [lg_entry_eq]
  generalize (lg_sl ([.ref h0, .int x, .int y, .int z, .int v]) ++ List.replicate (6 - (lg_sl ([.ref h0, .int x, .int y, .int z, .int v])).length) Slot.unset).toArray = ls at hl ⊢
  have hl : lv_has ls 6 [(0, .ref h0), (1, .int x), (2, .int y), (3, .int z), (4, .int v)] := hl
  refine lv_iload_n hx hb dX16_sum__0 rfl (lv_at hl 1 rfl) ?_
  refine zro_i hS hA (va_runS (As := [.int x]) (rest := []) ⟨hx, hb, hml, hown, hall⟩ (c_X16_isSlot l dC dI aC x s.heap.size) (va_cwS 1 hall (zgS zw_434 zw_436 zw_812 g_X16_isSlot) rfl rfl rfl (by decide +kernel) ⟨Nat.le_of_ble_eq_true rfl, Nat.le_of_ble_eq_true rfl⟩) (zPre_S (As := [.int x]) hK hP hD [] rfl (by decide +kernel)) rfl rfl hl.1 rfl (lv_room (Nat.le_of_ble_eq_true rfl)) dX16_sum__1 ⟨Nat.le_of_ble_eq_true rfl, Nat.le_of_ble_eq_true rfl⟩) (fun r60106 L60107 hw hS' => ?_)
  clear hS
  have hS := hS'
  clear hS'
  obtain rfl : r60106 = 0 := hw.trans (zisl_0 hxm)
  try clear hw
  refine lv_if_ne (tgt := 9) hx hb dX16_sum__4 (by decide) (fun c_4_b60108 => absurd (by decide) c_4_b60108) (fun _ => ?_)
  refine lv_iconst (v := (-1)) hx hb dX16_sum__7 (by decide) ?_
  rw [← hQ]
  exact W.iret (v := (-1)) hx hb hr (fun zt ht hW => ⟨⟨(-1), (), rfl, rfl, (show zt.heap.size = s.heap.size by rw [ht])⟩, hS.F ht⟩) hS.2.2 dX16_sum__8

set_option maxHeartbeats 4000000 in
set_option maxRecDepth 100000 in
theorem c_X16_sum__in (l : Launch) (dC : Nat → ClassId) (dI : Nat → Nat → Nat) (aC : Nat → ClassId) (h0 d a : Nat) (x y z v : Int32) (sz : Nat) (hxm : zok x = true) (ha : a = d + (7485 + 9 * x.toNatClampNeg)) : Met l yX16_sum_ w_X16_sum_ ({ frames := 2, cells := 0, slots := 0, locals := 44 }) (zPre (dC, dI) aC [(h0, .inr (15, [.ref (d + 0), .int 0, .ref (d + 1), .int 0, .ref (d + 2), .ref (d + 3), .ref (d + 68), .ref (d + 77), .ref (d + 78), .int 0, .int 0, .ref (d + 79), .int 0, .int 0, .int 0, .ref (d + 80), .int 0, .int 0, .int 0, .int 0, .ref (d + 81), .ref (d + 82), .int (-1), .ref (d + 91), .int 0, .int 0, .ref (d + 92), .int 0, .ref (d + 93), .int 0, .ref (d + 94), .int 0, .ref (d + 95), .ref (d + 96), .ref (d + 97), .ref (d + 98), .int 0, .int 0, .ref (d + 99), .null, .null, .null, .null, .null, .ref (d + 148), .ref (d + 175), .ref (d + 176), .ref (d + 177), .int 0, .ref (d + 178), .ref (d + 179), .ref (d + 180), .ref (d + 185), .ref (d + 190), .ref (d + 191), .ref (d + 192), .ref (d + 193), .ref (d + 201), .ref (d + 209), .ref (d + 210), .ref (d + 211), .ref (d + 272), .ref (d + 273), .int 0, .ref (d + 274)])), (d + 81, .inl (aC 6, 12, .inr (.inr (.inr (.inr (zrefs (fun i => d + (7485 + 9 * i)) 12)))))), (a, .inr (13, [.int 0, .ref (a + 1 + 0), .ref (a + 1 + 1), .int 0, .int 0, .int 0, .ref (a + 1 + 2), .ref (a + 1 + 3), .ref (a + 1 + 4), .ref (a + 1 + 5), .int 0, .ref (a + 1 + 6), .int 0, .int 0, .ref (a + 1 + 7)]))] sz [.ref h0, .int x, .int y, .int z, .int v]) (va_Qi (fun (r : Int32) (_ : Unit) => r = -3) (fun _ zt => zt.heap.size = sz) (zN sz)) 0 0 (zN sz) := by
  refine Met.ofW (cc := cX16_sum_) (maxL := 6) (ret := (some .int)) (by decide) rfl ?_
  intro p e s m args below meth c s₁ B hml hv
  generalize hQ : MQ below _ _ s _ _ _ = QQ
  obtain ⟨rfl, hsz, hP, hK, hD0⟩ := hv
  have hx := B.exec
  have hb := B.bytes
  have hr := B.returns
  have hts := atoms_spec (ws := w_X16_sum_) B.pre
  have hall := fun (w : Cond) (h : w ∈ zAll) => hts w (List.mem_cons_of_mem _ h)
  have hown : s.vm.findClass RX16 = some m.cls := findClass_of_methodNamed B.named
  have hlocks := B.notSynchronized
  subst hsz
  have hA : ∀ q : Nat, s.heap.size ≤ q → zN s.heap.size q := fun q h => h
  have hS : va_S (zN s.heap.size) s.heap s.heap [] := va_S.rf
  have hD := hD0
  have hl := lv_entry ([.ref h0, .int x, .int y, .int z, .int v]) (n := 6) (Nat.le_of_ble_eq_true rfl)
  rw [lg_entry_eq]
  generalize (lg_sl ([.ref h0, .int x, .int y, .int z, .int v]) ++ List.replicate (6 - (lg_sl ([.ref h0, .int x, .int y, .int z, .int v])).length) Slot.unset).toArray = ls at hl ⊢
  have hl : lv_has ls 6 [(0, .ref h0), (1, .int x), (2, .int y), (3, .int z), (4, .int v)] := hl
  refine lv_iload_n hx hb dX16_sum__0 rfl (lv_at hl 1 rfl) ?_
  refine zro_i hS hA (va_runS (As := [.int x]) (rest := []) ⟨hx, hb, hml, hown, hall⟩ (c_X16_isSlot l dC dI aC x s.heap.size) (va_cwS 1 hall (zgS zw_434 zw_436 zw_812 g_X16_isSlot) rfl rfl rfl (by decide +kernel) ⟨Nat.le_of_ble_eq_true rfl, Nat.le_of_ble_eq_true rfl⟩) (zPre_S (As := [.int x]) hK hP hD [] rfl (by decide +kernel)) rfl rfl hl.1 rfl (lv_room (Nat.le_of_ble_eq_true rfl)) dX16_sum__1 ⟨Nat.le_of_ble_eq_true rfl, Nat.le_of_ble_eq_true rfl⟩) (fun r60109 L60110 hw hS' => ?_)
  clear hS
  have hS := hS'
  clear hS'
  obtain rfl : r60109 = 1 := hw.trans (zisl_1 hxm)
  try clear hw
  refine lv_if_ne (tgt := 9) hx hb dX16_sum__4 (by decide) (fun _ => ?_) (fun c_4_b60111 => absurd c_4_b60111 (by decide))
  refine lv_aload_n hx hb dX16_sum__9 rfl (lv_at hl 0 rfl) ?_
  refine va_get (D := (dC, dI)) (ci := 15) (v := .ref (d + 81)) (C := RX16) (T := TX16) (N := 65) hx hb hall zx_16 hown hK.1 hP 0 rfl rfl 20 (by decide) (hall _ zw_336) (fun _ h9 => h9) rfl dX16_sum__10 ?_
  show W p l e _ s m _ below meth c _ _ _ _ QQ (F0 m 13 ls [.ref (d + 81)])
  refine lv_iload_n hx hb dX16_sum__13 rfl (lv_at hl 1 rfl) ?_
  refine zaldr hx hb hK.1 hP 1 6 rfl rfl (zok_in hxm) (zrefs_in (zok_in hxm)) dX16_sum__14 ?_
  rw [← ha]
  refine lv_astore (lv' := [(5, .ref a), (0, .ref h0), (1, .int x), (2, .int y), (3, .int z), (4, .int v)]) hx hb dX16_sum__15 hl (by decide) rfl (fun ls60112 hl' => ?_)
  clear hl
  have hl : lv_has ls60112 6 [(5, .ref a), (0, .ref h0), (1, .int x), (2, .int y), (3, .int z), (4, .int v)] := hl'
  clear hl'
  refine lv_aload hx hb dX16_sum__17 (lv_at hl 0 rfl) ?_
  refine va_get (D := (dC, dI)) (ci := 13) (v := .int 0) (C := RX14) (T := TX14) (N := 15) hx hb hall zx_14 hown hK.1 hP 2 rfl rfl 0 (by decide) (hall _ zw_402) (fun _ h9 => h9) rfl dX16_sum__19 ?_
  show W p l e _ s m _ below meth c _ _ _ _ QQ (F0 m 22 ls60112 [.int 0])
  refine lv_iconst (v := 1) hx hb dX16_sum__22 (by decide) ?_
  refine lv_icmp_eq (tgt := 38) hx hb dX16_sum__23 (by decide) (fun c_23_b60113 => absurd c_23_b60113 (by decide)) (fun _ => ?_)
  refine lv_aload hx hb dX16_sum__26 (lv_at hl 0 rfl) ?_
  refine va_get (D := (dC, dI)) (ci := 13) (v := .int 0) (C := RX14) (T := TX14) (N := 15) hx hb hall zx_14 hown hK.1 hP 2 rfl rfl 0 (by decide) (hall _ zw_402) (fun _ h9 => h9) rfl dX16_sum__28 ?_
  refine lv_iconst (v := 2) hx hb dX16_sum__31 (by decide) ?_
  refine lv_icmp_eq (tgt := 38) hx hb dX16_sum__32 (by decide) (fun c_32_b60114 => absurd c_32_b60114 (by decide)) (fun _ => ?_)
  show W p l e _ s m _ below meth c _ _ _ _ QQ (F0 m 35 ls60112 [])
  refine lv_bipush (v := (-3)) hx hb dX16_sum__35 (by decide) ?_
  rw [← hQ]
  exact W.iret (v := (-3)) hx hb hr (fun zt ht hW => ⟨⟨(-3), (), rfl, rfl, (show zt.heap.size = s.heap.size by rw [ht])⟩, hS.F ht⟩) hS.2.2 dX16_sum__37

set_option maxHeartbeats 4000000 in
set_option maxRecDepth 100000 in
theorem c_X16_quotient__out (l : Launch) (dC : Nat → ClassId) (dI : Nat → Nat → Nat) (aC : Nat → ClassId) (h0 d : Nat) (x z y : Int32) (sz : Nat) (hxm : ¬ zok x = true) : Met l yX16_quotient_ w_X16_quotient_ ({ frames := 2, cells := 0, slots := 0, locals := 44 }) (zPre (dC, dI) aC [(h0, .inr (15, [.ref (d + 0), .int 0, .ref (d + 1), .int 0, .ref (d + 2), .ref (d + 3), .ref (d + 68), .ref (d + 77), .ref (d + 78), .int 0, .int 0, .ref (d + 79), .int 0, .int 0, .int 0, .ref (d + 80), .int 0, .int 0, .int 0, .int 0, .ref (d + 81), .ref (d + 82), .int (-1), .ref (d + 91), .int 0, .int 0, .ref (d + 92), .int 0, .ref (d + 93), .int 0, .ref (d + 94), .int 0, .ref (d + 95), .ref (d + 96), .ref (d + 97), .ref (d + 98), .int 0, .int 0, .ref (d + 99), .null, .null, .null, .null, .null, .ref (d + 148), .ref (d + 175), .ref (d + 176), .ref (d + 177), .int 0, .ref (d + 178), .ref (d + 179), .ref (d + 180), .ref (d + 185), .ref (d + 190), .ref (d + 191), .ref (d + 192), .ref (d + 193), .ref (d + 201), .ref (d + 209), .ref (d + 210), .ref (d + 211), .ref (d + 272), .ref (d + 273), .int 0, .ref (d + 274)])), (d + 81, .inl (aC 6, 12, .inr (.inr (.inr (.inr (zrefs (fun i => d + (7485 + 9 * i)) 12))))))] sz [.ref h0, .int x, .int z, .int y]) (va_Qi (fun (r : Int32) (_ : Unit) => r = -1) (fun _ zt => zt.heap.size = sz) (zN sz)) 0 0 (zN sz) := by
  refine Met.ofW (cc := cX16_quotient_) (maxL := 8) (ret := (some .int)) (by decide) rfl ?_
  intro p e s m args below meth c s₁ B hml hv
  generalize hQ : MQ below _ _ s _ _ _ = QQ
  obtain ⟨rfl, hsz, hP, hK, hD0⟩ := hv
  have hx := B.exec
  have hb := B.bytes
  have hr := B.returns
  have hts := atoms_spec (ws := w_X16_quotient_) B.pre
  have hall := fun (w : Cond) (h : w ∈ zAll) => hts w (List.mem_cons_of_mem _ h)
  have hown : s.vm.findClass RX16 = some m.cls := findClass_of_methodNamed B.named
  have hlocks := B.notSynchronized
  subst hsz
  have hA : ∀ q : Nat, s.heap.size ≤ q → zN s.heap.size q := fun q h => h
  have hS : va_S (zN s.heap.size) s.heap s.heap [] := va_S.rf
  have hD := hD0
  have hl := lv_entry ([.ref h0, .int x, .int z, .int y]) (n := 8) (Nat.le_of_ble_eq_true rfl)
  rw [lg_entry_eq]
  generalize (lg_sl ([.ref h0, .int x, .int z, .int y]) ++ List.replicate (8 - (lg_sl ([.ref h0, .int x, .int z, .int y])).length) Slot.unset).toArray = ls at hl ⊢
  have hl : lv_has ls 8 [(0, .ref h0), (1, .int x), (2, .int z), (3, .int y)] := hl
  refine lv_iload_n hx hb dX16_quotient__0 rfl (lv_at hl 1 rfl) ?_
  refine zro_i hS hA (va_runS (As := [.int x]) (rest := []) ⟨hx, hb, hml, hown, hall⟩ (c_X16_isSlot l dC dI aC x s.heap.size) (va_cwS 1 hall (zgS zw_434 zw_436 zw_812 g_X16_isSlot) rfl rfl rfl (by decide +kernel) ⟨Nat.le_of_ble_eq_true rfl, Nat.le_of_ble_eq_true rfl⟩) (zPre_S (As := [.int x]) hK hP hD [] rfl (by decide +kernel)) rfl rfl hl.1 rfl (lv_room (Nat.le_of_ble_eq_true rfl)) dX16_quotient__1 ⟨Nat.le_of_ble_eq_true rfl, Nat.le_of_ble_eq_true rfl⟩) (fun r60115 L60116 hw hS' => ?_)
  clear hS
  have hS := hS'
  clear hS'
  obtain rfl : r60115 = 0 := hw.trans (zisl_0 hxm)
  try clear hw
  refine lv_if_eq (tgt := 14) hx hb dX16_quotient__4 (by decide) (fun _ => ?_) (fun c_4_b60117 => absurd (by decide) c_4_b60117)
  refine lv_iconst (v := (-1)) hx hb dX16_quotient__14 (by decide) ?_
  rw [← hQ]
  exact W.iret (v := (-1)) hx hb hr (fun zt ht hW => ⟨⟨(-1), (), rfl, rfl, (show zt.heap.size = s.heap.size by rw [ht])⟩, hS.F ht⟩) hS.2.2 dX16_quotient__15

set_option maxHeartbeats 4000000 in
set_option maxRecDepth 100000 in
theorem c_X16_quotient__in (l : Launch) (dC : Nat → ClassId) (dI : Nat → Nat → Nat) (aC : Nat → ClassId) (h0 d a : Nat) (x z y : Int32) (sz : Nat) (hxm : zok x = true) (ha : a = d + (7485 + 9 * x.toNatClampNeg)) : Met l yX16_quotient_ w_X16_quotient_ ({ frames := 2, cells := 0, slots := 0, locals := 44 }) (zPre (dC, dI) aC [(h0, .inr (15, [.ref (d + 0), .int 0, .ref (d + 1), .int 0, .ref (d + 2), .ref (d + 3), .ref (d + 68), .ref (d + 77), .ref (d + 78), .int 0, .int 0, .ref (d + 79), .int 0, .int 0, .int 0, .ref (d + 80), .int 0, .int 0, .int 0, .int 0, .ref (d + 81), .ref (d + 82), .int (-1), .ref (d + 91), .int 0, .int 0, .ref (d + 92), .int 0, .ref (d + 93), .int 0, .ref (d + 94), .int 0, .ref (d + 95), .ref (d + 96), .ref (d + 97), .ref (d + 98), .int 0, .int 0, .ref (d + 99), .null, .null, .null, .null, .null, .ref (d + 148), .ref (d + 175), .ref (d + 176), .ref (d + 177), .int 0, .ref (d + 178), .ref (d + 179), .ref (d + 180), .ref (d + 185), .ref (d + 190), .ref (d + 191), .ref (d + 192), .ref (d + 193), .ref (d + 201), .ref (d + 209), .ref (d + 210), .ref (d + 211), .ref (d + 272), .ref (d + 273), .int 0, .ref (d + 274)])), (d + 81, .inl (aC 6, 12, .inr (.inr (.inr (.inr (zrefs (fun i => d + (7485 + 9 * i)) 12)))))), (a, .inr (13, [.int 0, .ref (a + 1 + 0), .ref (a + 1 + 1), .int 0, .int 0, .int 0, .ref (a + 1 + 2), .ref (a + 1 + 3), .ref (a + 1 + 4), .ref (a + 1 + 5), .int 0, .ref (a + 1 + 6), .int 0, .int 0, .ref (a + 1 + 7)]))] sz [.ref h0, .int x, .int z, .int y]) (va_Qi (fun (r : Int32) (_ : Unit) => r = zface1 y (-3) (-1)) (fun _ zt => zt.heap.size = sz) (zN sz)) 0 0 (zN sz) := by
  refine Met.ofW (cc := cX16_quotient_) (maxL := 8) (ret := (some .int)) (by decide) rfl ?_
  intro p e s m args below meth c s₁ B hml hv
  generalize hQ : MQ below _ _ s _ _ _ = QQ
  obtain ⟨rfl, hsz, hP, hK, hD0⟩ := hv
  have hx := B.exec
  have hb := B.bytes
  have hr := B.returns
  have hts := atoms_spec (ws := w_X16_quotient_) B.pre
  have hall := fun (w : Cond) (h : w ∈ zAll) => hts w (List.mem_cons_of_mem _ h)
  have hown : s.vm.findClass RX16 = some m.cls := findClass_of_methodNamed B.named
  have hlocks := B.notSynchronized
  subst hsz
  have hA : ∀ q : Nat, s.heap.size ≤ q → zN s.heap.size q := fun q h => h
  have hS : va_S (zN s.heap.size) s.heap s.heap [] := va_S.rf
  have hD := hD0
  have hl := lv_entry ([.ref h0, .int x, .int z, .int y]) (n := 8) (Nat.le_of_ble_eq_true rfl)
  rw [lg_entry_eq]
  generalize (lg_sl ([.ref h0, .int x, .int z, .int y]) ++ List.replicate (8 - (lg_sl ([.ref h0, .int x, .int z, .int y])).length) Slot.unset).toArray = ls at hl ⊢
  have hl : lv_has ls 8 [(0, .ref h0), (1, .int x), (2, .int z), (3, .int y)] := hl
  refine lv_iload_n hx hb dX16_quotient__0 rfl (lv_at hl 1 rfl) ?_
  refine zro_i hS hA (va_runS (As := [.int x]) (rest := []) ⟨hx, hb, hml, hown, hall⟩ (c_X16_isSlot l dC dI aC x s.heap.size) (va_cwS 1 hall (zgS zw_434 zw_436 zw_812 g_X16_isSlot) rfl rfl rfl (by decide +kernel) ⟨Nat.le_of_ble_eq_true rfl, Nat.le_of_ble_eq_true rfl⟩) (zPre_S (As := [.int x]) hK hP hD [] rfl (by decide +kernel)) rfl rfl hl.1 rfl (lv_room (Nat.le_of_ble_eq_true rfl)) dX16_quotient__1 ⟨Nat.le_of_ble_eq_true rfl, Nat.le_of_ble_eq_true rfl⟩) (fun r60118 L60119 hw hS' => ?_)
  clear hS
  have hS := hS'
  clear hS'
  obtain rfl : r60118 = 1 := hw.trans (zisl_1 hxm)
  try clear hw
  refine lv_if_eq (tgt := 14) hx hb dX16_quotient__4 (by decide) (fun c_4_b60120 => absurd c_4_b60120 (by decide)) (fun _ => ?_)
  refine lv_iload_n hx hb dX16_quotient__7 rfl (lv_at hl 3 rfl) ?_
  refine zro_i hS hA (va_runS (As := [.int y]) (rest := []) ⟨hx, hb, hml, hown, hall⟩ (c_X16_isSlot l dC dI aC y s.heap.size) (va_cwS 1 hall (zgS zw_434 zw_436 zw_812 g_X16_isSlot) rfl rfl rfl (by decide +kernel) ⟨Nat.le_of_ble_eq_true rfl, Nat.le_of_ble_eq_true rfl⟩) (zPre_S (As := [.int y]) hK hP hD [] rfl (by decide +kernel)) rfl rfl hl.1 rfl (lv_room (Nat.le_of_ble_eq_true rfl)) dX16_quotient__8 ⟨Nat.le_of_ble_eq_true rfl, Nat.le_of_ble_eq_true rfl⟩) (fun r60121 L60122 hw hS' => ?_)
  clear hS
  have hS := hS'
  clear hS'
  by_cases z60123 : zok y = true
  · obtain rfl : r60121 = 1 := hw.trans (zisl_1 z60123)
    try clear hw
    show W p l e _ s m _ below meth c _ _ _ _ QQ (F0 m 11 ls [.int 1])
    refine lv_if_ne (tgt := 16) hx hb dX16_quotient__11 (by decide) (fun _ => ?_) (fun c_11_b60124 => absurd c_11_b60124 (by decide))
    refine lv_aload_n hx hb dX16_quotient__16 rfl (lv_at hl 0 rfl) ?_
    refine va_get (D := (dC, dI)) (ci := 15) (v := .ref (d + 81)) (C := RX16) (T := TX16) (N := 65) hx hb hall zx_16 hown hK.1 hP 0 rfl rfl 20 (by decide) (hall _ zw_336) (fun _ h9 => h9) rfl dX16_quotient__17 ?_
    refine lv_iload_n hx hb dX16_quotient__20 rfl (lv_at hl 1 rfl) ?_
    refine zaldr hx hb hK.1 hP 1 6 rfl rfl (zok_in hxm) (zrefs_in (zok_in hxm)) dX16_quotient__21 ?_
    rw [← ha]
    show W p l e _ s m _ below meth c _ _ _ _ QQ (F0 m 22 ls [.ref a])
    refine lv_astore (lv' := [(4, .ref a), (0, .ref h0), (1, .int x), (2, .int z), (3, .int y)]) hx hb dX16_quotient__22 hl (by decide) rfl (fun ls60125 hl' => ?_)
    clear hl
    have hl : lv_has ls60125 8 [(4, .ref a), (0, .ref h0), (1, .int x), (2, .int z), (3, .int y)] := hl'
    clear hl'
    refine lv_aload hx hb dX16_quotient__24 (lv_at hl 0 rfl) ?_
    refine va_get (D := (dC, dI)) (ci := 13) (v := .int 0) (C := RX14) (T := TX14) (N := 15) hx hb hall zx_14 hown hK.1 hP 2 rfl rfl 0 (by decide) (hall _ zw_402) (fun _ h9 => h9) rfl dX16_quotient__26 ?_
    refine lv_iconst (v := 1) hx hb dX16_quotient__29 (by decide) ?_
    refine lv_icmp_eq (tgt := 45) hx hb dX16_quotient__30 (by decide) (fun c_30_b60126 => absurd c_30_b60126 (by decide)) (fun _ => ?_)
    show W p l e _ s m _ below meth c _ _ _ _ QQ (F0 m 33 ls60125 [])
    refine lv_aload hx hb dX16_quotient__33 (lv_at hl 0 rfl) ?_
    refine va_get (D := (dC, dI)) (ci := 13) (v := .int 0) (C := RX14) (T := TX14) (N := 15) hx hb hall zx_14 hown hK.1 hP 2 rfl rfl 0 (by decide) (hall _ zw_402) (fun _ h9 => h9) rfl dX16_quotient__35 ?_
    refine lv_iconst (v := 2) hx hb dX16_quotient__38 (by decide) ?_
    refine lv_icmp_eq (tgt := 45) hx hb dX16_quotient__39 (by decide) (fun c_39_b60127 => absurd c_39_b60127 (by decide)) (fun _ => ?_)
    refine lv_bipush (v := (-3)) hx hb dX16_quotient__42 (by decide) ?_
    rw [← hQ]
    exact W.iret (v := (-3)) hx hb hr (fun zt ht hW => ⟨⟨(-3), (), rfl, by simp [zface1, z60123], (show zt.heap.size = s.heap.size by rw [ht])⟩, hS.F ht⟩) hS.2.2 dX16_quotient__44
  · obtain rfl : r60121 = 0 := hw.trans (zisl_0 z60123)
    try clear hw
    show W p l e _ s m _ below meth c _ _ _ _ QQ (F0 m 11 ls [.int 0])
    refine lv_if_ne (tgt := 16) hx hb dX16_quotient__11 (by decide) (fun c_11_b60128 => absurd (by decide) c_11_b60128) (fun _ => ?_)
    refine lv_iconst (v := (-1)) hx hb dX16_quotient__14 (by decide) ?_
    rw [← hQ]
    exact W.iret (v := (-1)) hx hb hr (fun zt ht hW => ⟨⟨(-1), (), rfl, by simp [zface1, z60123], (show zt.heap.size = s.heap.size by rw [ht])⟩, hS.F ht⟩) hS.2.2 dX16_quotient__15

set_option maxHeartbeats 4000000 in
set_option maxRecDepth 100000 in
theorem c_X16_form__out (l : Launch) (dC : Nat → ClassId) (dI : Nat → Nat → Nat) (aC : Nat → ClassId) (h0 d : Nat) (x z y : Int32) (sz : Nat) (hxm : ¬ zok x = true) : Met l yX16_form_ w_X16_form_ ({ frames := 2, cells := 0, slots := 0, locals := 44 }) (zPre (dC, dI) aC [(h0, .inr (15, [.ref (d + 0), .int 0, .ref (d + 1), .int 0, .ref (d + 2), .ref (d + 3), .ref (d + 68), .ref (d + 77), .ref (d + 78), .int 0, .int 0, .ref (d + 79), .int 0, .int 0, .int 0, .ref (d + 80), .int 0, .int 0, .int 0, .int 0, .ref (d + 81), .ref (d + 82), .int (-1), .ref (d + 91), .int 0, .int 0, .ref (d + 92), .int 0, .ref (d + 93), .int 0, .ref (d + 94), .int 0, .ref (d + 95), .ref (d + 96), .ref (d + 97), .ref (d + 98), .int 0, .int 0, .ref (d + 99), .null, .null, .null, .null, .null, .ref (d + 148), .ref (d + 175), .ref (d + 176), .ref (d + 177), .int 0, .ref (d + 178), .ref (d + 179), .ref (d + 180), .ref (d + 185), .ref (d + 190), .ref (d + 191), .ref (d + 192), .ref (d + 193), .ref (d + 201), .ref (d + 209), .ref (d + 210), .ref (d + 211), .ref (d + 272), .ref (d + 273), .int 0, .ref (d + 274)])), (d + 81, .inl (aC 6, 12, .inr (.inr (.inr (.inr (zrefs (fun i => d + (7485 + 9 * i)) 12))))))] sz [.ref h0, .int x, .int z, .int y]) (va_Qi (fun (r : Int32) (_ : Unit) => r = -1) (fun _ zt => zt.heap.size = sz) (zN sz)) 0 0 (zN sz) := by
  refine Met.ofW (cc := cX16_form_) (maxL := 10) (ret := (some .int)) (by decide) rfl ?_
  intro p e s m args below meth c s₁ B hml hv
  generalize hQ : MQ below _ _ s _ _ _ = QQ
  obtain ⟨rfl, hsz, hP, hK, hD0⟩ := hv
  have hx := B.exec
  have hb := B.bytes
  have hr := B.returns
  have hts := atoms_spec (ws := w_X16_form_) B.pre
  have hall := fun (w : Cond) (h : w ∈ zAll) => hts w (List.mem_cons_of_mem _ h)
  have hown : s.vm.findClass RX16 = some m.cls := findClass_of_methodNamed B.named
  have hlocks := B.notSynchronized
  subst hsz
  have hA : ∀ q : Nat, s.heap.size ≤ q → zN s.heap.size q := fun q h => h
  have hS : va_S (zN s.heap.size) s.heap s.heap [] := va_S.rf
  have hD := hD0
  have hl := lv_entry ([.ref h0, .int x, .int z, .int y]) (n := 10) (Nat.le_of_ble_eq_true rfl)
  rw [lg_entry_eq]
  generalize (lg_sl ([.ref h0, .int x, .int z, .int y]) ++ List.replicate (10 - (lg_sl ([.ref h0, .int x, .int z, .int y])).length) Slot.unset).toArray = ls at hl ⊢
  have hl : lv_has ls 10 [(0, .ref h0), (1, .int x), (2, .int z), (3, .int y)] := hl
  refine lv_iload_n hx hb dX16_form__0 rfl (lv_at hl 1 rfl) ?_
  refine zro_i hS hA (va_runS (As := [.int x]) (rest := []) ⟨hx, hb, hml, hown, hall⟩ (c_X16_isSlot l dC dI aC x s.heap.size) (va_cwS 1 hall (zgS zw_434 zw_436 zw_812 g_X16_isSlot) rfl rfl rfl (by decide +kernel) ⟨Nat.le_of_ble_eq_true rfl, Nat.le_of_ble_eq_true rfl⟩) (zPre_S (As := [.int x]) hK hP hD [] rfl (by decide +kernel)) rfl rfl hl.1 rfl (lv_room (Nat.le_of_ble_eq_true rfl)) dX16_form__1 ⟨Nat.le_of_ble_eq_true rfl, Nat.le_of_ble_eq_true rfl⟩) (fun r60129 L60130 hw hS' => ?_)
  clear hS
  have hS := hS'
  clear hS'
  obtain rfl : r60129 = 0 := hw.trans (zisl_0 hxm)
  try clear hw
  refine lv_if_eq (tgt := 14) hx hb dX16_form__4 (by decide) (fun _ => ?_) (fun c_4_b60131 => absurd (by decide) c_4_b60131)
  refine lv_iconst (v := (-1)) hx hb dX16_form__14 (by decide) ?_
  rw [← hQ]
  exact W.iret (v := (-1)) hx hb hr (fun zt ht hW => ⟨⟨(-1), (), rfl, rfl, (show zt.heap.size = s.heap.size by rw [ht])⟩, hS.F ht⟩) hS.2.2 dX16_form__15

set_option maxHeartbeats 4000000 in
set_option maxRecDepth 100000 in
theorem c_X16_form__in (l : Launch) (dC : Nat → ClassId) (dI : Nat → Nat → Nat) (aC : Nat → ClassId) (h0 d a : Nat) (x z y : Int32) (sz : Nat) (hxm : zok x = true) (ha : a = d + (7485 + 9 * x.toNatClampNeg)) : Met l yX16_form_ w_X16_form_ ({ frames := 2, cells := 0, slots := 0, locals := 44 }) (zPre (dC, dI) aC [(h0, .inr (15, [.ref (d + 0), .int 0, .ref (d + 1), .int 0, .ref (d + 2), .ref (d + 3), .ref (d + 68), .ref (d + 77), .ref (d + 78), .int 0, .int 0, .ref (d + 79), .int 0, .int 0, .int 0, .ref (d + 80), .int 0, .int 0, .int 0, .int 0, .ref (d + 81), .ref (d + 82), .int (-1), .ref (d + 91), .int 0, .int 0, .ref (d + 92), .int 0, .ref (d + 93), .int 0, .ref (d + 94), .int 0, .ref (d + 95), .ref (d + 96), .ref (d + 97), .ref (d + 98), .int 0, .int 0, .ref (d + 99), .null, .null, .null, .null, .null, .ref (d + 148), .ref (d + 175), .ref (d + 176), .ref (d + 177), .int 0, .ref (d + 178), .ref (d + 179), .ref (d + 180), .ref (d + 185), .ref (d + 190), .ref (d + 191), .ref (d + 192), .ref (d + 193), .ref (d + 201), .ref (d + 209), .ref (d + 210), .ref (d + 211), .ref (d + 272), .ref (d + 273), .int 0, .ref (d + 274)])), (d + 81, .inl (aC 6, 12, .inr (.inr (.inr (.inr (zrefs (fun i => d + (7485 + 9 * i)) 12)))))), (a, .inr (13, [.int 0, .ref (a + 1 + 0), .ref (a + 1 + 1), .int 0, .int 0, .int 0, .ref (a + 1 + 2), .ref (a + 1 + 3), .ref (a + 1 + 4), .ref (a + 1 + 5), .int 0, .ref (a + 1 + 6), .int 0, .int 0, .ref (a + 1 + 7)]))] sz [.ref h0, .int x, .int z, .int y]) (va_Qi (fun (r : Int32) (_ : Unit) => r = zface1 y (-3) (-1)) (fun _ zt => zt.heap.size = sz) (zN sz)) 0 0 (zN sz) := by
  refine Met.ofW (cc := cX16_form_) (maxL := 10) (ret := (some .int)) (by decide) rfl ?_
  intro p e s m args below meth c s₁ B hml hv
  generalize hQ : MQ below _ _ s _ _ _ = QQ
  obtain ⟨rfl, hsz, hP, hK, hD0⟩ := hv
  have hx := B.exec
  have hb := B.bytes
  have hr := B.returns
  have hts := atoms_spec (ws := w_X16_form_) B.pre
  have hall := fun (w : Cond) (h : w ∈ zAll) => hts w (List.mem_cons_of_mem _ h)
  have hown : s.vm.findClass RX16 = some m.cls := findClass_of_methodNamed B.named
  have hlocks := B.notSynchronized
  subst hsz
  have hA : ∀ q : Nat, s.heap.size ≤ q → zN s.heap.size q := fun q h => h
  have hS : va_S (zN s.heap.size) s.heap s.heap [] := va_S.rf
  have hD := hD0
  have hl := lv_entry ([.ref h0, .int x, .int z, .int y]) (n := 10) (Nat.le_of_ble_eq_true rfl)
  rw [lg_entry_eq]
  generalize (lg_sl ([.ref h0, .int x, .int z, .int y]) ++ List.replicate (10 - (lg_sl ([.ref h0, .int x, .int z, .int y])).length) Slot.unset).toArray = ls at hl ⊢
  have hl : lv_has ls 10 [(0, .ref h0), (1, .int x), (2, .int z), (3, .int y)] := hl
  refine lv_iload_n hx hb dX16_form__0 rfl (lv_at hl 1 rfl) ?_
  refine zro_i hS hA (va_runS (As := [.int x]) (rest := []) ⟨hx, hb, hml, hown, hall⟩ (c_X16_isSlot l dC dI aC x s.heap.size) (va_cwS 1 hall (zgS zw_434 zw_436 zw_812 g_X16_isSlot) rfl rfl rfl (by decide +kernel) ⟨Nat.le_of_ble_eq_true rfl, Nat.le_of_ble_eq_true rfl⟩) (zPre_S (As := [.int x]) hK hP hD [] rfl (by decide +kernel)) rfl rfl hl.1 rfl (lv_room (Nat.le_of_ble_eq_true rfl)) dX16_form__1 ⟨Nat.le_of_ble_eq_true rfl, Nat.le_of_ble_eq_true rfl⟩) (fun r60132 L60133 hw hS' => ?_)
  clear hS
  have hS := hS'
  clear hS'
  obtain rfl : r60132 = 1 := hw.trans (zisl_1 hxm)
  try clear hw
  refine lv_if_eq (tgt := 14) hx hb dX16_form__4 (by decide) (fun c_4_b60134 => absurd c_4_b60134 (by decide)) (fun _ => ?_)
  refine lv_iload_n hx hb dX16_form__7 rfl (lv_at hl 3 rfl) ?_
  refine zro_i hS hA (va_runS (As := [.int y]) (rest := []) ⟨hx, hb, hml, hown, hall⟩ (c_X16_isSlot l dC dI aC y s.heap.size) (va_cwS 1 hall (zgS zw_434 zw_436 zw_812 g_X16_isSlot) rfl rfl rfl (by decide +kernel) ⟨Nat.le_of_ble_eq_true rfl, Nat.le_of_ble_eq_true rfl⟩) (zPre_S (As := [.int y]) hK hP hD [] rfl (by decide +kernel)) rfl rfl hl.1 rfl (lv_room (Nat.le_of_ble_eq_true rfl)) dX16_form__8 ⟨Nat.le_of_ble_eq_true rfl, Nat.le_of_ble_eq_true rfl⟩) (fun r60135 L60136 hw hS' => ?_)
  clear hS
  have hS := hS'
  clear hS'
  by_cases z60137 : zok y = true
  · obtain rfl : r60135 = 1 := hw.trans (zisl_1 z60137)
    try clear hw
    show W p l e _ s m _ below meth c _ _ _ _ QQ (F0 m 11 ls [.int 1])
    refine lv_if_ne (tgt := 16) hx hb dX16_form__11 (by decide) (fun _ => ?_) (fun c_11_b60138 => absurd c_11_b60138 (by decide))
    refine lv_aload_n hx hb dX16_form__16 rfl (lv_at hl 0 rfl) ?_
    refine va_get (D := (dC, dI)) (ci := 15) (v := .ref (d + 81)) (C := RX16) (T := TX16) (N := 65) hx hb hall zx_16 hown hK.1 hP 0 rfl rfl 20 (by decide) (hall _ zw_336) (fun _ h9 => h9) rfl dX16_form__17 ?_
    refine lv_iload_n hx hb dX16_form__20 rfl (lv_at hl 1 rfl) ?_
    refine zaldr hx hb hK.1 hP 1 6 rfl rfl (zok_in hxm) (zrefs_in (zok_in hxm)) dX16_form__21 ?_
    rw [← ha]
    show W p l e _ s m _ below meth c _ _ _ _ QQ (F0 m 22 ls [.ref a])
    refine lv_astore (lv' := [(4, .ref a), (0, .ref h0), (1, .int x), (2, .int z), (3, .int y)]) hx hb dX16_form__22 hl (by decide) rfl (fun ls60139 hl' => ?_)
    clear hl
    have hl : lv_has ls60139 10 [(4, .ref a), (0, .ref h0), (1, .int x), (2, .int z), (3, .int y)] := hl'
    clear hl'
    refine lv_aload hx hb dX16_form__24 (lv_at hl 0 rfl) ?_
    refine va_get (D := (dC, dI)) (ci := 13) (v := .int 0) (C := RX14) (T := TX14) (N := 15) hx hb hall zx_14 hown hK.1 hP 2 rfl rfl 0 (by decide) (hall _ zw_402) (fun _ h9 => h9) rfl dX16_form__26 ?_
    refine lv_iconst (v := 1) hx hb dX16_form__29 (by decide) ?_
    refine lv_icmp_eq (tgt := 36) hx hb dX16_form__30 (by decide) (fun c_30_b60140 => absurd c_30_b60140 (by decide)) (fun _ => ?_)
    show W p l e _ s m _ below meth c _ _ _ _ QQ (F0 m 33 ls60139 [])
    refine lv_bipush (v := (-3)) hx hb dX16_form__33 (by decide) ?_
    rw [← hQ]
    exact W.iret (v := (-3)) hx hb hr (fun zt ht hW => ⟨⟨(-3), (), rfl, by simp [zface1, z60137], (show zt.heap.size = s.heap.size by rw [ht])⟩, hS.F ht⟩) hS.2.2 dX16_form__35
  · obtain rfl : r60135 = 0 := hw.trans (zisl_0 z60137)
    try clear hw
    show W p l e _ s m _ below meth c _ _ _ _ QQ (F0 m 11 ls [.int 0])
    refine lv_if_ne (tgt := 16) hx hb dX16_form__11 (by decide) (fun c_11_b60141 => absurd (by decide) c_11_b60141) (fun _ => ?_)
    refine lv_iconst (v := (-1)) hx hb dX16_form__14 (by decide) ?_
    rw [← hQ]
    exact W.iret (v := (-1)) hx hb hr (fun zt ht hW => ⟨⟨(-1), (), rfl, by simp [zface1, z60137], (show zt.heap.size = s.heap.size by rw [ht])⟩, hS.F ht⟩) hS.2.2 dX16_form__15

set_option maxHeartbeats 4000000 in
set_option maxRecDepth 100000 in
theorem c_X16_close_out (l : Launch) (dC : Nat → ClassId) (dI : Nat → Nat → Nat) (aC : Nat → ClassId) (h0 d : Nat) (x y : Int32) (sz : Nat) (hxm : ¬ zok x = true) : Met l yX16_close w_X16_close ({ frames := 2, cells := 0, slots := 0, locals := 44 }) (zPre (dC, dI) aC [(h0, .inr (15, [.ref (d + 0), .int 0, .ref (d + 1), .int 0, .ref (d + 2), .ref (d + 3), .ref (d + 68), .ref (d + 77), .ref (d + 78), .int 0, .int 0, .ref (d + 79), .int 0, .int 0, .int 0, .ref (d + 80), .int 0, .int 0, .int 0, .int 0, .ref (d + 81), .ref (d + 82), .int (-1), .ref (d + 91), .int 0, .int 0, .ref (d + 92), .int 0, .ref (d + 93), .int 0, .ref (d + 94), .int 0, .ref (d + 95), .ref (d + 96), .ref (d + 97), .ref (d + 98), .int 0, .int 0, .ref (d + 99), .null, .null, .null, .null, .null, .ref (d + 148), .ref (d + 175), .ref (d + 176), .ref (d + 177), .int 0, .ref (d + 178), .ref (d + 179), .ref (d + 180), .ref (d + 185), .ref (d + 190), .ref (d + 191), .ref (d + 192), .ref (d + 193), .ref (d + 201), .ref (d + 209), .ref (d + 210), .ref (d + 211), .ref (d + 272), .ref (d + 273), .int 0, .ref (d + 274)])), (d + 81, .inl (aC 6, 12, .inr (.inr (.inr (.inr (zrefs (fun i => d + (7485 + 9 * i)) 12))))))] sz [.ref h0, .int x, .int y]) (va_Qi (fun (r : Int32) (_ : Unit) => r = -1) (fun _ zt => zt.heap.size = sz) (zN sz)) 0 0 (zN sz) := by
  refine Met.ofW (cc := cX16_close) (maxL := 11) (ret := (some .int)) (by decide) rfl ?_
  intro p e s m args below meth c s₁ B hml hv
  generalize hQ : MQ below _ _ s _ _ _ = QQ
  obtain ⟨rfl, hsz, hP, hK, hD0⟩ := hv
  have hx := B.exec
  have hb := B.bytes
  have hr := B.returns
  have hts := atoms_spec (ws := w_X16_close) B.pre
  have hall := fun (w : Cond) (h : w ∈ zAll) => hts w (List.mem_cons_of_mem _ h)
  have hown : s.vm.findClass RX16 = some m.cls := findClass_of_methodNamed B.named
  have hlocks := B.notSynchronized
  subst hsz
  have hA : ∀ q : Nat, s.heap.size ≤ q → zN s.heap.size q := fun q h => h
  have hS : va_S (zN s.heap.size) s.heap s.heap [] := va_S.rf
  have hD := hD0
  have hl := lv_entry ([.ref h0, .int x, .int y]) (n := 11) (Nat.le_of_ble_eq_true rfl)
  rw [lg_entry_eq]
  generalize (lg_sl ([.ref h0, .int x, .int y]) ++ List.replicate (11 - (lg_sl ([.ref h0, .int x, .int y])).length) Slot.unset).toArray = ls at hl ⊢
  have hl : lv_has ls 11 [(0, .ref h0), (1, .int x), (2, .int y)] := hl
  refine lv_iload_n hx hb dX16_close_0 rfl (lv_at hl 1 rfl) ?_
  refine zro_i hS hA (va_runS (As := [.int x]) (rest := []) ⟨hx, hb, hml, hown, hall⟩ (c_X16_isSlot l dC dI aC x s.heap.size) (va_cwS 1 hall (zgS zw_434 zw_436 zw_812 g_X16_isSlot) rfl rfl rfl (by decide +kernel) ⟨Nat.le_of_ble_eq_true rfl, Nat.le_of_ble_eq_true rfl⟩) (zPre_S (As := [.int x]) hK hP hD [] rfl (by decide +kernel)) rfl rfl hl.1 rfl (lv_room (Nat.le_of_ble_eq_true rfl)) dX16_close_1 ⟨Nat.le_of_ble_eq_true rfl, Nat.le_of_ble_eq_true rfl⟩) (fun r60142 L60143 hw hS' => ?_)
  clear hS
  have hS := hS'
  clear hS'
  obtain rfl : r60142 = 0 := hw.trans (zisl_0 hxm)
  try clear hw
  refine lv_if_eq (tgt := 14) hx hb dX16_close_4 (by decide) (fun _ => ?_) (fun c_4_b60144 => absurd (by decide) c_4_b60144)
  refine lv_iconst (v := (-1)) hx hb dX16_close_14 (by decide) ?_
  rw [← hQ]
  exact W.iret (v := (-1)) hx hb hr (fun zt ht hW => ⟨⟨(-1), (), rfl, rfl, (show zt.heap.size = s.heap.size by rw [ht])⟩, hS.F ht⟩) hS.2.2 dX16_close_15

set_option maxHeartbeats 4000000 in
set_option maxRecDepth 100000 in
theorem c_X16_close_in (l : Launch) (dC : Nat → ClassId) (dI : Nat → Nat → Nat) (aC : Nat → ClassId) (h0 d a : Nat) (x y : Int32) (sz : Nat) (hxm : zok x = true) (ha : a = d + (7485 + 9 * x.toNatClampNeg)) : Met l yX16_close w_X16_close ({ frames := 2, cells := 0, slots := 0, locals := 44 }) (zPre (dC, dI) aC [(h0, .inr (15, [.ref (d + 0), .int 0, .ref (d + 1), .int 0, .ref (d + 2), .ref (d + 3), .ref (d + 68), .ref (d + 77), .ref (d + 78), .int 0, .int 0, .ref (d + 79), .int 0, .int 0, .int 0, .ref (d + 80), .int 0, .int 0, .int 0, .int 0, .ref (d + 81), .ref (d + 82), .int (-1), .ref (d + 91), .int 0, .int 0, .ref (d + 92), .int 0, .ref (d + 93), .int 0, .ref (d + 94), .int 0, .ref (d + 95), .ref (d + 96), .ref (d + 97), .ref (d + 98), .int 0, .int 0, .ref (d + 99), .null, .null, .null, .null, .null, .ref (d + 148), .ref (d + 175), .ref (d + 176), .ref (d + 177), .int 0, .ref (d + 178), .ref (d + 179), .ref (d + 180), .ref (d + 185), .ref (d + 190), .ref (d + 191), .ref (d + 192), .ref (d + 193), .ref (d + 201), .ref (d + 209), .ref (d + 210), .ref (d + 211), .ref (d + 272), .ref (d + 273), .int 0, .ref (d + 274)])), (d + 81, .inl (aC 6, 12, .inr (.inr (.inr (.inr (zrefs (fun i => d + (7485 + 9 * i)) 12)))))), (a, .inr (13, [.int 0, .ref (a + 1 + 0), .ref (a + 1 + 1), .int 0, .int 0, .int 0, .ref (a + 1 + 2), .ref (a + 1 + 3), .ref (a + 1 + 4), .ref (a + 1 + 5), .int 0, .ref (a + 1 + 6), .int 0, .int 0, .ref (a + 1 + 7)]))] sz [.ref h0, .int x, .int y]) (va_Qi (fun (r : Int32) (_ : Unit) => r = zface1 y (-3) (-1)) (fun _ zt => zt.heap.size = sz) (zN sz)) 0 0 (zN sz) := by
  refine Met.ofW (cc := cX16_close) (maxL := 11) (ret := (some .int)) (by decide) rfl ?_
  intro p e s m args below meth c s₁ B hml hv
  generalize hQ : MQ below _ _ s _ _ _ = QQ
  obtain ⟨rfl, hsz, hP, hK, hD0⟩ := hv
  have hx := B.exec
  have hb := B.bytes
  have hr := B.returns
  have hts := atoms_spec (ws := w_X16_close) B.pre
  have hall := fun (w : Cond) (h : w ∈ zAll) => hts w (List.mem_cons_of_mem _ h)
  have hown : s.vm.findClass RX16 = some m.cls := findClass_of_methodNamed B.named
  have hlocks := B.notSynchronized
  subst hsz
  have hA : ∀ q : Nat, s.heap.size ≤ q → zN s.heap.size q := fun q h => h
  have hS : va_S (zN s.heap.size) s.heap s.heap [] := va_S.rf
  have hD := hD0
  have hl := lv_entry ([.ref h0, .int x, .int y]) (n := 11) (Nat.le_of_ble_eq_true rfl)
  rw [lg_entry_eq]
  generalize (lg_sl ([.ref h0, .int x, .int y]) ++ List.replicate (11 - (lg_sl ([.ref h0, .int x, .int y])).length) Slot.unset).toArray = ls at hl ⊢
  have hl : lv_has ls 11 [(0, .ref h0), (1, .int x), (2, .int y)] := hl
  refine lv_iload_n hx hb dX16_close_0 rfl (lv_at hl 1 rfl) ?_
  refine zro_i hS hA (va_runS (As := [.int x]) (rest := []) ⟨hx, hb, hml, hown, hall⟩ (c_X16_isSlot l dC dI aC x s.heap.size) (va_cwS 1 hall (zgS zw_434 zw_436 zw_812 g_X16_isSlot) rfl rfl rfl (by decide +kernel) ⟨Nat.le_of_ble_eq_true rfl, Nat.le_of_ble_eq_true rfl⟩) (zPre_S (As := [.int x]) hK hP hD [] rfl (by decide +kernel)) rfl rfl hl.1 rfl (lv_room (Nat.le_of_ble_eq_true rfl)) dX16_close_1 ⟨Nat.le_of_ble_eq_true rfl, Nat.le_of_ble_eq_true rfl⟩) (fun r60145 L60146 hw hS' => ?_)
  clear hS
  have hS := hS'
  clear hS'
  obtain rfl : r60145 = 1 := hw.trans (zisl_1 hxm)
  try clear hw
  refine lv_if_eq (tgt := 14) hx hb dX16_close_4 (by decide) (fun c_4_b60147 => absurd c_4_b60147 (by decide)) (fun _ => ?_)
  refine lv_iload_n hx hb dX16_close_7 rfl (lv_at hl 2 rfl) ?_
  refine zro_i hS hA (va_runS (As := [.int y]) (rest := []) ⟨hx, hb, hml, hown, hall⟩ (c_X16_isSlot l dC dI aC y s.heap.size) (va_cwS 1 hall (zgS zw_434 zw_436 zw_812 g_X16_isSlot) rfl rfl rfl (by decide +kernel) ⟨Nat.le_of_ble_eq_true rfl, Nat.le_of_ble_eq_true rfl⟩) (zPre_S (As := [.int y]) hK hP hD [] rfl (by decide +kernel)) rfl rfl hl.1 rfl (lv_room (Nat.le_of_ble_eq_true rfl)) dX16_close_8 ⟨Nat.le_of_ble_eq_true rfl, Nat.le_of_ble_eq_true rfl⟩) (fun r60148 L60149 hw hS' => ?_)
  clear hS
  have hS := hS'
  clear hS'
  by_cases z60150 : zok y = true
  · obtain rfl : r60148 = 1 := hw.trans (zisl_1 z60150)
    try clear hw
    show W p l e _ s m _ below meth c _ _ _ _ QQ (F0 m 11 ls [.int 1])
    refine lv_if_ne (tgt := 16) hx hb dX16_close_11 (by decide) (fun _ => ?_) (fun c_11_b60151 => absurd c_11_b60151 (by decide))
    refine lv_aload_n hx hb dX16_close_16 rfl (lv_at hl 0 rfl) ?_
    refine va_get (D := (dC, dI)) (ci := 15) (v := .ref (d + 81)) (C := RX16) (T := TX16) (N := 65) hx hb hall zx_16 hown hK.1 hP 0 rfl rfl 20 (by decide) (hall _ zw_336) (fun _ h9 => h9) rfl dX16_close_17 ?_
    refine lv_iload_n hx hb dX16_close_20 rfl (lv_at hl 1 rfl) ?_
    refine zaldr hx hb hK.1 hP 1 6 rfl rfl (zok_in hxm) (zrefs_in (zok_in hxm)) dX16_close_21 ?_
    rw [← ha]
    show W p l e _ s m _ below meth c _ _ _ _ QQ (F0 m 22 ls [.ref a])
    refine lv_astore_n (lv' := [(3, .ref a), (0, .ref h0), (1, .int x), (2, .int y)]) hx hb dX16_close_22 rfl hl (by decide) rfl (fun ls60152 hl' => ?_)
    clear hl
    have hl : lv_has ls60152 11 [(3, .ref a), (0, .ref h0), (1, .int x), (2, .int y)] := hl'
    clear hl'
    refine lv_aload_n hx hb dX16_close_23 rfl (lv_at hl 0 rfl) ?_
    refine va_get (D := (dC, dI)) (ci := 13) (v := .int 0) (C := RX14) (T := TX14) (N := 15) hx hb hall zx_14 hown hK.1 hP 2 rfl rfl 0 (by decide) (hall _ zw_402) (fun _ h9 => h9) rfl dX16_close_24 ?_
    refine lv_iconst (v := 1) hx hb dX16_close_27 (by decide) ?_
    refine lv_icmp_eq (tgt := 42) hx hb dX16_close_28 (by decide) (fun c_28_b60153 => absurd c_28_b60153 (by decide)) (fun _ => ?_)
    show W p l e _ s m _ below meth c _ _ _ _ QQ (F0 m 31 ls60152 [])
    refine lv_aload_n hx hb dX16_close_31 rfl (lv_at hl 0 rfl) ?_
    refine va_get (D := (dC, dI)) (ci := 13) (v := .int 0) (C := RX14) (T := TX14) (N := 15) hx hb hall zx_14 hown hK.1 hP 2 rfl rfl 0 (by decide) (hall _ zw_402) (fun _ h9 => h9) rfl dX16_close_32 ?_
    refine lv_iconst (v := 2) hx hb dX16_close_35 (by decide) ?_
    refine lv_icmp_eq (tgt := 42) hx hb dX16_close_36 (by decide) (fun c_36_b60154 => absurd c_36_b60154 (by decide)) (fun _ => ?_)
    refine lv_bipush (v := (-3)) hx hb dX16_close_39 (by decide) ?_
    rw [← hQ]
    exact W.iret (v := (-3)) hx hb hr (fun zt ht hW => ⟨⟨(-3), (), rfl, by simp [zface1, z60150], (show zt.heap.size = s.heap.size by rw [ht])⟩, hS.F ht⟩) hS.2.2 dX16_close_41
  · obtain rfl : r60148 = 0 := hw.trans (zisl_0 z60150)
    try clear hw
    show W p l e _ s m _ below meth c _ _ _ _ QQ (F0 m 11 ls [.int 0])
    refine lv_if_ne (tgt := 16) hx hb dX16_close_11 (by decide) (fun c_11_b60155 => absurd (by decide) c_11_b60155) (fun _ => ?_)
    refine lv_iconst (v := (-1)) hx hb dX16_close_14 (by decide) ?_
    rw [← hQ]
    exact W.iret (v := (-1)) hx hb hr (fun zt ht hW => ⟨⟨(-1), (), rfl, by simp [zface1, z60150], (show zt.heap.size = s.heap.size by rw [ht])⟩, hS.F ht⟩) hS.2.2 dX16_close_15

set_option maxHeartbeats 4000000 in
set_option maxRecDepth 100000 in
theorem c_X16_recur_out (l : Launch) (dC : Nat → ClassId) (dI : Nat → Nat → Nat) (aC : Nat → ClassId) (h0 d : Nat) (x z y : Int32) (sz : Nat) (hxm : ¬ zok x = true) : Met l yX16_recur w_X16_recur ({ frames := 2, cells := 0, slots := 0, locals := 44 }) (zPre (dC, dI) aC [(h0, .inr (15, [.ref (d + 0), .int 0, .ref (d + 1), .int 0, .ref (d + 2), .ref (d + 3), .ref (d + 68), .ref (d + 77), .ref (d + 78), .int 0, .int 0, .ref (d + 79), .int 0, .int 0, .int 0, .ref (d + 80), .int 0, .int 0, .int 0, .int 0, .ref (d + 81), .ref (d + 82), .int (-1), .ref (d + 91), .int 0, .int 0, .ref (d + 92), .int 0, .ref (d + 93), .int 0, .ref (d + 94), .int 0, .ref (d + 95), .ref (d + 96), .ref (d + 97), .ref (d + 98), .int 0, .int 0, .ref (d + 99), .null, .null, .null, .null, .null, .ref (d + 148), .ref (d + 175), .ref (d + 176), .ref (d + 177), .int 0, .ref (d + 178), .ref (d + 179), .ref (d + 180), .ref (d + 185), .ref (d + 190), .ref (d + 191), .ref (d + 192), .ref (d + 193), .ref (d + 201), .ref (d + 209), .ref (d + 210), .ref (d + 211), .ref (d + 272), .ref (d + 273), .int 0, .ref (d + 274)])), (d + 81, .inl (aC 6, 12, .inr (.inr (.inr (.inr (zrefs (fun i => d + (7485 + 9 * i)) 12))))))] sz [.ref h0, .int x, .int z, .int y]) (va_Qi (fun (r : Int32) (_ : Unit) => r = -1) (fun _ zt => zt.heap.size = sz) (zN sz)) 0 0 (zN sz) := by
  refine Met.ofW (cc := cX16_recur) (maxL := 14) (ret := (some .int)) (by decide) rfl ?_
  intro p e s m args below meth c s₁ B hml hv
  generalize hQ : MQ below _ _ s _ _ _ = QQ
  obtain ⟨rfl, hsz, hP, hK, hD0⟩ := hv
  have hx := B.exec
  have hb := B.bytes
  have hr := B.returns
  have hts := atoms_spec (ws := w_X16_recur) B.pre
  have hall := fun (w : Cond) (h : w ∈ zAll) => hts w (List.mem_cons_of_mem _ h)
  have hown : s.vm.findClass RX16 = some m.cls := findClass_of_methodNamed B.named
  have hlocks := B.notSynchronized
  subst hsz
  have hA : ∀ q : Nat, s.heap.size ≤ q → zN s.heap.size q := fun q h => h
  have hS : va_S (zN s.heap.size) s.heap s.heap [] := va_S.rf
  have hD := hD0
  have hl := lv_entry ([.ref h0, .int x, .int z, .int y]) (n := 14) (Nat.le_of_ble_eq_true rfl)
  rw [lg_entry_eq]
  generalize (lg_sl ([.ref h0, .int x, .int z, .int y]) ++ List.replicate (14 - (lg_sl ([.ref h0, .int x, .int z, .int y])).length) Slot.unset).toArray = ls at hl ⊢
  have hl : lv_has ls 14 [(0, .ref h0), (1, .int x), (2, .int z), (3, .int y)] := hl
  refine lv_iload_n hx hb dX16_recur_0 rfl (lv_at hl 1 rfl) ?_
  refine zro_i hS hA (va_runS (As := [.int x]) (rest := []) ⟨hx, hb, hml, hown, hall⟩ (c_X16_isSlot l dC dI aC x s.heap.size) (va_cwS 1 hall (zgS zw_434 zw_436 zw_812 g_X16_isSlot) rfl rfl rfl (by decide +kernel) ⟨Nat.le_of_ble_eq_true rfl, Nat.le_of_ble_eq_true rfl⟩) (zPre_S (As := [.int x]) hK hP hD [] rfl (by decide +kernel)) rfl rfl hl.1 rfl (lv_room (Nat.le_of_ble_eq_true rfl)) dX16_recur_1 ⟨Nat.le_of_ble_eq_true rfl, Nat.le_of_ble_eq_true rfl⟩) (fun r60156 L60157 hw hS' => ?_)
  clear hS
  have hS := hS'
  clear hS'
  obtain rfl : r60156 = 0 := hw.trans (zisl_0 hxm)
  try clear hw
  refine lv_if_eq (tgt := 14) hx hb dX16_recur_4 (by decide) (fun _ => ?_) (fun c_4_b60158 => absurd (by decide) c_4_b60158)
  refine lv_iconst (v := (-1)) hx hb dX16_recur_14 (by decide) ?_
  rw [← hQ]
  exact W.iret (v := (-1)) hx hb hr (fun zt ht hW => ⟨⟨(-1), (), rfl, rfl, (show zt.heap.size = s.heap.size by rw [ht])⟩, hS.F ht⟩) hS.2.2 dX16_recur_15

set_option maxHeartbeats 4000000 in
set_option maxRecDepth 100000 in
theorem c_X16_recur_in (l : Launch) (dC : Nat → ClassId) (dI : Nat → Nat → Nat) (aC : Nat → ClassId) (h0 d a : Nat) (x z y : Int32) (sz : Nat) (hxm : zok x = true) (ha : a = d + (7485 + 9 * x.toNatClampNeg)) : Met l yX16_recur w_X16_recur ({ frames := 2, cells := 0, slots := 0, locals := 44 }) (zPre (dC, dI) aC [(h0, .inr (15, [.ref (d + 0), .int 0, .ref (d + 1), .int 0, .ref (d + 2), .ref (d + 3), .ref (d + 68), .ref (d + 77), .ref (d + 78), .int 0, .int 0, .ref (d + 79), .int 0, .int 0, .int 0, .ref (d + 80), .int 0, .int 0, .int 0, .int 0, .ref (d + 81), .ref (d + 82), .int (-1), .ref (d + 91), .int 0, .int 0, .ref (d + 92), .int 0, .ref (d + 93), .int 0, .ref (d + 94), .int 0, .ref (d + 95), .ref (d + 96), .ref (d + 97), .ref (d + 98), .int 0, .int 0, .ref (d + 99), .null, .null, .null, .null, .null, .ref (d + 148), .ref (d + 175), .ref (d + 176), .ref (d + 177), .int 0, .ref (d + 178), .ref (d + 179), .ref (d + 180), .ref (d + 185), .ref (d + 190), .ref (d + 191), .ref (d + 192), .ref (d + 193), .ref (d + 201), .ref (d + 209), .ref (d + 210), .ref (d + 211), .ref (d + 272), .ref (d + 273), .int 0, .ref (d + 274)])), (d + 81, .inl (aC 6, 12, .inr (.inr (.inr (.inr (zrefs (fun i => d + (7485 + 9 * i)) 12)))))), (a, .inr (13, [.int 0, .ref (a + 1 + 0), .ref (a + 1 + 1), .int 0, .int 0, .int 0, .ref (a + 1 + 2), .ref (a + 1 + 3), .ref (a + 1 + 4), .ref (a + 1 + 5), .int 0, .ref (a + 1 + 6), .int 0, .int 0, .ref (a + 1 + 7)]))] sz [.ref h0, .int x, .int z, .int y]) (va_Qi (fun (r : Int32) (_ : Unit) => r = zface1 y (-3) (-1)) (fun _ zt => zt.heap.size = sz) (zN sz)) 0 0 (zN sz) := by
  refine Met.ofW (cc := cX16_recur) (maxL := 14) (ret := (some .int)) (by decide) rfl ?_
  intro p e s m args below meth c s₁ B hml hv
  generalize hQ : MQ below _ _ s _ _ _ = QQ
  obtain ⟨rfl, hsz, hP, hK, hD0⟩ := hv
  have hx := B.exec
  have hb := B.bytes
  have hr := B.returns
  have hts := atoms_spec (ws := w_X16_recur) B.pre
  have hall := fun (w : Cond) (h : w ∈ zAll) => hts w (List.mem_cons_of_mem _ h)
  have hown : s.vm.findClass RX16 = some m.cls := findClass_of_methodNamed B.named
  have hlocks := B.notSynchronized
  subst hsz
  have hA : ∀ q : Nat, s.heap.size ≤ q → zN s.heap.size q := fun q h => h
  have hS : va_S (zN s.heap.size) s.heap s.heap [] := va_S.rf
  have hD := hD0
  have hl := lv_entry ([.ref h0, .int x, .int z, .int y]) (n := 14) (Nat.le_of_ble_eq_true rfl)
  rw [lg_entry_eq]
  generalize (lg_sl ([.ref h0, .int x, .int z, .int y]) ++ List.replicate (14 - (lg_sl ([.ref h0, .int x, .int z, .int y])).length) Slot.unset).toArray = ls at hl ⊢
  have hl : lv_has ls 14 [(0, .ref h0), (1, .int x), (2, .int z), (3, .int y)] := hl
  refine lv_iload_n hx hb dX16_recur_0 rfl (lv_at hl 1 rfl) ?_
  refine zro_i hS hA (va_runS (As := [.int x]) (rest := []) ⟨hx, hb, hml, hown, hall⟩ (c_X16_isSlot l dC dI aC x s.heap.size) (va_cwS 1 hall (zgS zw_434 zw_436 zw_812 g_X16_isSlot) rfl rfl rfl (by decide +kernel) ⟨Nat.le_of_ble_eq_true rfl, Nat.le_of_ble_eq_true rfl⟩) (zPre_S (As := [.int x]) hK hP hD [] rfl (by decide +kernel)) rfl rfl hl.1 rfl (lv_room (Nat.le_of_ble_eq_true rfl)) dX16_recur_1 ⟨Nat.le_of_ble_eq_true rfl, Nat.le_of_ble_eq_true rfl⟩) (fun r60159 L60160 hw hS' => ?_)
  clear hS
  have hS := hS'
  clear hS'
  obtain rfl : r60159 = 1 := hw.trans (zisl_1 hxm)
  try clear hw
  refine lv_if_eq (tgt := 14) hx hb dX16_recur_4 (by decide) (fun c_4_b60161 => absurd c_4_b60161 (by decide)) (fun _ => ?_)
  refine lv_iload_n hx hb dX16_recur_7 rfl (lv_at hl 3 rfl) ?_
  refine zro_i hS hA (va_runS (As := [.int y]) (rest := []) ⟨hx, hb, hml, hown, hall⟩ (c_X16_isSlot l dC dI aC y s.heap.size) (va_cwS 1 hall (zgS zw_434 zw_436 zw_812 g_X16_isSlot) rfl rfl rfl (by decide +kernel) ⟨Nat.le_of_ble_eq_true rfl, Nat.le_of_ble_eq_true rfl⟩) (zPre_S (As := [.int y]) hK hP hD [] rfl (by decide +kernel)) rfl rfl hl.1 rfl (lv_room (Nat.le_of_ble_eq_true rfl)) dX16_recur_8 ⟨Nat.le_of_ble_eq_true rfl, Nat.le_of_ble_eq_true rfl⟩) (fun r60162 L60163 hw hS' => ?_)
  clear hS
  have hS := hS'
  clear hS'
  by_cases z60164 : zok y = true
  · obtain rfl : r60162 = 1 := hw.trans (zisl_1 z60164)
    try clear hw
    show W p l e _ s m _ below meth c _ _ _ _ QQ (F0 m 11 ls [.int 1])
    refine lv_if_ne (tgt := 16) hx hb dX16_recur_11 (by decide) (fun _ => ?_) (fun c_11_b60165 => absurd c_11_b60165 (by decide))
    refine lv_aload_n hx hb dX16_recur_16 rfl (lv_at hl 0 rfl) ?_
    refine va_get (D := (dC, dI)) (ci := 15) (v := .ref (d + 81)) (C := RX16) (T := TX16) (N := 65) hx hb hall zx_16 hown hK.1 hP 0 rfl rfl 20 (by decide) (hall _ zw_336) (fun _ h9 => h9) rfl dX16_recur_17 ?_
    refine lv_iload_n hx hb dX16_recur_20 rfl (lv_at hl 1 rfl) ?_
    refine zaldr hx hb hK.1 hP 1 6 rfl rfl (zok_in hxm) (zrefs_in (zok_in hxm)) dX16_recur_21 ?_
    rw [← ha]
    show W p l e _ s m _ below meth c _ _ _ _ QQ (F0 m 22 ls [.ref a])
    refine lv_astore (lv' := [(4, .ref a), (0, .ref h0), (1, .int x), (2, .int z), (3, .int y)]) hx hb dX16_recur_22 hl (by decide) rfl (fun ls60166 hl' => ?_)
    clear hl
    have hl : lv_has ls60166 14 [(4, .ref a), (0, .ref h0), (1, .int x), (2, .int z), (3, .int y)] := hl'
    clear hl'
    refine lv_aload hx hb dX16_recur_24 (lv_at hl 0 rfl) ?_
    refine va_get (D := (dC, dI)) (ci := 13) (v := .int 0) (C := RX14) (T := TX14) (N := 15) hx hb hall zx_14 hown hK.1 hP 2 rfl rfl 0 (by decide) (hall _ zw_402) (fun _ h9 => h9) rfl dX16_recur_26 ?_
    refine lv_iconst (v := 1) hx hb dX16_recur_29 (by decide) ?_
    refine lv_icmp_eq (tgt := 45) hx hb dX16_recur_30 (by decide) (fun c_30_b60167 => absurd c_30_b60167 (by decide)) (fun _ => ?_)
    show W p l e _ s m _ below meth c _ _ _ _ QQ (F0 m 33 ls60166 [])
    refine lv_aload hx hb dX16_recur_33 (lv_at hl 0 rfl) ?_
    refine va_get (D := (dC, dI)) (ci := 13) (v := .int 0) (C := RX14) (T := TX14) (N := 15) hx hb hall zx_14 hown hK.1 hP 2 rfl rfl 0 (by decide) (hall _ zw_402) (fun _ h9 => h9) rfl dX16_recur_35 ?_
    refine lv_iconst (v := 2) hx hb dX16_recur_38 (by decide) ?_
    refine lv_icmp_eq (tgt := 45) hx hb dX16_recur_39 (by decide) (fun c_39_b60168 => absurd c_39_b60168 (by decide)) (fun _ => ?_)
    refine lv_bipush (v := (-3)) hx hb dX16_recur_42 (by decide) ?_
    rw [← hQ]
    exact W.iret (v := (-3)) hx hb hr (fun zt ht hW => ⟨⟨(-3), (), rfl, by simp [zface1, z60164], (show zt.heap.size = s.heap.size by rw [ht])⟩, hS.F ht⟩) hS.2.2 dX16_recur_44
  · obtain rfl : r60162 = 0 := hw.trans (zisl_0 z60164)
    try clear hw
    show W p l e _ s m _ below meth c _ _ _ _ QQ (F0 m 11 ls [.int 0])
    refine lv_if_ne (tgt := 16) hx hb dX16_recur_11 (by decide) (fun c_11_b60169 => absurd (by decide) c_11_b60169) (fun _ => ?_)
    refine lv_iconst (v := (-1)) hx hb dX16_recur_14 (by decide) ?_
    rw [← hQ]
    exact W.iret (v := (-1)) hx hb hr (fun zt ht hW => ⟨⟨(-1), (), rfl, by simp [zface1, z60164], (show zt.heap.size = s.heap.size by rw [ht])⟩, hS.F ht⟩) hS.2.2 dX16_recur_15

set_option maxHeartbeats 4000000 in
set_option maxRecDepth 100000 in
theorem c_X16_part__out (l : Launch) (dC : Nat → ClassId) (dI : Nat → Nat → Nat) (aC : Nat → ClassId) (h0 d : Nat) (x z y : Int32) (sz : Nat) (hxm : ¬ zok x = true) : Met l yX16_part_ w_X16_part_ ({ frames := 2, cells := 0, slots := 0, locals := 44 }) (zPre (dC, dI) aC [(h0, .inr (15, [.ref (d + 0), .int 0, .ref (d + 1), .int 0, .ref (d + 2), .ref (d + 3), .ref (d + 68), .ref (d + 77), .ref (d + 78), .int 0, .int 0, .ref (d + 79), .int 0, .int 0, .int 0, .ref (d + 80), .int 0, .int 0, .int 0, .int 0, .ref (d + 81), .ref (d + 82), .int (-1), .ref (d + 91), .int 0, .int 0, .ref (d + 92), .int 0, .ref (d + 93), .int 0, .ref (d + 94), .int 0, .ref (d + 95), .ref (d + 96), .ref (d + 97), .ref (d + 98), .int 0, .int 0, .ref (d + 99), .null, .null, .null, .null, .null, .ref (d + 148), .ref (d + 175), .ref (d + 176), .ref (d + 177), .int 0, .ref (d + 178), .ref (d + 179), .ref (d + 180), .ref (d + 185), .ref (d + 190), .ref (d + 191), .ref (d + 192), .ref (d + 193), .ref (d + 201), .ref (d + 209), .ref (d + 210), .ref (d + 211), .ref (d + 272), .ref (d + 273), .int 0, .ref (d + 274)])), (d + 81, .inl (aC 6, 12, .inr (.inr (.inr (.inr (zrefs (fun i => d + (7485 + 9 * i)) 12))))))] sz [.ref h0, .int x, .int z, .int y]) (va_Qi (fun (r : Int32) (_ : Unit) => r = -1) (fun _ zt => zt.heap.size = sz) (zN sz)) 0 0 (zN sz) := by
  refine Met.ofW (cc := cX16_part_) (maxL := 5) (ret := (some .int)) (by decide) rfl ?_
  intro p e s m args below meth c s₁ B hml hv
  generalize hQ : MQ below _ _ s _ _ _ = QQ
  obtain ⟨rfl, hsz, hP, hK, hD0⟩ := hv
  have hx := B.exec
  have hb := B.bytes
  have hr := B.returns
  have hts := atoms_spec (ws := w_X16_part_) B.pre
  have hall := fun (w : Cond) (h : w ∈ zAll) => hts w (List.mem_cons_of_mem _ h)
  have hown : s.vm.findClass RX16 = some m.cls := findClass_of_methodNamed B.named
  have hlocks := B.notSynchronized
  subst hsz
  have hA : ∀ q : Nat, s.heap.size ≤ q → zN s.heap.size q := fun q h => h
  have hS : va_S (zN s.heap.size) s.heap s.heap [] := va_S.rf
  have hD := hD0
  have hl := lv_entry ([.ref h0, .int x, .int z, .int y]) (n := 5) (Nat.le_of_ble_eq_true rfl)
  rw [lg_entry_eq]
  generalize (lg_sl ([.ref h0, .int x, .int z, .int y]) ++ List.replicate (5 - (lg_sl ([.ref h0, .int x, .int z, .int y])).length) Slot.unset).toArray = ls at hl ⊢
  have hl : lv_has ls 5 [(0, .ref h0), (1, .int x), (2, .int z), (3, .int y)] := hl
  refine lv_iload_n hx hb dX16_part__0 rfl (lv_at hl 1 rfl) ?_
  refine zro_i hS hA (va_runS (As := [.int x]) (rest := []) ⟨hx, hb, hml, hown, hall⟩ (c_X16_isSlot l dC dI aC x s.heap.size) (va_cwS 1 hall (zgS zw_434 zw_436 zw_812 g_X16_isSlot) rfl rfl rfl (by decide +kernel) ⟨Nat.le_of_ble_eq_true rfl, Nat.le_of_ble_eq_true rfl⟩) (zPre_S (As := [.int x]) hK hP hD [] rfl (by decide +kernel)) rfl rfl hl.1 rfl (lv_room (Nat.le_of_ble_eq_true rfl)) dX16_part__1 ⟨Nat.le_of_ble_eq_true rfl, Nat.le_of_ble_eq_true rfl⟩) (fun r60170 L60171 hw hS' => ?_)
  clear hS
  have hS := hS'
  clear hS'
  obtain rfl : r60170 = 0 := hw.trans (zisl_0 hxm)
  try clear hw
  refine lv_if_eq (tgt := 14) hx hb dX16_part__4 (by decide) (fun _ => ?_) (fun c_4_b60172 => absurd (by decide) c_4_b60172)
  refine lv_iconst (v := (-1)) hx hb dX16_part__14 (by decide) ?_
  rw [← hQ]
  exact W.iret (v := (-1)) hx hb hr (fun zt ht hW => ⟨⟨(-1), (), rfl, rfl, (show zt.heap.size = s.heap.size by rw [ht])⟩, hS.F ht⟩) hS.2.2 dX16_part__15

set_option maxHeartbeats 4000000 in
set_option maxRecDepth 100000 in
theorem c_X16_part__in (l : Launch) (dC : Nat → ClassId) (dI : Nat → Nat → Nat) (aC : Nat → ClassId) (h0 d a : Nat) (x z y : Int32) (sz : Nat) (hxm : zok x = true) (ha : a = d + (7485 + 9 * x.toNatClampNeg)) : Met l yX16_part_ w_X16_part_ ({ frames := 2, cells := 0, slots := 0, locals := 44 }) (zPre (dC, dI) aC [(h0, .inr (15, [.ref (d + 0), .int 0, .ref (d + 1), .int 0, .ref (d + 2), .ref (d + 3), .ref (d + 68), .ref (d + 77), .ref (d + 78), .int 0, .int 0, .ref (d + 79), .int 0, .int 0, .int 0, .ref (d + 80), .int 0, .int 0, .int 0, .int 0, .ref (d + 81), .ref (d + 82), .int (-1), .ref (d + 91), .int 0, .int 0, .ref (d + 92), .int 0, .ref (d + 93), .int 0, .ref (d + 94), .int 0, .ref (d + 95), .ref (d + 96), .ref (d + 97), .ref (d + 98), .int 0, .int 0, .ref (d + 99), .null, .null, .null, .null, .null, .ref (d + 148), .ref (d + 175), .ref (d + 176), .ref (d + 177), .int 0, .ref (d + 178), .ref (d + 179), .ref (d + 180), .ref (d + 185), .ref (d + 190), .ref (d + 191), .ref (d + 192), .ref (d + 193), .ref (d + 201), .ref (d + 209), .ref (d + 210), .ref (d + 211), .ref (d + 272), .ref (d + 273), .int 0, .ref (d + 274)])), (d + 81, .inl (aC 6, 12, .inr (.inr (.inr (.inr (zrefs (fun i => d + (7485 + 9 * i)) 12)))))), (a, .inr (13, [.int 0, .ref (a + 1 + 0), .ref (a + 1 + 1), .int 0, .int 0, .int 0, .ref (a + 1 + 2), .ref (a + 1 + 3), .ref (a + 1 + 4), .ref (a + 1 + 5), .int 0, .ref (a + 1 + 6), .int 0, .int 0, .ref (a + 1 + 7)]))] sz [.ref h0, .int x, .int z, .int y]) (va_Qi (fun (r : Int32) (_ : Unit) => r = zface1 y (-3) (-1)) (fun _ zt => zt.heap.size = sz) (zN sz)) 0 0 (zN sz) := by
  refine Met.ofW (cc := cX16_part_) (maxL := 5) (ret := (some .int)) (by decide) rfl ?_
  intro p e s m args below meth c s₁ B hml hv
  generalize hQ : MQ below _ _ s _ _ _ = QQ
  obtain ⟨rfl, hsz, hP, hK, hD0⟩ := hv
  have hx := B.exec
  have hb := B.bytes
  have hr := B.returns
  have hts := atoms_spec (ws := w_X16_part_) B.pre
  have hall := fun (w : Cond) (h : w ∈ zAll) => hts w (List.mem_cons_of_mem _ h)
  have hown : s.vm.findClass RX16 = some m.cls := findClass_of_methodNamed B.named
  have hlocks := B.notSynchronized
  subst hsz
  have hA : ∀ q : Nat, s.heap.size ≤ q → zN s.heap.size q := fun q h => h
  have hS : va_S (zN s.heap.size) s.heap s.heap [] := va_S.rf
  have hD := hD0
  have hl := lv_entry ([.ref h0, .int x, .int z, .int y]) (n := 5) (Nat.le_of_ble_eq_true rfl)
  rw [lg_entry_eq]
  generalize (lg_sl ([.ref h0, .int x, .int z, .int y]) ++ List.replicate (5 - (lg_sl ([.ref h0, .int x, .int z, .int y])).length) Slot.unset).toArray = ls at hl ⊢
  have hl : lv_has ls 5 [(0, .ref h0), (1, .int x), (2, .int z), (3, .int y)] := hl
  refine lv_iload_n hx hb dX16_part__0 rfl (lv_at hl 1 rfl) ?_
  refine zro_i hS hA (va_runS (As := [.int x]) (rest := []) ⟨hx, hb, hml, hown, hall⟩ (c_X16_isSlot l dC dI aC x s.heap.size) (va_cwS 1 hall (zgS zw_434 zw_436 zw_812 g_X16_isSlot) rfl rfl rfl (by decide +kernel) ⟨Nat.le_of_ble_eq_true rfl, Nat.le_of_ble_eq_true rfl⟩) (zPre_S (As := [.int x]) hK hP hD [] rfl (by decide +kernel)) rfl rfl hl.1 rfl (lv_room (Nat.le_of_ble_eq_true rfl)) dX16_part__1 ⟨Nat.le_of_ble_eq_true rfl, Nat.le_of_ble_eq_true rfl⟩) (fun r60173 L60174 hw hS' => ?_)
  clear hS
  have hS := hS'
  clear hS'
  obtain rfl : r60173 = 1 := hw.trans (zisl_1 hxm)
  try clear hw
  refine lv_if_eq (tgt := 14) hx hb dX16_part__4 (by decide) (fun c_4_b60175 => absurd c_4_b60175 (by decide)) (fun _ => ?_)
  refine lv_iload_n hx hb dX16_part__7 rfl (lv_at hl 3 rfl) ?_
  refine zro_i hS hA (va_runS (As := [.int y]) (rest := []) ⟨hx, hb, hml, hown, hall⟩ (c_X16_isSlot l dC dI aC y s.heap.size) (va_cwS 1 hall (zgS zw_434 zw_436 zw_812 g_X16_isSlot) rfl rfl rfl (by decide +kernel) ⟨Nat.le_of_ble_eq_true rfl, Nat.le_of_ble_eq_true rfl⟩) (zPre_S (As := [.int y]) hK hP hD [] rfl (by decide +kernel)) rfl rfl hl.1 rfl (lv_room (Nat.le_of_ble_eq_true rfl)) dX16_part__8 ⟨Nat.le_of_ble_eq_true rfl, Nat.le_of_ble_eq_true rfl⟩) (fun r60176 L60177 hw hS' => ?_)
  clear hS
  have hS := hS'
  clear hS'
  by_cases z60178 : zok y = true
  · obtain rfl : r60176 = 1 := hw.trans (zisl_1 z60178)
    try clear hw
    show W p l e _ s m _ below meth c _ _ _ _ QQ (F0 m 11 ls [.int 1])
    refine lv_if_ne (tgt := 16) hx hb dX16_part__11 (by decide) (fun _ => ?_) (fun c_11_b60179 => absurd c_11_b60179 (by decide))
    refine lv_aload_n hx hb dX16_part__16 rfl (lv_at hl 0 rfl) ?_
    refine va_get (D := (dC, dI)) (ci := 15) (v := .ref (d + 81)) (C := RX16) (T := TX16) (N := 65) hx hb hall zx_16 hown hK.1 hP 0 rfl rfl 20 (by decide) (hall _ zw_336) (fun _ h9 => h9) rfl dX16_part__17 ?_
    refine lv_iload_n hx hb dX16_part__20 rfl (lv_at hl 1 rfl) ?_
    refine zaldr hx hb hK.1 hP 1 6 rfl rfl (zok_in hxm) (zrefs_in (zok_in hxm)) dX16_part__21 ?_
    rw [← ha]
    show W p l e _ s m _ below meth c _ _ _ _ QQ (F0 m 22 ls [.ref a])
    refine lv_astore (lv' := [(4, .ref a), (0, .ref h0), (1, .int x), (2, .int z), (3, .int y)]) hx hb dX16_part__22 hl (by decide) rfl (fun ls60180 hl' => ?_)
    clear hl
    have hl : lv_has ls60180 5 [(4, .ref a), (0, .ref h0), (1, .int x), (2, .int z), (3, .int y)] := hl'
    clear hl'
    refine lv_aload hx hb dX16_part__24 (lv_at hl 0 rfl) ?_
    refine va_get (D := (dC, dI)) (ci := 13) (v := .int 0) (C := RX14) (T := TX14) (N := 15) hx hb hall zx_14 hown hK.1 hP 2 rfl rfl 0 (by decide) (hall _ zw_402) (fun _ h9 => h9) rfl dX16_part__26 ?_
    refine lv_iconst (v := 3) hx hb dX16_part__29 (by decide) ?_
    refine lv_icmp_eq (tgt := 45) hx hb dX16_part__30 (by decide) (fun c_30_b60181 => absurd c_30_b60181 (by decide)) (fun _ => ?_)
    show W p l e _ s m _ below meth c _ _ _ _ QQ (F0 m 33 ls60180 [])
    refine lv_aload hx hb dX16_part__33 (lv_at hl 0 rfl) ?_
    refine va_get (D := (dC, dI)) (ci := 13) (v := .int 0) (C := RX14) (T := TX14) (N := 15) hx hb hall zx_14 hown hK.1 hP 2 rfl rfl 0 (by decide) (hall _ zw_402) (fun _ h9 => h9) rfl dX16_part__35 ?_
    refine lv_iconst (v := 4) hx hb dX16_part__38 (by decide) ?_
    refine lv_icmp_eq (tgt := 45) hx hb dX16_part__39 (by decide) (fun c_39_b60182 => absurd c_39_b60182 (by decide)) (fun _ => ?_)
    refine lv_bipush (v := (-3)) hx hb dX16_part__42 (by decide) ?_
    rw [← hQ]
    exact W.iret (v := (-3)) hx hb hr (fun zt ht hW => ⟨⟨(-3), (), rfl, by simp [zface1, z60178], (show zt.heap.size = s.heap.size by rw [ht])⟩, hS.F ht⟩) hS.2.2 dX16_part__44
  · obtain rfl : r60176 = 0 := hw.trans (zisl_0 z60178)
    try clear hw
    show W p l e _ s m _ below meth c _ _ _ _ QQ (F0 m 11 ls [.int 0])
    refine lv_if_ne (tgt := 16) hx hb dX16_part__11 (by decide) (fun c_11_b60183 => absurd (by decide) c_11_b60183) (fun _ => ?_)
    refine lv_iconst (v := (-1)) hx hb dX16_part__14 (by decide) ?_
    rw [← hQ]
    exact W.iret (v := (-1)) hx hb hr (fun zt ht hW => ⟨⟨(-1), (), rfl, by simp [zface1, z60178], (show zt.heap.size = s.heap.size by rw [ht])⟩, hS.F ht⟩) hS.2.2 dX16_part__15

set_option maxHeartbeats 4000000 in
set_option maxRecDepth 100000 in
theorem c_X16_check_out (l : Launch) (dC : Nat → ClassId) (dI : Nat → Nat → Nat) (aC : Nat → ClassId) (h0 d : Nat) (x y : Int32) (sz : Nat) (hxm : ¬ zok x = true) : Met l yX16_check w_X16_check ({ frames := 2, cells := 0, slots := 0, locals := 44 }) (zPre (dC, dI) aC [(h0, .inr (15, [.ref (d + 0), .int 0, .ref (d + 1), .int 0, .ref (d + 2), .ref (d + 3), .ref (d + 68), .ref (d + 77), .ref (d + 78), .int 0, .int 0, .ref (d + 79), .int 0, .int 0, .int 0, .ref (d + 80), .int 0, .int 0, .int 0, .int 0, .ref (d + 81), .ref (d + 82), .int (-1), .ref (d + 91), .int 0, .int 0, .ref (d + 92), .int 0, .ref (d + 93), .int 0, .ref (d + 94), .int 0, .ref (d + 95), .ref (d + 96), .ref (d + 97), .ref (d + 98), .int 0, .int 0, .ref (d + 99), .null, .null, .null, .null, .null, .ref (d + 148), .ref (d + 175), .ref (d + 176), .ref (d + 177), .int 0, .ref (d + 178), .ref (d + 179), .ref (d + 180), .ref (d + 185), .ref (d + 190), .ref (d + 191), .ref (d + 192), .ref (d + 193), .ref (d + 201), .ref (d + 209), .ref (d + 210), .ref (d + 211), .ref (d + 272), .ref (d + 273), .int 0, .ref (d + 274)])), (d + 81, .inl (aC 6, 12, .inr (.inr (.inr (.inr (zrefs (fun i => d + (7485 + 9 * i)) 12))))))] sz [.ref h0, .int x, .int y]) (va_Qi (fun (r : Int32) (_ : Unit) => r = -1) (fun _ zt => zt.heap.size = sz) (zN sz)) 0 0 (zN sz) := by
  refine Met.ofW (cc := cX16_check) (maxL := 13) (ret := (some .int)) (by decide) rfl ?_
  intro p e s m args below meth c s₁ B hml hv
  generalize hQ : MQ below _ _ s _ _ _ = QQ
  obtain ⟨rfl, hsz, hP, hK, hD0⟩ := hv
  have hx := B.exec
  have hb := B.bytes
  have hr := B.returns
  have hts := atoms_spec (ws := w_X16_check) B.pre
  have hall := fun (w : Cond) (h : w ∈ zAll) => hts w (List.mem_cons_of_mem _ h)
  have hown : s.vm.findClass RX16 = some m.cls := findClass_of_methodNamed B.named
  have hlocks := B.notSynchronized
  subst hsz
  have hA : ∀ q : Nat, s.heap.size ≤ q → zN s.heap.size q := fun q h => h
  have hS : va_S (zN s.heap.size) s.heap s.heap [] := va_S.rf
  have hD := hD0
  have hl := lv_entry ([.ref h0, .int x, .int y]) (n := 13) (Nat.le_of_ble_eq_true rfl)
  rw [lg_entry_eq]
  generalize (lg_sl ([.ref h0, .int x, .int y]) ++ List.replicate (13 - (lg_sl ([.ref h0, .int x, .int y])).length) Slot.unset).toArray = ls at hl ⊢
  have hl : lv_has ls 13 [(0, .ref h0), (1, .int x), (2, .int y)] := hl
  refine lv_iload_n hx hb dX16_check_0 rfl (lv_at hl 1 rfl) ?_
  refine zro_i hS hA (va_runS (As := [.int x]) (rest := []) ⟨hx, hb, hml, hown, hall⟩ (c_X16_isSlot l dC dI aC x s.heap.size) (va_cwS 1 hall (zgS zw_434 zw_436 zw_812 g_X16_isSlot) rfl rfl rfl (by decide +kernel) ⟨Nat.le_of_ble_eq_true rfl, Nat.le_of_ble_eq_true rfl⟩) (zPre_S (As := [.int x]) hK hP hD [] rfl (by decide +kernel)) rfl rfl hl.1 rfl (lv_room (Nat.le_of_ble_eq_true rfl)) dX16_check_1 ⟨Nat.le_of_ble_eq_true rfl, Nat.le_of_ble_eq_true rfl⟩) (fun r60184 L60185 hw hS' => ?_)
  clear hS
  have hS := hS'
  clear hS'
  obtain rfl : r60184 = 0 := hw.trans (zisl_0 hxm)
  try clear hw
  refine lv_if_eq (tgt := 14) hx hb dX16_check_4 (by decide) (fun _ => ?_) (fun c_4_b60186 => absurd (by decide) c_4_b60186)
  refine lv_iconst (v := (-1)) hx hb dX16_check_14 (by decide) ?_
  rw [← hQ]
  exact W.iret (v := (-1)) hx hb hr (fun zt ht hW => ⟨⟨(-1), (), rfl, rfl, (show zt.heap.size = s.heap.size by rw [ht])⟩, hS.F ht⟩) hS.2.2 dX16_check_15

set_option maxHeartbeats 4000000 in
set_option maxRecDepth 100000 in
theorem c_X16_check_in (l : Launch) (dC : Nat → ClassId) (dI : Nat → Nat → Nat) (aC : Nat → ClassId) (h0 d a : Nat) (x y : Int32) (sz : Nat) (hxm : zok x = true) (ha : a = d + (7485 + 9 * x.toNatClampNeg)) : Met l yX16_check w_X16_check ({ frames := 2, cells := 0, slots := 0, locals := 44 }) (zPre (dC, dI) aC [(h0, .inr (15, [.ref (d + 0), .int 0, .ref (d + 1), .int 0, .ref (d + 2), .ref (d + 3), .ref (d + 68), .ref (d + 77), .ref (d + 78), .int 0, .int 0, .ref (d + 79), .int 0, .int 0, .int 0, .ref (d + 80), .int 0, .int 0, .int 0, .int 0, .ref (d + 81), .ref (d + 82), .int (-1), .ref (d + 91), .int 0, .int 0, .ref (d + 92), .int 0, .ref (d + 93), .int 0, .ref (d + 94), .int 0, .ref (d + 95), .ref (d + 96), .ref (d + 97), .ref (d + 98), .int 0, .int 0, .ref (d + 99), .null, .null, .null, .null, .null, .ref (d + 148), .ref (d + 175), .ref (d + 176), .ref (d + 177), .int 0, .ref (d + 178), .ref (d + 179), .ref (d + 180), .ref (d + 185), .ref (d + 190), .ref (d + 191), .ref (d + 192), .ref (d + 193), .ref (d + 201), .ref (d + 209), .ref (d + 210), .ref (d + 211), .ref (d + 272), .ref (d + 273), .int 0, .ref (d + 274)])), (d + 81, .inl (aC 6, 12, .inr (.inr (.inr (.inr (zrefs (fun i => d + (7485 + 9 * i)) 12)))))), (a, .inr (13, [.int 0, .ref (a + 1 + 0), .ref (a + 1 + 1), .int 0, .int 0, .int 0, .ref (a + 1 + 2), .ref (a + 1 + 3), .ref (a + 1 + 4), .ref (a + 1 + 5), .int 0, .ref (a + 1 + 6), .int 0, .int 0, .ref (a + 1 + 7)]))] sz [.ref h0, .int x, .int y]) (va_Qi (fun (r : Int32) (_ : Unit) => r = zface1 y (-3) (-1)) (fun _ zt => zt.heap.size = sz) (zN sz)) 0 0 (zN sz) := by
  refine Met.ofW (cc := cX16_check) (maxL := 13) (ret := (some .int)) (by decide) rfl ?_
  intro p e s m args below meth c s₁ B hml hv
  generalize hQ : MQ below _ _ s _ _ _ = QQ
  obtain ⟨rfl, hsz, hP, hK, hD0⟩ := hv
  have hx := B.exec
  have hb := B.bytes
  have hr := B.returns
  have hts := atoms_spec (ws := w_X16_check) B.pre
  have hall := fun (w : Cond) (h : w ∈ zAll) => hts w (List.mem_cons_of_mem _ h)
  have hown : s.vm.findClass RX16 = some m.cls := findClass_of_methodNamed B.named
  have hlocks := B.notSynchronized
  subst hsz
  have hA : ∀ q : Nat, s.heap.size ≤ q → zN s.heap.size q := fun q h => h
  have hS : va_S (zN s.heap.size) s.heap s.heap [] := va_S.rf
  have hD := hD0
  have hl := lv_entry ([.ref h0, .int x, .int y]) (n := 13) (Nat.le_of_ble_eq_true rfl)
  rw [lg_entry_eq]
  generalize (lg_sl ([.ref h0, .int x, .int y]) ++ List.replicate (13 - (lg_sl ([.ref h0, .int x, .int y])).length) Slot.unset).toArray = ls at hl ⊢
  have hl : lv_has ls 13 [(0, .ref h0), (1, .int x), (2, .int y)] := hl
  refine lv_iload_n hx hb dX16_check_0 rfl (lv_at hl 1 rfl) ?_
  refine zro_i hS hA (va_runS (As := [.int x]) (rest := []) ⟨hx, hb, hml, hown, hall⟩ (c_X16_isSlot l dC dI aC x s.heap.size) (va_cwS 1 hall (zgS zw_434 zw_436 zw_812 g_X16_isSlot) rfl rfl rfl (by decide +kernel) ⟨Nat.le_of_ble_eq_true rfl, Nat.le_of_ble_eq_true rfl⟩) (zPre_S (As := [.int x]) hK hP hD [] rfl (by decide +kernel)) rfl rfl hl.1 rfl (lv_room (Nat.le_of_ble_eq_true rfl)) dX16_check_1 ⟨Nat.le_of_ble_eq_true rfl, Nat.le_of_ble_eq_true rfl⟩) (fun r60187 L60188 hw hS' => ?_)
  clear hS
  have hS := hS'
  clear hS'
  obtain rfl : r60187 = 1 := hw.trans (zisl_1 hxm)
  try clear hw
  refine lv_if_eq (tgt := 14) hx hb dX16_check_4 (by decide) (fun c_4_b60189 => absurd c_4_b60189 (by decide)) (fun _ => ?_)
  refine lv_iload_n hx hb dX16_check_7 rfl (lv_at hl 2 rfl) ?_
  refine zro_i hS hA (va_runS (As := [.int y]) (rest := []) ⟨hx, hb, hml, hown, hall⟩ (c_X16_isSlot l dC dI aC y s.heap.size) (va_cwS 1 hall (zgS zw_434 zw_436 zw_812 g_X16_isSlot) rfl rfl rfl (by decide +kernel) ⟨Nat.le_of_ble_eq_true rfl, Nat.le_of_ble_eq_true rfl⟩) (zPre_S (As := [.int y]) hK hP hD [] rfl (by decide +kernel)) rfl rfl hl.1 rfl (lv_room (Nat.le_of_ble_eq_true rfl)) dX16_check_8 ⟨Nat.le_of_ble_eq_true rfl, Nat.le_of_ble_eq_true rfl⟩) (fun r60190 L60191 hw hS' => ?_)
  clear hS
  have hS := hS'
  clear hS'
  by_cases z60192 : zok y = true
  · obtain rfl : r60190 = 1 := hw.trans (zisl_1 z60192)
    try clear hw
    show W p l e _ s m _ below meth c _ _ _ _ QQ (F0 m 11 ls [.int 1])
    refine lv_if_ne (tgt := 16) hx hb dX16_check_11 (by decide) (fun _ => ?_) (fun c_11_b60193 => absurd c_11_b60193 (by decide))
    refine lv_aload_n hx hb dX16_check_16 rfl (lv_at hl 0 rfl) ?_
    refine va_get (D := (dC, dI)) (ci := 15) (v := .ref (d + 81)) (C := RX16) (T := TX16) (N := 65) hx hb hall zx_16 hown hK.1 hP 0 rfl rfl 20 (by decide) (hall _ zw_336) (fun _ h9 => h9) rfl dX16_check_17 ?_
    refine lv_iload_n hx hb dX16_check_20 rfl (lv_at hl 1 rfl) ?_
    refine zaldr hx hb hK.1 hP 1 6 rfl rfl (zok_in hxm) (zrefs_in (zok_in hxm)) dX16_check_21 ?_
    rw [← ha]
    show W p l e _ s m _ below meth c _ _ _ _ QQ (F0 m 22 ls [.ref a])
    refine lv_astore_n (lv' := [(3, .ref a), (0, .ref h0), (1, .int x), (2, .int y)]) hx hb dX16_check_22 rfl hl (by decide) rfl (fun ls60194 hl' => ?_)
    clear hl
    have hl : lv_has ls60194 13 [(3, .ref a), (0, .ref h0), (1, .int x), (2, .int y)] := hl'
    clear hl'
    refine lv_aload_n hx hb dX16_check_23 rfl (lv_at hl 1 rfl) ?_
    refine va_get (D := (dC, dI)) (ci := 15) (v := .ref (d + 81)) (C := RX16) (T := TX16) (N := 65) hx hb hall zx_16 hown hK.1 hP 0 rfl rfl 20 (by decide) (hall _ zw_336) (fun _ h9 => h9) rfl dX16_check_24 ?_
    refine lv_iload_n hx hb dX16_check_27 rfl (lv_at hl 3 rfl) ?_
    refine zaldr hx hb hK.1 hP 1 6 rfl rfl (zok_in z60192) (zrefs_in (zok_in z60192)) dX16_check_28 ?_
    show W p l e _ s m _ below meth c _ _ _ _ QQ (F0 m 29 ls60194 [.ref (d + (7485 + 9 * y.toNatClampNeg))])
    refine lv_astore (lv' := [(4, .ref (d + (7485 + 9 * y.toNatClampNeg))), (3, .ref a), (0, .ref h0), (1, .int x), (2, .int y)]) hx hb dX16_check_29 hl (by decide) rfl (fun ls60195 hl' => ?_)
    clear hl
    have hl : lv_has ls60195 13 [(4, .ref (d + (7485 + 9 * y.toNatClampNeg))), (3, .ref a), (0, .ref h0), (1, .int x), (2, .int y)] := hl'
    clear hl'
    refine lv_aload_n hx hb dX16_check_31 rfl (lv_at hl 1 rfl) ?_
    refine va_get (D := (dC, dI)) (ci := 13) (v := .int 0) (C := RX14) (T := TX14) (N := 15) hx hb hall zx_14 hown hK.1 hP 2 rfl rfl 0 (by decide) (hall _ zw_402) (fun _ h9 => h9) rfl dX16_check_32 ?_
    refine lv_iconst (v := 3) hx hb dX16_check_35 (by decide) ?_
    refine lv_icmp_ne (tgt := 57) hx hb dX16_check_36 (by decide) (fun _ => ?_) (fun c_36_b60196 => absurd c_36_b60196 (by decide))
    show W p l e _ s m _ below meth c _ _ _ _ QQ (F0 m 57 ls60195 [])
    refine lv_bipush (v := (-3)) hx hb dX16_check_57 (by decide) ?_
    rw [← hQ]
    exact W.iret (v := (-3)) hx hb hr (fun zt ht hW => ⟨⟨(-3), (), rfl, by simp [zface1, z60192], (show zt.heap.size = s.heap.size by rw [ht])⟩, hS.F ht⟩) hS.2.2 dX16_check_59
  · obtain rfl : r60190 = 0 := hw.trans (zisl_0 z60192)
    try clear hw
    show W p l e _ s m _ below meth c _ _ _ _ QQ (F0 m 11 ls [.int 0])
    refine lv_if_ne (tgt := 16) hx hb dX16_check_11 (by decide) (fun c_11_b60197 => absurd (by decide) c_11_b60197) (fun _ => ?_)
    refine lv_iconst (v := (-1)) hx hb dX16_check_14 (by decide) ?_
    rw [← hQ]
    exact W.iret (v := (-1)) hx hb hr (fun zt ht hW => ⟨⟨(-1), (), rfl, by simp [zface1, z60192], (show zt.heap.size = s.heap.size by rw [ht])⟩, hS.F ht⟩) hS.2.2 dX16_check_15

set_option maxHeartbeats 4000000 in
set_option maxRecDepth 100000 in
theorem c_X16_poke_out (l : Launch) (dC : Nat → ClassId) (dI : Nat → Nat → Nat) (aC : Nat → ClassId) (h0 d : Nat) (x y z v u : Int32) (sz : Nat) (hxm : ¬ zok x = true) : Met l yX16_poke w_X16_poke ({ frames := 2, cells := 0, slots := 0, locals := 44 }) (zPre (dC, dI) aC [(h0, .inr (15, [.ref (d + 0), .int 0, .ref (d + 1), .int 0, .ref (d + 2), .ref (d + 3), .ref (d + 68), .ref (d + 77), .ref (d + 78), .int 0, .int 0, .ref (d + 79), .int 0, .int 0, .int 0, .ref (d + 80), .int 0, .int 0, .int 0, .int 0, .ref (d + 81), .ref (d + 82), .int (-1), .ref (d + 91), .int 0, .int 0, .ref (d + 92), .int 0, .ref (d + 93), .int 0, .ref (d + 94), .int 0, .ref (d + 95), .ref (d + 96), .ref (d + 97), .ref (d + 98), .int 0, .int 0, .ref (d + 99), .null, .null, .null, .null, .null, .ref (d + 148), .ref (d + 175), .ref (d + 176), .ref (d + 177), .int 0, .ref (d + 178), .ref (d + 179), .ref (d + 180), .ref (d + 185), .ref (d + 190), .ref (d + 191), .ref (d + 192), .ref (d + 193), .ref (d + 201), .ref (d + 209), .ref (d + 210), .ref (d + 211), .ref (d + 272), .ref (d + 273), .int 0, .ref (d + 274)])), (d + 81, .inl (aC 6, 12, .inr (.inr (.inr (.inr (zrefs (fun i => d + (7485 + 9 * i)) 12))))))] sz [.ref h0, .int x, .int y, .int z, .int v, .int u]) (va_Qi (fun (r : Int32) (_ : Unit) => r = -1) (fun _ zt => zt.heap.size = sz) (zN sz)) 0 0 (zN sz) := by
  refine Met.ofW (cc := cX16_poke) (maxL := 13) (ret := (some .int)) (by decide) rfl ?_
  intro p e s m args below meth c s₁ B hml hv
  generalize hQ : MQ below _ _ s _ _ _ = QQ
  obtain ⟨rfl, hsz, hP, hK, hD0⟩ := hv
  have hx := B.exec
  have hb := B.bytes
  have hr := B.returns
  have hts := atoms_spec (ws := w_X16_poke) B.pre
  have hall := fun (w : Cond) (h : w ∈ zAll) => hts w (List.mem_cons_of_mem _ h)
  have hown : s.vm.findClass RX16 = some m.cls := findClass_of_methodNamed B.named
  have hlocks := B.notSynchronized
  subst hsz
  have hA : ∀ q : Nat, s.heap.size ≤ q → zN s.heap.size q := fun q h => h
  have hS : va_S (zN s.heap.size) s.heap s.heap [] := va_S.rf
  have hD := hD0
  have hl := lv_entry ([.ref h0, .int x, .int y, .int z, .int v, .int u]) (n := 13) (Nat.le_of_ble_eq_true rfl)
  rw [lg_entry_eq]
  generalize (lg_sl ([.ref h0, .int x, .int y, .int z, .int v, .int u]) ++ List.replicate (13 - (lg_sl ([.ref h0, .int x, .int y, .int z, .int v, .int u])).length) Slot.unset).toArray = ls at hl ⊢
  have hl : lv_has ls 13 [(0, .ref h0), (1, .int x), (2, .int y), (3, .int z), (4, .int v), (5, .int u)] := hl
  refine lv_iload_n hx hb dX16_poke_0 rfl (lv_at hl 1 rfl) ?_
  refine zro_i hS hA (va_runS (As := [.int x]) (rest := []) ⟨hx, hb, hml, hown, hall⟩ (c_X16_isSlot l dC dI aC x s.heap.size) (va_cwS 1 hall (zgS zw_434 zw_436 zw_812 g_X16_isSlot) rfl rfl rfl (by decide +kernel) ⟨Nat.le_of_ble_eq_true rfl, Nat.le_of_ble_eq_true rfl⟩) (zPre_S (As := [.int x]) hK hP hD [] rfl (by decide +kernel)) rfl rfl hl.1 rfl (lv_room (Nat.le_of_ble_eq_true rfl)) dX16_poke_1 ⟨Nat.le_of_ble_eq_true rfl, Nat.le_of_ble_eq_true rfl⟩) (fun r60198 L60199 hw hS' => ?_)
  clear hS
  have hS := hS'
  clear hS'
  obtain rfl : r60198 = 0 := hw.trans (zisl_0 hxm)
  try clear hw
  refine lv_if_ne (tgt := 9) hx hb dX16_poke_4 (by decide) (fun c_4_b60200 => absurd (by decide) c_4_b60200) (fun _ => ?_)
  refine lv_iconst (v := (-1)) hx hb dX16_poke_7 (by decide) ?_
  rw [← hQ]
  exact W.iret (v := (-1)) hx hb hr (fun zt ht hW => ⟨⟨(-1), (), rfl, rfl, (show zt.heap.size = s.heap.size by rw [ht])⟩, hS.F ht⟩) hS.2.2 dX16_poke_8

set_option maxHeartbeats 4000000 in
set_option maxRecDepth 100000 in
theorem c_X16_poke_in (l : Launch) (dC : Nat → ClassId) (dI : Nat → Nat → Nat) (aC : Nat → ClassId) (h0 d a : Nat) (x y z v u : Int32) (sz : Nat) (hxm : zok x = true) (ha : a = d + (7485 + 9 * x.toNatClampNeg)) : Met l yX16_poke w_X16_poke ({ frames := 2, cells := 0, slots := 0, locals := 44 }) (zPre (dC, dI) aC [(h0, .inr (15, [.ref (d + 0), .int 0, .ref (d + 1), .int 0, .ref (d + 2), .ref (d + 3), .ref (d + 68), .ref (d + 77), .ref (d + 78), .int 0, .int 0, .ref (d + 79), .int 0, .int 0, .int 0, .ref (d + 80), .int 0, .int 0, .int 0, .int 0, .ref (d + 81), .ref (d + 82), .int (-1), .ref (d + 91), .int 0, .int 0, .ref (d + 92), .int 0, .ref (d + 93), .int 0, .ref (d + 94), .int 0, .ref (d + 95), .ref (d + 96), .ref (d + 97), .ref (d + 98), .int 0, .int 0, .ref (d + 99), .null, .null, .null, .null, .null, .ref (d + 148), .ref (d + 175), .ref (d + 176), .ref (d + 177), .int 0, .ref (d + 178), .ref (d + 179), .ref (d + 180), .ref (d + 185), .ref (d + 190), .ref (d + 191), .ref (d + 192), .ref (d + 193), .ref (d + 201), .ref (d + 209), .ref (d + 210), .ref (d + 211), .ref (d + 272), .ref (d + 273), .int 0, .ref (d + 274)])), (d + 81, .inl (aC 6, 12, .inr (.inr (.inr (.inr (zrefs (fun i => d + (7485 + 9 * i)) 12)))))), (a, .inr (13, [.int 0, .ref (a + 1 + 0), .ref (a + 1 + 1), .int 0, .int 0, .int 0, .ref (a + 1 + 2), .ref (a + 1 + 3), .ref (a + 1 + 4), .ref (a + 1 + 5), .int 0, .ref (a + 1 + 6), .int 0, .int 0, .ref (a + 1 + 7)]))] sz [.ref h0, .int x, .int y, .int z, .int v, .int u]) (va_Qi (fun (r : Int32) (_ : Unit) => r = -3) (fun _ zt => zt.heap.size = sz) (zN sz)) 0 0 (zN sz) := by
  refine Met.ofW (cc := cX16_poke) (maxL := 13) (ret := (some .int)) (by decide) rfl ?_
  intro p e s m args below meth c s₁ B hml hv
  generalize hQ : MQ below _ _ s _ _ _ = QQ
  obtain ⟨rfl, hsz, hP, hK, hD0⟩ := hv
  have hx := B.exec
  have hb := B.bytes
  have hr := B.returns
  have hts := atoms_spec (ws := w_X16_poke) B.pre
  have hall := fun (w : Cond) (h : w ∈ zAll) => hts w (List.mem_cons_of_mem _ h)
  have hown : s.vm.findClass RX16 = some m.cls := findClass_of_methodNamed B.named
  have hlocks := B.notSynchronized
  subst hsz
  have hA : ∀ q : Nat, s.heap.size ≤ q → zN s.heap.size q := fun q h => h
  have hS : va_S (zN s.heap.size) s.heap s.heap [] := va_S.rf
  have hD := hD0
  have hl := lv_entry ([.ref h0, .int x, .int y, .int z, .int v, .int u]) (n := 13) (Nat.le_of_ble_eq_true rfl)
  rw [lg_entry_eq]
  generalize (lg_sl ([.ref h0, .int x, .int y, .int z, .int v, .int u]) ++ List.replicate (13 - (lg_sl ([.ref h0, .int x, .int y, .int z, .int v, .int u])).length) Slot.unset).toArray = ls at hl ⊢
  have hl : lv_has ls 13 [(0, .ref h0), (1, .int x), (2, .int y), (3, .int z), (4, .int v), (5, .int u)] := hl
  refine lv_iload_n hx hb dX16_poke_0 rfl (lv_at hl 1 rfl) ?_
  refine zro_i hS hA (va_runS (As := [.int x]) (rest := []) ⟨hx, hb, hml, hown, hall⟩ (c_X16_isSlot l dC dI aC x s.heap.size) (va_cwS 1 hall (zgS zw_434 zw_436 zw_812 g_X16_isSlot) rfl rfl rfl (by decide +kernel) ⟨Nat.le_of_ble_eq_true rfl, Nat.le_of_ble_eq_true rfl⟩) (zPre_S (As := [.int x]) hK hP hD [] rfl (by decide +kernel)) rfl rfl hl.1 rfl (lv_room (Nat.le_of_ble_eq_true rfl)) dX16_poke_1 ⟨Nat.le_of_ble_eq_true rfl, Nat.le_of_ble_eq_true rfl⟩) (fun r60201 L60202 hw hS' => ?_)
  clear hS
  have hS := hS'
  clear hS'
  obtain rfl : r60201 = 1 := hw.trans (zisl_1 hxm)
  try clear hw
  refine lv_if_ne (tgt := 9) hx hb dX16_poke_4 (by decide) (fun _ => ?_) (fun c_4_b60203 => absurd c_4_b60203 (by decide))
  refine lv_aload_n hx hb dX16_poke_9 rfl (lv_at hl 0 rfl) ?_
  refine va_get (D := (dC, dI)) (ci := 15) (v := .ref (d + 81)) (C := RX16) (T := TX16) (N := 65) hx hb hall zx_16 hown hK.1 hP 0 rfl rfl 20 (by decide) (hall _ zw_336) (fun _ h9 => h9) rfl dX16_poke_10 ?_
  show W p l e _ s m _ below meth c _ _ _ _ QQ (F0 m 13 ls [.ref (d + 81)])
  refine lv_iload_n hx hb dX16_poke_13 rfl (lv_at hl 1 rfl) ?_
  refine zaldr hx hb hK.1 hP 1 6 rfl rfl (zok_in hxm) (zrefs_in (zok_in hxm)) dX16_poke_14 ?_
  rw [← ha]
  refine lv_astore (lv' := [(6, .ref a), (0, .ref h0), (1, .int x), (2, .int y), (3, .int z), (4, .int v), (5, .int u)]) hx hb dX16_poke_15 hl (by decide) rfl (fun ls60204 hl' => ?_)
  clear hl
  have hl : lv_has ls60204 13 [(6, .ref a), (0, .ref h0), (1, .int x), (2, .int y), (3, .int z), (4, .int v), (5, .int u)] := hl'
  clear hl'
  refine lv_aload hx hb dX16_poke_17 (lv_at hl 0 rfl) ?_
  refine va_get (D := (dC, dI)) (ci := 13) (v := .int 0) (C := RX14) (T := TX14) (N := 15) hx hb hall zx_14 hown hK.1 hP 2 rfl rfl 0 (by decide) (hall _ zw_402) (fun _ h9 => h9) rfl dX16_poke_19 ?_
  show W p l e _ s m _ below meth c _ _ _ _ QQ (F0 m 22 ls60204 [.int 0])
  refine lv_iconst (v := 3) hx hb dX16_poke_22 (by decide) ?_
  refine lv_icmp_eq (tgt := 29) hx hb dX16_poke_23 (by decide) (fun c_23_b60205 => absurd c_23_b60205 (by decide)) (fun _ => ?_)
  refine lv_bipush (v := (-3)) hx hb dX16_poke_26 (by decide) ?_
  rw [← hQ]
  exact W.iret (v := (-3)) hx hb hr (fun zt ht hW => ⟨⟨(-3), (), rfl, rfl, (show zt.heap.size = s.heap.size by rw [ht])⟩, hS.F ht⟩) hS.2.2 dX16_poke_28

set_option maxHeartbeats 4000000 in
set_option maxRecDepth 100000 in
theorem c_X16_holds_out (l : Launch) (dC : Nat → ClassId) (dI : Nat → Nat → Nat) (aC : Nat → ClassId) (h0 d : Nat) (x y z v u : Int32) (sz : Nat) (hxm : ¬ zok x = true) : Met l yX16_holds w_X16_holds ({ frames := 2, cells := 0, slots := 0, locals := 44 }) (zPre (dC, dI) aC [(h0, .inr (15, [.ref (d + 0), .int 0, .ref (d + 1), .int 0, .ref (d + 2), .ref (d + 3), .ref (d + 68), .ref (d + 77), .ref (d + 78), .int 0, .int 0, .ref (d + 79), .int 0, .int 0, .int 0, .ref (d + 80), .int 0, .int 0, .int 0, .int 0, .ref (d + 81), .ref (d + 82), .int (-1), .ref (d + 91), .int 0, .int 0, .ref (d + 92), .int 0, .ref (d + 93), .int 0, .ref (d + 94), .int 0, .ref (d + 95), .ref (d + 96), .ref (d + 97), .ref (d + 98), .int 0, .int 0, .ref (d + 99), .null, .null, .null, .null, .null, .ref (d + 148), .ref (d + 175), .ref (d + 176), .ref (d + 177), .int 0, .ref (d + 178), .ref (d + 179), .ref (d + 180), .ref (d + 185), .ref (d + 190), .ref (d + 191), .ref (d + 192), .ref (d + 193), .ref (d + 201), .ref (d + 209), .ref (d + 210), .ref (d + 211), .ref (d + 272), .ref (d + 273), .int 0, .ref (d + 274)])), (d + 81, .inl (aC 6, 12, .inr (.inr (.inr (.inr (zrefs (fun i => d + (7485 + 9 * i)) 12))))))] sz [.ref h0, .int x, .int y, .int z, .int v, .int u]) (va_Qi (fun (r : Int32) (_ : Unit) => r = -1) (fun _ zt => zt.heap.size = sz) (zN sz)) 0 0 (zN sz) := by
  refine Met.ofW (cc := cX16_holds) (maxL := 13) (ret := (some .int)) (by decide) rfl ?_
  intro p e s m args below meth c s₁ B hml hv
  generalize hQ : MQ below _ _ s _ _ _ = QQ
  obtain ⟨rfl, hsz, hP, hK, hD0⟩ := hv
  have hx := B.exec
  have hb := B.bytes
  have hr := B.returns
  have hts := atoms_spec (ws := w_X16_holds) B.pre
  have hall := fun (w : Cond) (h : w ∈ zAll) => hts w (List.mem_cons_of_mem _ h)
  have hown : s.vm.findClass RX16 = some m.cls := findClass_of_methodNamed B.named
  have hlocks := B.notSynchronized
  subst hsz
  have hA : ∀ q : Nat, s.heap.size ≤ q → zN s.heap.size q := fun q h => h
  have hS : va_S (zN s.heap.size) s.heap s.heap [] := va_S.rf
  have hD := hD0
  have hl := lv_entry ([.ref h0, .int x, .int y, .int z, .int v, .int u]) (n := 13) (Nat.le_of_ble_eq_true rfl)
  rw [lg_entry_eq]
  generalize (lg_sl ([.ref h0, .int x, .int y, .int z, .int v, .int u]) ++ List.replicate (13 - (lg_sl ([.ref h0, .int x, .int y, .int z, .int v, .int u])).length) Slot.unset).toArray = ls at hl ⊢
  have hl : lv_has ls 13 [(0, .ref h0), (1, .int x), (2, .int y), (3, .int z), (4, .int v), (5, .int u)] := hl
  refine lv_iload_n hx hb dX16_holds_0 rfl (lv_at hl 1 rfl) ?_
  refine zro_i hS hA (va_runS (As := [.int x]) (rest := []) ⟨hx, hb, hml, hown, hall⟩ (c_X16_isSlot l dC dI aC x s.heap.size) (va_cwS 1 hall (zgS zw_434 zw_436 zw_812 g_X16_isSlot) rfl rfl rfl (by decide +kernel) ⟨Nat.le_of_ble_eq_true rfl, Nat.le_of_ble_eq_true rfl⟩) (zPre_S (As := [.int x]) hK hP hD [] rfl (by decide +kernel)) rfl rfl hl.1 rfl (lv_room (Nat.le_of_ble_eq_true rfl)) dX16_holds_1 ⟨Nat.le_of_ble_eq_true rfl, Nat.le_of_ble_eq_true rfl⟩) (fun r60206 L60207 hw hS' => ?_)
  clear hS
  have hS := hS'
  clear hS'
  obtain rfl : r60206 = 0 := hw.trans (zisl_0 hxm)
  try clear hw
  refine lv_if_eq (tgt := 14) hx hb dX16_holds_4 (by decide) (fun _ => ?_) (fun c_4_b60208 => absurd (by decide) c_4_b60208)
  refine lv_iconst (v := (-1)) hx hb dX16_holds_14 (by decide) ?_
  rw [← hQ]
  exact W.iret (v := (-1)) hx hb hr (fun zt ht hW => ⟨⟨(-1), (), rfl, rfl, (show zt.heap.size = s.heap.size by rw [ht])⟩, hS.F ht⟩) hS.2.2 dX16_holds_15

set_option maxHeartbeats 4000000 in
set_option maxRecDepth 100000 in
theorem c_X16_holds_in (l : Launch) (dC : Nat → ClassId) (dI : Nat → Nat → Nat) (aC : Nat → ClassId) (h0 d a : Nat) (x y z v u : Int32) (sz : Nat) (hxm : zok x = true) (ha : a = d + (7485 + 9 * x.toNatClampNeg)) : Met l yX16_holds w_X16_holds ({ frames := 2, cells := 0, slots := 0, locals := 44 }) (zPre (dC, dI) aC [(h0, .inr (15, [.ref (d + 0), .int 0, .ref (d + 1), .int 0, .ref (d + 2), .ref (d + 3), .ref (d + 68), .ref (d + 77), .ref (d + 78), .int 0, .int 0, .ref (d + 79), .int 0, .int 0, .int 0, .ref (d + 80), .int 0, .int 0, .int 0, .int 0, .ref (d + 81), .ref (d + 82), .int (-1), .ref (d + 91), .int 0, .int 0, .ref (d + 92), .int 0, .ref (d + 93), .int 0, .ref (d + 94), .int 0, .ref (d + 95), .ref (d + 96), .ref (d + 97), .ref (d + 98), .int 0, .int 0, .ref (d + 99), .null, .null, .null, .null, .null, .ref (d + 148), .ref (d + 175), .ref (d + 176), .ref (d + 177), .int 0, .ref (d + 178), .ref (d + 179), .ref (d + 180), .ref (d + 185), .ref (d + 190), .ref (d + 191), .ref (d + 192), .ref (d + 193), .ref (d + 201), .ref (d + 209), .ref (d + 210), .ref (d + 211), .ref (d + 272), .ref (d + 273), .int 0, .ref (d + 274)])), (d + 81, .inl (aC 6, 12, .inr (.inr (.inr (.inr (zrefs (fun i => d + (7485 + 9 * i)) 12)))))), (a, .inr (13, [.int 0, .ref (a + 1 + 0), .ref (a + 1 + 1), .int 0, .int 0, .int 0, .ref (a + 1 + 2), .ref (a + 1 + 3), .ref (a + 1 + 4), .ref (a + 1 + 5), .int 0, .ref (a + 1 + 6), .int 0, .int 0, .ref (a + 1 + 7)]))] sz [.ref h0, .int x, .int y, .int z, .int v, .int u]) (va_Qi (fun (r : Int32) (_ : Unit) => r = zface1 y (-3) (-1)) (fun _ zt => zt.heap.size = sz) (zN sz)) 0 0 (zN sz) := by
  refine Met.ofW (cc := cX16_holds) (maxL := 13) (ret := (some .int)) (by decide) rfl ?_
  intro p e s m args below meth c s₁ B hml hv
  generalize hQ : MQ below _ _ s _ _ _ = QQ
  obtain ⟨rfl, hsz, hP, hK, hD0⟩ := hv
  have hx := B.exec
  have hb := B.bytes
  have hr := B.returns
  have hts := atoms_spec (ws := w_X16_holds) B.pre
  have hall := fun (w : Cond) (h : w ∈ zAll) => hts w (List.mem_cons_of_mem _ h)
  have hown : s.vm.findClass RX16 = some m.cls := findClass_of_methodNamed B.named
  have hlocks := B.notSynchronized
  subst hsz
  have hA : ∀ q : Nat, s.heap.size ≤ q → zN s.heap.size q := fun q h => h
  have hS : va_S (zN s.heap.size) s.heap s.heap [] := va_S.rf
  have hD := hD0
  have hl := lv_entry ([.ref h0, .int x, .int y, .int z, .int v, .int u]) (n := 13) (Nat.le_of_ble_eq_true rfl)
  rw [lg_entry_eq]
  generalize (lg_sl ([.ref h0, .int x, .int y, .int z, .int v, .int u]) ++ List.replicate (13 - (lg_sl ([.ref h0, .int x, .int y, .int z, .int v, .int u])).length) Slot.unset).toArray = ls at hl ⊢
  have hl : lv_has ls 13 [(0, .ref h0), (1, .int x), (2, .int y), (3, .int z), (4, .int v), (5, .int u)] := hl
  refine lv_iload_n hx hb dX16_holds_0 rfl (lv_at hl 1 rfl) ?_
  refine zro_i hS hA (va_runS (As := [.int x]) (rest := []) ⟨hx, hb, hml, hown, hall⟩ (c_X16_isSlot l dC dI aC x s.heap.size) (va_cwS 1 hall (zgS zw_434 zw_436 zw_812 g_X16_isSlot) rfl rfl rfl (by decide +kernel) ⟨Nat.le_of_ble_eq_true rfl, Nat.le_of_ble_eq_true rfl⟩) (zPre_S (As := [.int x]) hK hP hD [] rfl (by decide +kernel)) rfl rfl hl.1 rfl (lv_room (Nat.le_of_ble_eq_true rfl)) dX16_holds_1 ⟨Nat.le_of_ble_eq_true rfl, Nat.le_of_ble_eq_true rfl⟩) (fun r60209 L60210 hw hS' => ?_)
  clear hS
  have hS := hS'
  clear hS'
  obtain rfl : r60209 = 1 := hw.trans (zisl_1 hxm)
  try clear hw
  refine lv_if_eq (tgt := 14) hx hb dX16_holds_4 (by decide) (fun c_4_b60211 => absurd c_4_b60211 (by decide)) (fun _ => ?_)
  refine lv_iload_n hx hb dX16_holds_7 rfl (lv_at hl 2 rfl) ?_
  refine zro_i hS hA (va_runS (As := [.int y]) (rest := []) ⟨hx, hb, hml, hown, hall⟩ (c_X16_isSlot l dC dI aC y s.heap.size) (va_cwS 1 hall (zgS zw_434 zw_436 zw_812 g_X16_isSlot) rfl rfl rfl (by decide +kernel) ⟨Nat.le_of_ble_eq_true rfl, Nat.le_of_ble_eq_true rfl⟩) (zPre_S (As := [.int y]) hK hP hD [] rfl (by decide +kernel)) rfl rfl hl.1 rfl (lv_room (Nat.le_of_ble_eq_true rfl)) dX16_holds_8 ⟨Nat.le_of_ble_eq_true rfl, Nat.le_of_ble_eq_true rfl⟩) (fun r60212 L60213 hw hS' => ?_)
  clear hS
  have hS := hS'
  clear hS'
  by_cases z60214 : zok y = true
  · obtain rfl : r60212 = 1 := hw.trans (zisl_1 z60214)
    try clear hw
    show W p l e _ s m _ below meth c _ _ _ _ QQ (F0 m 11 ls [.int 1])
    refine lv_if_ne (tgt := 16) hx hb dX16_holds_11 (by decide) (fun _ => ?_) (fun c_11_b60215 => absurd c_11_b60215 (by decide))
    refine lv_aload_n hx hb dX16_holds_16 rfl (lv_at hl 0 rfl) ?_
    refine va_get (D := (dC, dI)) (ci := 15) (v := .ref (d + 81)) (C := RX16) (T := TX16) (N := 65) hx hb hall zx_16 hown hK.1 hP 0 rfl rfl 20 (by decide) (hall _ zw_336) (fun _ h9 => h9) rfl dX16_holds_17 ?_
    refine lv_iload_n hx hb dX16_holds_20 rfl (lv_at hl 1 rfl) ?_
    refine zaldr hx hb hK.1 hP 1 6 rfl rfl (zok_in hxm) (zrefs_in (zok_in hxm)) dX16_holds_21 ?_
    rw [← ha]
    show W p l e _ s m _ below meth c _ _ _ _ QQ (F0 m 22 ls [.ref a])
    refine lv_astore (lv' := [(6, .ref a), (0, .ref h0), (1, .int x), (2, .int y), (3, .int z), (4, .int v), (5, .int u)]) hx hb dX16_holds_22 hl (by decide) rfl (fun ls60216 hl' => ?_)
    clear hl
    have hl : lv_has ls60216 13 [(6, .ref a), (0, .ref h0), (1, .int x), (2, .int y), (3, .int z), (4, .int v), (5, .int u)] := hl'
    clear hl'
    refine lv_aload_n hx hb dX16_holds_24 rfl (lv_at hl 1 rfl) ?_
    refine va_get (D := (dC, dI)) (ci := 15) (v := .ref (d + 81)) (C := RX16) (T := TX16) (N := 65) hx hb hall zx_16 hown hK.1 hP 0 rfl rfl 20 (by decide) (hall _ zw_336) (fun _ h9 => h9) rfl dX16_holds_25 ?_
    refine lv_iload_n hx hb dX16_holds_28 rfl (lv_at hl 3 rfl) ?_
    refine zaldr hx hb hK.1 hP 1 6 rfl rfl (zok_in z60214) (zrefs_in (zok_in z60214)) dX16_holds_29 ?_
    show W p l e _ s m _ below meth c _ _ _ _ QQ (F0 m 30 ls60216 [.ref (d + (7485 + 9 * y.toNatClampNeg))])
    refine lv_astore (lv' := [(7, .ref (d + (7485 + 9 * y.toNatClampNeg))), (6, .ref a), (0, .ref h0), (1, .int x), (2, .int y), (3, .int z), (4, .int v), (5, .int u)]) hx hb dX16_holds_30 hl (by decide) rfl (fun ls60217 hl' => ?_)
    clear hl
    have hl : lv_has ls60217 13 [(7, .ref (d + (7485 + 9 * y.toNatClampNeg))), (6, .ref a), (0, .ref h0), (1, .int x), (2, .int y), (3, .int z), (4, .int v), (5, .int u)] := hl'
    clear hl'
    refine lv_aload hx hb dX16_holds_32 (lv_at hl 1 rfl) ?_
    refine va_get (D := (dC, dI)) (ci := 13) (v := .int 0) (C := RX14) (T := TX14) (N := 15) hx hb hall zx_14 hown hK.1 hP 2 rfl rfl 0 (by decide) (hall _ zw_402) (fun _ h9 => h9) rfl dX16_holds_34 ?_
    refine lv_iconst (v := 3) hx hb dX16_holds_37 (by decide) ?_
    refine lv_icmp_ne (tgt := 59) hx hb dX16_holds_38 (by decide) (fun _ => ?_) (fun c_38_b60218 => absurd c_38_b60218 (by decide))
    show W p l e _ s m _ below meth c _ _ _ _ QQ (F0 m 59 ls60217 [])
    refine lv_bipush (v := (-3)) hx hb dX16_holds_59 (by decide) ?_
    rw [← hQ]
    exact W.iret (v := (-3)) hx hb hr (fun zt ht hW => ⟨⟨(-3), (), rfl, by simp [zface1, z60214], (show zt.heap.size = s.heap.size by rw [ht])⟩, hS.F ht⟩) hS.2.2 dX16_holds_61
  · obtain rfl : r60212 = 0 := hw.trans (zisl_0 z60214)
    try clear hw
    show W p l e _ s m _ below meth c _ _ _ _ QQ (F0 m 11 ls [.int 0])
    refine lv_if_ne (tgt := 16) hx hb dX16_holds_11 (by decide) (fun c_11_b60219 => absurd (by decide) c_11_b60219) (fun _ => ?_)
    refine lv_iconst (v := (-1)) hx hb dX16_holds_14 (by decide) ?_
    rw [← hQ]
    exact W.iret (v := (-1)) hx hb hr (fun zt ht hW => ⟨⟨(-1), (), rfl, by simp [zface1, z60214], (show zt.heap.size = s.heap.size by rw [ht])⟩, hS.F ht⟩) hS.2.2 dX16_holds_15

set_option maxHeartbeats 4000000 in
set_option maxRecDepth 100000 in
theorem c_X16_row_out (l : Launch) (dC : Nat → ClassId) (dI : Nat → Nat → Nat) (aC : Nat → ClassId) (h0 d : Nat) (x y : Int32) (sz : Nat) (hxm : ¬ zok x = true) : Met l yX16_row w_X16_row ({ frames := 2, cells := 0, slots := 0, locals := 44 }) (zPre (dC, dI) aC [(h0, .inr (15, [.ref (d + 0), .int 0, .ref (d + 1), .int 0, .ref (d + 2), .ref (d + 3), .ref (d + 68), .ref (d + 77), .ref (d + 78), .int 0, .int 0, .ref (d + 79), .int 0, .int 0, .int 0, .ref (d + 80), .int 0, .int 0, .int 0, .int 0, .ref (d + 81), .ref (d + 82), .int (-1), .ref (d + 91), .int 0, .int 0, .ref (d + 92), .int 0, .ref (d + 93), .int 0, .ref (d + 94), .int 0, .ref (d + 95), .ref (d + 96), .ref (d + 97), .ref (d + 98), .int 0, .int 0, .ref (d + 99), .null, .null, .null, .null, .null, .ref (d + 148), .ref (d + 175), .ref (d + 176), .ref (d + 177), .int 0, .ref (d + 178), .ref (d + 179), .ref (d + 180), .ref (d + 185), .ref (d + 190), .ref (d + 191), .ref (d + 192), .ref (d + 193), .ref (d + 201), .ref (d + 209), .ref (d + 210), .ref (d + 211), .ref (d + 272), .ref (d + 273), .int 0, .ref (d + 274)])), (d + 81, .inl (aC 6, 12, .inr (.inr (.inr (.inr (zrefs (fun i => d + (7485 + 9 * i)) 12))))))] sz [.ref h0, .int x, .int y]) (va_Qi (fun (r : Int32) (_ : Unit) => r = -1) (fun _ zt => zt.heap.size = sz) (zN sz)) 0 0 (zN sz) := by
  refine Met.ofW (cc := cX16_row) (maxL := 5) (ret := (some .int)) (by decide) rfl ?_
  intro p e s m args below meth c s₁ B hml hv
  generalize hQ : MQ below _ _ s _ _ _ = QQ
  obtain ⟨rfl, hsz, hP, hK, hD0⟩ := hv
  have hx := B.exec
  have hb := B.bytes
  have hr := B.returns
  have hts := atoms_spec (ws := w_X16_row) B.pre
  have hall := fun (w : Cond) (h : w ∈ zAll) => hts w (List.mem_cons_of_mem _ h)
  have hown : s.vm.findClass RX16 = some m.cls := findClass_of_methodNamed B.named
  have hlocks := B.notSynchronized
  subst hsz
  have hA : ∀ q : Nat, s.heap.size ≤ q → zN s.heap.size q := fun q h => h
  have hS : va_S (zN s.heap.size) s.heap s.heap [] := va_S.rf
  have hD := hD0
  have hl := lv_entry ([.ref h0, .int x, .int y]) (n := 5) (Nat.le_of_ble_eq_true rfl)
  rw [lg_entry_eq]
  generalize (lg_sl ([.ref h0, .int x, .int y]) ++ List.replicate (5 - (lg_sl ([.ref h0, .int x, .int y])).length) Slot.unset).toArray = ls at hl ⊢
  have hl : lv_has ls 5 [(0, .ref h0), (1, .int x), (2, .int y)] := hl
  refine lv_iload_n hx hb dX16_row_0 rfl (lv_at hl 1 rfl) ?_
  refine zro_i hS hA (va_runS (As := [.int x]) (rest := []) ⟨hx, hb, hml, hown, hall⟩ (c_X16_isSlot l dC dI aC x s.heap.size) (va_cwS 1 hall (zgS zw_434 zw_436 zw_812 g_X16_isSlot) rfl rfl rfl (by decide +kernel) ⟨Nat.le_of_ble_eq_true rfl, Nat.le_of_ble_eq_true rfl⟩) (zPre_S (As := [.int x]) hK hP hD [] rfl (by decide +kernel)) rfl rfl hl.1 rfl (lv_room (Nat.le_of_ble_eq_true rfl)) dX16_row_1 ⟨Nat.le_of_ble_eq_true rfl, Nat.le_of_ble_eq_true rfl⟩) (fun r60220 L60221 hw hS' => ?_)
  clear hS
  have hS := hS'
  clear hS'
  obtain rfl : r60220 = 0 := hw.trans (zisl_0 hxm)
  try clear hw
  refine lv_if_eq (tgt := 14) hx hb dX16_row_4 (by decide) (fun _ => ?_) (fun c_4_b60222 => absurd (by decide) c_4_b60222)
  refine lv_iconst (v := (-1)) hx hb dX16_row_14 (by decide) ?_
  rw [← hQ]
  exact W.iret (v := (-1)) hx hb hr (fun zt ht hW => ⟨⟨(-1), (), rfl, rfl, (show zt.heap.size = s.heap.size by rw [ht])⟩, hS.F ht⟩) hS.2.2 dX16_row_15

set_option maxHeartbeats 4000000 in
set_option maxRecDepth 100000 in
theorem c_X16_row_in (l : Launch) (dC : Nat → ClassId) (dI : Nat → Nat → Nat) (aC : Nat → ClassId) (h0 d a : Nat) (x y : Int32) (sz : Nat) (hxm : zok x = true) (ha : a = d + (7485 + 9 * x.toNatClampNeg)) : Met l yX16_row w_X16_row ({ frames := 2, cells := 0, slots := 0, locals := 44 }) (zPre (dC, dI) aC [(h0, .inr (15, [.ref (d + 0), .int 0, .ref (d + 1), .int 0, .ref (d + 2), .ref (d + 3), .ref (d + 68), .ref (d + 77), .ref (d + 78), .int 0, .int 0, .ref (d + 79), .int 0, .int 0, .int 0, .ref (d + 80), .int 0, .int 0, .int 0, .int 0, .ref (d + 81), .ref (d + 82), .int (-1), .ref (d + 91), .int 0, .int 0, .ref (d + 92), .int 0, .ref (d + 93), .int 0, .ref (d + 94), .int 0, .ref (d + 95), .ref (d + 96), .ref (d + 97), .ref (d + 98), .int 0, .int 0, .ref (d + 99), .null, .null, .null, .null, .null, .ref (d + 148), .ref (d + 175), .ref (d + 176), .ref (d + 177), .int 0, .ref (d + 178), .ref (d + 179), .ref (d + 180), .ref (d + 185), .ref (d + 190), .ref (d + 191), .ref (d + 192), .ref (d + 193), .ref (d + 201), .ref (d + 209), .ref (d + 210), .ref (d + 211), .ref (d + 272), .ref (d + 273), .int 0, .ref (d + 274)])), (d + 81, .inl (aC 6, 12, .inr (.inr (.inr (.inr (zrefs (fun i => d + (7485 + 9 * i)) 12)))))), (a, .inr (13, [.int 0, .ref (a + 1 + 0), .ref (a + 1 + 1), .int 0, .int 0, .int 0, .ref (a + 1 + 2), .ref (a + 1 + 3), .ref (a + 1 + 4), .ref (a + 1 + 5), .int 0, .ref (a + 1 + 6), .int 0, .int 0, .ref (a + 1 + 7)]))] sz [.ref h0, .int x, .int y]) (va_Qi (fun (r : Int32) (_ : Unit) => r = zface1 y (-3) (-1)) (fun _ zt => zt.heap.size = sz) (zN sz)) 0 0 (zN sz) := by
  refine Met.ofW (cc := cX16_row) (maxL := 5) (ret := (some .int)) (by decide) rfl ?_
  intro p e s m args below meth c s₁ B hml hv
  generalize hQ : MQ below _ _ s _ _ _ = QQ
  obtain ⟨rfl, hsz, hP, hK, hD0⟩ := hv
  have hx := B.exec
  have hb := B.bytes
  have hr := B.returns
  have hts := atoms_spec (ws := w_X16_row) B.pre
  have hall := fun (w : Cond) (h : w ∈ zAll) => hts w (List.mem_cons_of_mem _ h)
  have hown : s.vm.findClass RX16 = some m.cls := findClass_of_methodNamed B.named
  have hlocks := B.notSynchronized
  subst hsz
  have hA : ∀ q : Nat, s.heap.size ≤ q → zN s.heap.size q := fun q h => h
  have hS : va_S (zN s.heap.size) s.heap s.heap [] := va_S.rf
  have hD := hD0
  have hl := lv_entry ([.ref h0, .int x, .int y]) (n := 5) (Nat.le_of_ble_eq_true rfl)
  rw [lg_entry_eq]
  generalize (lg_sl ([.ref h0, .int x, .int y]) ++ List.replicate (5 - (lg_sl ([.ref h0, .int x, .int y])).length) Slot.unset).toArray = ls at hl ⊢
  have hl : lv_has ls 5 [(0, .ref h0), (1, .int x), (2, .int y)] := hl
  refine lv_iload_n hx hb dX16_row_0 rfl (lv_at hl 1 rfl) ?_
  refine zro_i hS hA (va_runS (As := [.int x]) (rest := []) ⟨hx, hb, hml, hown, hall⟩ (c_X16_isSlot l dC dI aC x s.heap.size) (va_cwS 1 hall (zgS zw_434 zw_436 zw_812 g_X16_isSlot) rfl rfl rfl (by decide +kernel) ⟨Nat.le_of_ble_eq_true rfl, Nat.le_of_ble_eq_true rfl⟩) (zPre_S (As := [.int x]) hK hP hD [] rfl (by decide +kernel)) rfl rfl hl.1 rfl (lv_room (Nat.le_of_ble_eq_true rfl)) dX16_row_1 ⟨Nat.le_of_ble_eq_true rfl, Nat.le_of_ble_eq_true rfl⟩) (fun r60223 L60224 hw hS' => ?_)
  clear hS
  have hS := hS'
  clear hS'
  obtain rfl : r60223 = 1 := hw.trans (zisl_1 hxm)
  try clear hw
  refine lv_if_eq (tgt := 14) hx hb dX16_row_4 (by decide) (fun c_4_b60225 => absurd c_4_b60225 (by decide)) (fun _ => ?_)
  refine lv_iload_n hx hb dX16_row_7 rfl (lv_at hl 2 rfl) ?_
  refine zro_i hS hA (va_runS (As := [.int y]) (rest := []) ⟨hx, hb, hml, hown, hall⟩ (c_X16_isSlot l dC dI aC y s.heap.size) (va_cwS 1 hall (zgS zw_434 zw_436 zw_812 g_X16_isSlot) rfl rfl rfl (by decide +kernel) ⟨Nat.le_of_ble_eq_true rfl, Nat.le_of_ble_eq_true rfl⟩) (zPre_S (As := [.int y]) hK hP hD [] rfl (by decide +kernel)) rfl rfl hl.1 rfl (lv_room (Nat.le_of_ble_eq_true rfl)) dX16_row_8 ⟨Nat.le_of_ble_eq_true rfl, Nat.le_of_ble_eq_true rfl⟩) (fun r60226 L60227 hw hS' => ?_)
  clear hS
  have hS := hS'
  clear hS'
  by_cases z60228 : zok y = true
  · obtain rfl : r60226 = 1 := hw.trans (zisl_1 z60228)
    try clear hw
    show W p l e _ s m _ below meth c _ _ _ _ QQ (F0 m 11 ls [.int 1])
    refine lv_if_ne (tgt := 16) hx hb dX16_row_11 (by decide) (fun _ => ?_) (fun c_11_b60229 => absurd c_11_b60229 (by decide))
    refine lv_aload_n hx hb dX16_row_16 rfl (lv_at hl 0 rfl) ?_
    refine va_get (D := (dC, dI)) (ci := 15) (v := .ref (d + 81)) (C := RX16) (T := TX16) (N := 65) hx hb hall zx_16 hown hK.1 hP 0 rfl rfl 20 (by decide) (hall _ zw_336) (fun _ h9 => h9) rfl dX16_row_17 ?_
    refine lv_iload_n hx hb dX16_row_20 rfl (lv_at hl 1 rfl) ?_
    refine zaldr hx hb hK.1 hP 1 6 rfl rfl (zok_in hxm) (zrefs_in (zok_in hxm)) dX16_row_21 ?_
    rw [← ha]
    show W p l e _ s m _ below meth c _ _ _ _ QQ (F0 m 22 ls [.ref a])
    refine lv_astore_n (lv' := [(3, .ref a), (0, .ref h0), (1, .int x), (2, .int y)]) hx hb dX16_row_22 rfl hl (by decide) rfl (fun ls60230 hl' => ?_)
    clear hl
    have hl : lv_has ls60230 5 [(3, .ref a), (0, .ref h0), (1, .int x), (2, .int y)] := hl'
    clear hl'
    refine lv_aload_n hx hb dX16_row_23 rfl (lv_at hl 0 rfl) ?_
    refine va_get (D := (dC, dI)) (ci := 13) (v := .int 0) (C := RX14) (T := TX14) (N := 15) hx hb hall zx_14 hown hK.1 hP 2 rfl rfl 0 (by decide) (hall _ zw_402) (fun _ h9 => h9) rfl dX16_row_24 ?_
    refine lv_iconst (v := 3) hx hb dX16_row_27 (by decide) ?_
    refine lv_icmp_eq (tgt := 34) hx hb dX16_row_28 (by decide) (fun c_28_b60231 => absurd c_28_b60231 (by decide)) (fun _ => ?_)
    show W p l e _ s m _ below meth c _ _ _ _ QQ (F0 m 31 ls60230 [])
    refine lv_bipush (v := (-3)) hx hb dX16_row_31 (by decide) ?_
    rw [← hQ]
    exact W.iret (v := (-3)) hx hb hr (fun zt ht hW => ⟨⟨(-3), (), rfl, by simp [zface1, z60228], (show zt.heap.size = s.heap.size by rw [ht])⟩, hS.F ht⟩) hS.2.2 dX16_row_33
  · obtain rfl : r60226 = 0 := hw.trans (zisl_0 z60228)
    try clear hw
    show W p l e _ s m _ below meth c _ _ _ _ QQ (F0 m 11 ls [.int 0])
    refine lv_if_ne (tgt := 16) hx hb dX16_row_11 (by decide) (fun c_11_b60232 => absurd (by decide) c_11_b60232) (fun _ => ?_)
    refine lv_iconst (v := (-1)) hx hb dX16_row_14 (by decide) ?_
    rw [← hQ]
    exact W.iret (v := (-1)) hx hb hr (fun zt ht hW => ⟨⟨(-1), (), rfl, by simp [zface1, z60228], (show zt.heap.size = s.heap.size by rw [ht])⟩, hS.F ht⟩) hS.2.2 dX16_row_15

set_option maxHeartbeats 4000000 in
set_option maxRecDepth 100000 in
theorem c_X16_first_out (l : Launch) (dC : Nat → ClassId) (dI : Nat → Nat → Nat) (aC : Nat → ClassId) (h0 d : Nat) (x y : Int32) (sz : Nat) (hxm : ¬ zok x = true) : Met l yX16_first w_X16_first ({ frames := 2, cells := 0, slots := 0, locals := 44 }) (zPre (dC, dI) aC [(h0, .inr (15, [.ref (d + 0), .int 0, .ref (d + 1), .int 0, .ref (d + 2), .ref (d + 3), .ref (d + 68), .ref (d + 77), .ref (d + 78), .int 0, .int 0, .ref (d + 79), .int 0, .int 0, .int 0, .ref (d + 80), .int 0, .int 0, .int 0, .int 0, .ref (d + 81), .ref (d + 82), .int (-1), .ref (d + 91), .int 0, .int 0, .ref (d + 92), .int 0, .ref (d + 93), .int 0, .ref (d + 94), .int 0, .ref (d + 95), .ref (d + 96), .ref (d + 97), .ref (d + 98), .int 0, .int 0, .ref (d + 99), .null, .null, .null, .null, .null, .ref (d + 148), .ref (d + 175), .ref (d + 176), .ref (d + 177), .int 0, .ref (d + 178), .ref (d + 179), .ref (d + 180), .ref (d + 185), .ref (d + 190), .ref (d + 191), .ref (d + 192), .ref (d + 193), .ref (d + 201), .ref (d + 209), .ref (d + 210), .ref (d + 211), .ref (d + 272), .ref (d + 273), .int 0, .ref (d + 274)])), (d + 81, .inl (aC 6, 12, .inr (.inr (.inr (.inr (zrefs (fun i => d + (7485 + 9 * i)) 12))))))] sz [.ref h0, .int x, .int y]) (va_Qi (fun (r : Int32) (_ : Unit) => r = -1) (fun _ zt => zt.heap.size = sz) (zN sz)) 0 0 (zN sz) := by
  refine Met.ofW (cc := cX16_first) (maxL := 4) (ret := (some .int)) (by decide) rfl ?_
  intro p e s m args below meth c s₁ B hml hv
  generalize hQ : MQ below _ _ s _ _ _ = QQ
  obtain ⟨rfl, hsz, hP, hK, hD0⟩ := hv
  have hx := B.exec
  have hb := B.bytes
  have hr := B.returns
  have hts := atoms_spec (ws := w_X16_first) B.pre
  have hall := fun (w : Cond) (h : w ∈ zAll) => hts w (List.mem_cons_of_mem _ h)
  have hown : s.vm.findClass RX16 = some m.cls := findClass_of_methodNamed B.named
  have hlocks := B.notSynchronized
  subst hsz
  have hA : ∀ q : Nat, s.heap.size ≤ q → zN s.heap.size q := fun q h => h
  have hS : va_S (zN s.heap.size) s.heap s.heap [] := va_S.rf
  have hD := hD0
  have hl := lv_entry ([.ref h0, .int x, .int y]) (n := 4) (Nat.le_of_ble_eq_true rfl)
  rw [lg_entry_eq]
  generalize (lg_sl ([.ref h0, .int x, .int y]) ++ List.replicate (4 - (lg_sl ([.ref h0, .int x, .int y])).length) Slot.unset).toArray = ls at hl ⊢
  have hl : lv_has ls 4 [(0, .ref h0), (1, .int x), (2, .int y)] := hl
  refine lv_iload_n hx hb dX16_first_0 rfl (lv_at hl 1 rfl) ?_
  refine zro_i hS hA (va_runS (As := [.int x]) (rest := []) ⟨hx, hb, hml, hown, hall⟩ (c_X16_isSlot l dC dI aC x s.heap.size) (va_cwS 1 hall (zgS zw_434 zw_436 zw_812 g_X16_isSlot) rfl rfl rfl (by decide +kernel) ⟨Nat.le_of_ble_eq_true rfl, Nat.le_of_ble_eq_true rfl⟩) (zPre_S (As := [.int x]) hK hP hD [] rfl (by decide +kernel)) rfl rfl hl.1 rfl (lv_room (Nat.le_of_ble_eq_true rfl)) dX16_first_1 ⟨Nat.le_of_ble_eq_true rfl, Nat.le_of_ble_eq_true rfl⟩) (fun r60233 L60234 hw hS' => ?_)
  clear hS
  have hS := hS'
  clear hS'
  obtain rfl : r60233 = 0 := hw.trans (zisl_0 hxm)
  try clear hw
  refine lv_if_ne (tgt := 9) hx hb dX16_first_4 (by decide) (fun c_4_b60235 => absurd (by decide) c_4_b60235) (fun _ => ?_)
  refine lv_iconst (v := (-1)) hx hb dX16_first_7 (by decide) ?_
  rw [← hQ]
  exact W.iret (v := (-1)) hx hb hr (fun zt ht hW => ⟨⟨(-1), (), rfl, rfl, (show zt.heap.size = s.heap.size by rw [ht])⟩, hS.F ht⟩) hS.2.2 dX16_first_8

set_option maxHeartbeats 4000000 in
set_option maxRecDepth 100000 in
theorem c_X16_first_in (l : Launch) (dC : Nat → ClassId) (dI : Nat → Nat → Nat) (aC : Nat → ClassId) (h0 d a : Nat) (x y : Int32) (sz : Nat) (hxm : zok x = true) (ha : a = d + (7485 + 9 * x.toNatClampNeg)) : Met l yX16_first w_X16_first ({ frames := 2, cells := 0, slots := 0, locals := 44 }) (zPre (dC, dI) aC [(h0, .inr (15, [.ref (d + 0), .int 0, .ref (d + 1), .int 0, .ref (d + 2), .ref (d + 3), .ref (d + 68), .ref (d + 77), .ref (d + 78), .int 0, .int 0, .ref (d + 79), .int 0, .int 0, .int 0, .ref (d + 80), .int 0, .int 0, .int 0, .int 0, .ref (d + 81), .ref (d + 82), .int (-1), .ref (d + 91), .int 0, .int 0, .ref (d + 92), .int 0, .ref (d + 93), .int 0, .ref (d + 94), .int 0, .ref (d + 95), .ref (d + 96), .ref (d + 97), .ref (d + 98), .int 0, .int 0, .ref (d + 99), .null, .null, .null, .null, .null, .ref (d + 148), .ref (d + 175), .ref (d + 176), .ref (d + 177), .int 0, .ref (d + 178), .ref (d + 179), .ref (d + 180), .ref (d + 185), .ref (d + 190), .ref (d + 191), .ref (d + 192), .ref (d + 193), .ref (d + 201), .ref (d + 209), .ref (d + 210), .ref (d + 211), .ref (d + 272), .ref (d + 273), .int 0, .ref (d + 274)])), (d + 81, .inl (aC 6, 12, .inr (.inr (.inr (.inr (zrefs (fun i => d + (7485 + 9 * i)) 12)))))), (a, .inr (13, [.int 0, .ref (a + 1 + 0), .ref (a + 1 + 1), .int 0, .int 0, .int 0, .ref (a + 1 + 2), .ref (a + 1 + 3), .ref (a + 1 + 4), .ref (a + 1 + 5), .int 0, .ref (a + 1 + 6), .int 0, .int 0, .ref (a + 1 + 7)]))] sz [.ref h0, .int x, .int y]) (va_Qi (fun (r : Int32) (_ : Unit) => r = -3) (fun _ zt => zt.heap.size = sz) (zN sz)) 0 0 (zN sz) := by
  refine Met.ofW (cc := cX16_first) (maxL := 4) (ret := (some .int)) (by decide) rfl ?_
  intro p e s m args below meth c s₁ B hml hv
  generalize hQ : MQ below _ _ s _ _ _ = QQ
  obtain ⟨rfl, hsz, hP, hK, hD0⟩ := hv
  have hx := B.exec
  have hb := B.bytes
  have hr := B.returns
  have hts := atoms_spec (ws := w_X16_first) B.pre
  have hall := fun (w : Cond) (h : w ∈ zAll) => hts w (List.mem_cons_of_mem _ h)
  have hown : s.vm.findClass RX16 = some m.cls := findClass_of_methodNamed B.named
  have hlocks := B.notSynchronized
  subst hsz
  have hA : ∀ q : Nat, s.heap.size ≤ q → zN s.heap.size q := fun q h => h
  have hS : va_S (zN s.heap.size) s.heap s.heap [] := va_S.rf
  have hD := hD0
  have hl := lv_entry ([.ref h0, .int x, .int y]) (n := 4) (Nat.le_of_ble_eq_true rfl)
  rw [lg_entry_eq]
  generalize (lg_sl ([.ref h0, .int x, .int y]) ++ List.replicate (4 - (lg_sl ([.ref h0, .int x, .int y])).length) Slot.unset).toArray = ls at hl ⊢
  have hl : lv_has ls 4 [(0, .ref h0), (1, .int x), (2, .int y)] := hl
  refine lv_iload_n hx hb dX16_first_0 rfl (lv_at hl 1 rfl) ?_
  refine zro_i hS hA (va_runS (As := [.int x]) (rest := []) ⟨hx, hb, hml, hown, hall⟩ (c_X16_isSlot l dC dI aC x s.heap.size) (va_cwS 1 hall (zgS zw_434 zw_436 zw_812 g_X16_isSlot) rfl rfl rfl (by decide +kernel) ⟨Nat.le_of_ble_eq_true rfl, Nat.le_of_ble_eq_true rfl⟩) (zPre_S (As := [.int x]) hK hP hD [] rfl (by decide +kernel)) rfl rfl hl.1 rfl (lv_room (Nat.le_of_ble_eq_true rfl)) dX16_first_1 ⟨Nat.le_of_ble_eq_true rfl, Nat.le_of_ble_eq_true rfl⟩) (fun r60236 L60237 hw hS' => ?_)
  clear hS
  have hS := hS'
  clear hS'
  obtain rfl : r60236 = 1 := hw.trans (zisl_1 hxm)
  try clear hw
  refine lv_if_ne (tgt := 9) hx hb dX16_first_4 (by decide) (fun _ => ?_) (fun c_4_b60238 => absurd c_4_b60238 (by decide))
  refine lv_aload_n hx hb dX16_first_9 rfl (lv_at hl 0 rfl) ?_
  refine va_get (D := (dC, dI)) (ci := 15) (v := .ref (d + 81)) (C := RX16) (T := TX16) (N := 65) hx hb hall zx_16 hown hK.1 hP 0 rfl rfl 20 (by decide) (hall _ zw_336) (fun _ h9 => h9) rfl dX16_first_10 ?_
  show W p l e _ s m _ below meth c _ _ _ _ QQ (F0 m 13 ls [.ref (d + 81)])
  refine lv_iload_n hx hb dX16_first_13 rfl (lv_at hl 1 rfl) ?_
  refine zaldr hx hb hK.1 hP 1 6 rfl rfl (zok_in hxm) (zrefs_in (zok_in hxm)) dX16_first_14 ?_
  rw [← ha]
  refine lv_astore_n (lv' := [(3, .ref a), (0, .ref h0), (1, .int x), (2, .int y)]) hx hb dX16_first_15 rfl hl (by decide) rfl (fun ls60239 hl' => ?_)
  clear hl
  have hl : lv_has ls60239 4 [(3, .ref a), (0, .ref h0), (1, .int x), (2, .int y)] := hl'
  clear hl'
  refine lv_aload_n hx hb dX16_first_16 rfl (lv_at hl 0 rfl) ?_
  refine va_get (D := (dC, dI)) (ci := 13) (v := .int 0) (C := RX14) (T := TX14) (N := 15) hx hb hall zx_14 hown hK.1 hP 2 rfl rfl 0 (by decide) (hall _ zw_402) (fun _ h9 => h9) rfl dX16_first_17 ?_
  show W p l e _ s m _ below meth c _ _ _ _ QQ (F0 m 20 ls60239 [.int 0])
  refine lv_iconst (v := 4) hx hb dX16_first_20 (by decide) ?_
  refine lv_icmp_eq (tgt := 27) hx hb dX16_first_21 (by decide) (fun c_21_b60240 => absurd c_21_b60240 (by decide)) (fun _ => ?_)
  refine lv_bipush (v := (-3)) hx hb dX16_first_24 (by decide) ?_
  rw [← hQ]
  exact W.iret (v := (-3)) hx hb hr (fun zt ht hW => ⟨⟨(-3), (), rfl, rfl, (show zt.heap.size = s.heap.size by rw [ht])⟩, hS.F ht⟩) hS.2.2 dX16_first_26

set_option maxHeartbeats 4000000 in
set_option maxRecDepth 100000 in
theorem c_X16_at_out (l : Launch) (dC : Nat → ClassId) (dI : Nat → Nat → Nat) (aC : Nat → ClassId) (h0 d : Nat) (x y : Int32) (sz : Nat) (hxm : ¬ zok x = true) : Met l yX16_at w_X16_at ({ frames := 2, cells := 0, slots := 0, locals := 44 }) (zPre (dC, dI) aC [(h0, .inr (15, [.ref (d + 0), .int 0, .ref (d + 1), .int 0, .ref (d + 2), .ref (d + 3), .ref (d + 68), .ref (d + 77), .ref (d + 78), .int 0, .int 0, .ref (d + 79), .int 0, .int 0, .int 0, .ref (d + 80), .int 0, .int 0, .int 0, .int 0, .ref (d + 81), .ref (d + 82), .int (-1), .ref (d + 91), .int 0, .int 0, .ref (d + 92), .int 0, .ref (d + 93), .int 0, .ref (d + 94), .int 0, .ref (d + 95), .ref (d + 96), .ref (d + 97), .ref (d + 98), .int 0, .int 0, .ref (d + 99), .null, .null, .null, .null, .null, .ref (d + 148), .ref (d + 175), .ref (d + 176), .ref (d + 177), .int 0, .ref (d + 178), .ref (d + 179), .ref (d + 180), .ref (d + 185), .ref (d + 190), .ref (d + 191), .ref (d + 192), .ref (d + 193), .ref (d + 201), .ref (d + 209), .ref (d + 210), .ref (d + 211), .ref (d + 272), .ref (d + 273), .int 0, .ref (d + 274)])), (d + 81, .inl (aC 6, 12, .inr (.inr (.inr (.inr (zrefs (fun i => d + (7485 + 9 * i)) 12))))))] sz [.ref h0, .int x, .int y]) (va_Qi (fun (r : Int32) (_ : Unit) => r = -1) (fun _ zt => zt.heap.size = sz) (zN sz)) 0 0 (zN sz) := by
  refine Met.ofW (cc := cX16_at) (maxL := 4) (ret := (some .int)) (by decide) rfl ?_
  intro p e s m args below meth c s₁ B hml hv
  generalize hQ : MQ below _ _ s _ _ _ = QQ
  obtain ⟨rfl, hsz, hP, hK, hD0⟩ := hv
  have hx := B.exec
  have hb := B.bytes
  have hr := B.returns
  have hts := atoms_spec (ws := w_X16_at) B.pre
  have hall := fun (w : Cond) (h : w ∈ zAll) => hts w (List.mem_cons_of_mem _ h)
  have hown : s.vm.findClass RX16 = some m.cls := findClass_of_methodNamed B.named
  have hlocks := B.notSynchronized
  subst hsz
  have hA : ∀ q : Nat, s.heap.size ≤ q → zN s.heap.size q := fun q h => h
  have hS : va_S (zN s.heap.size) s.heap s.heap [] := va_S.rf
  have hD := hD0
  have hl := lv_entry ([.ref h0, .int x, .int y]) (n := 4) (Nat.le_of_ble_eq_true rfl)
  rw [lg_entry_eq]
  generalize (lg_sl ([.ref h0, .int x, .int y]) ++ List.replicate (4 - (lg_sl ([.ref h0, .int x, .int y])).length) Slot.unset).toArray = ls at hl ⊢
  have hl : lv_has ls 4 [(0, .ref h0), (1, .int x), (2, .int y)] := hl
  refine lv_iload_n hx hb dX16_at_0 rfl (lv_at hl 1 rfl) ?_
  refine zro_i hS hA (va_runS (As := [.int x]) (rest := []) ⟨hx, hb, hml, hown, hall⟩ (c_X16_isSlot l dC dI aC x s.heap.size) (va_cwS 1 hall (zgS zw_434 zw_436 zw_812 g_X16_isSlot) rfl rfl rfl (by decide +kernel) ⟨Nat.le_of_ble_eq_true rfl, Nat.le_of_ble_eq_true rfl⟩) (zPre_S (As := [.int x]) hK hP hD [] rfl (by decide +kernel)) rfl rfl hl.1 rfl (lv_room (Nat.le_of_ble_eq_true rfl)) dX16_at_1 ⟨Nat.le_of_ble_eq_true rfl, Nat.le_of_ble_eq_true rfl⟩) (fun r60241 L60242 hw hS' => ?_)
  clear hS
  have hS := hS'
  clear hS'
  obtain rfl : r60241 = 0 := hw.trans (zisl_0 hxm)
  try clear hw
  refine lv_if_ne (tgt := 9) hx hb dX16_at_4 (by decide) (fun c_4_b60243 => absurd (by decide) c_4_b60243) (fun _ => ?_)
  refine lv_iconst (v := (-1)) hx hb dX16_at_7 (by decide) ?_
  rw [← hQ]
  exact W.iret (v := (-1)) hx hb hr (fun zt ht hW => ⟨⟨(-1), (), rfl, rfl, (show zt.heap.size = s.heap.size by rw [ht])⟩, hS.F ht⟩) hS.2.2 dX16_at_8

set_option maxHeartbeats 4000000 in
set_option maxRecDepth 100000 in
theorem c_X16_at_in (l : Launch) (dC : Nat → ClassId) (dI : Nat → Nat → Nat) (aC : Nat → ClassId) (h0 d a : Nat) (x y : Int32) (sz : Nat) (hxm : zok x = true) (ha : a = d + (7485 + 9 * x.toNatClampNeg)) : Met l yX16_at w_X16_at ({ frames := 2, cells := 0, slots := 0, locals := 44 }) (zPre (dC, dI) aC [(h0, .inr (15, [.ref (d + 0), .int 0, .ref (d + 1), .int 0, .ref (d + 2), .ref (d + 3), .ref (d + 68), .ref (d + 77), .ref (d + 78), .int 0, .int 0, .ref (d + 79), .int 0, .int 0, .int 0, .ref (d + 80), .int 0, .int 0, .int 0, .int 0, .ref (d + 81), .ref (d + 82), .int (-1), .ref (d + 91), .int 0, .int 0, .ref (d + 92), .int 0, .ref (d + 93), .int 0, .ref (d + 94), .int 0, .ref (d + 95), .ref (d + 96), .ref (d + 97), .ref (d + 98), .int 0, .int 0, .ref (d + 99), .null, .null, .null, .null, .null, .ref (d + 148), .ref (d + 175), .ref (d + 176), .ref (d + 177), .int 0, .ref (d + 178), .ref (d + 179), .ref (d + 180), .ref (d + 185), .ref (d + 190), .ref (d + 191), .ref (d + 192), .ref (d + 193), .ref (d + 201), .ref (d + 209), .ref (d + 210), .ref (d + 211), .ref (d + 272), .ref (d + 273), .int 0, .ref (d + 274)])), (d + 81, .inl (aC 6, 12, .inr (.inr (.inr (.inr (zrefs (fun i => d + (7485 + 9 * i)) 12)))))), (a, .inr (13, [.int 0, .ref (a + 1 + 0), .ref (a + 1 + 1), .int 0, .int 0, .int 0, .ref (a + 1 + 2), .ref (a + 1 + 3), .ref (a + 1 + 4), .ref (a + 1 + 5), .int 0, .ref (a + 1 + 6), .int 0, .int 0, .ref (a + 1 + 7)]))] sz [.ref h0, .int x, .int y]) (va_Qi (fun (r : Int32) (_ : Unit) => r = -3) (fun _ zt => zt.heap.size = sz) (zN sz)) 0 0 (zN sz) := by
  refine Met.ofW (cc := cX16_at) (maxL := 4) (ret := (some .int)) (by decide) rfl ?_
  intro p e s m args below meth c s₁ B hml hv
  generalize hQ : MQ below _ _ s _ _ _ = QQ
  obtain ⟨rfl, hsz, hP, hK, hD0⟩ := hv
  have hx := B.exec
  have hb := B.bytes
  have hr := B.returns
  have hts := atoms_spec (ws := w_X16_at) B.pre
  have hall := fun (w : Cond) (h : w ∈ zAll) => hts w (List.mem_cons_of_mem _ h)
  have hown : s.vm.findClass RX16 = some m.cls := findClass_of_methodNamed B.named
  have hlocks := B.notSynchronized
  subst hsz
  have hA : ∀ q : Nat, s.heap.size ≤ q → zN s.heap.size q := fun q h => h
  have hS : va_S (zN s.heap.size) s.heap s.heap [] := va_S.rf
  have hD := hD0
  have hl := lv_entry ([.ref h0, .int x, .int y]) (n := 4) (Nat.le_of_ble_eq_true rfl)
  rw [lg_entry_eq]
  generalize (lg_sl ([.ref h0, .int x, .int y]) ++ List.replicate (4 - (lg_sl ([.ref h0, .int x, .int y])).length) Slot.unset).toArray = ls at hl ⊢
  have hl : lv_has ls 4 [(0, .ref h0), (1, .int x), (2, .int y)] := hl
  refine lv_iload_n hx hb dX16_at_0 rfl (lv_at hl 1 rfl) ?_
  refine zro_i hS hA (va_runS (As := [.int x]) (rest := []) ⟨hx, hb, hml, hown, hall⟩ (c_X16_isSlot l dC dI aC x s.heap.size) (va_cwS 1 hall (zgS zw_434 zw_436 zw_812 g_X16_isSlot) rfl rfl rfl (by decide +kernel) ⟨Nat.le_of_ble_eq_true rfl, Nat.le_of_ble_eq_true rfl⟩) (zPre_S (As := [.int x]) hK hP hD [] rfl (by decide +kernel)) rfl rfl hl.1 rfl (lv_room (Nat.le_of_ble_eq_true rfl)) dX16_at_1 ⟨Nat.le_of_ble_eq_true rfl, Nat.le_of_ble_eq_true rfl⟩) (fun r60244 L60245 hw hS' => ?_)
  clear hS
  have hS := hS'
  clear hS'
  obtain rfl : r60244 = 1 := hw.trans (zisl_1 hxm)
  try clear hw
  refine lv_if_ne (tgt := 9) hx hb dX16_at_4 (by decide) (fun _ => ?_) (fun c_4_b60246 => absurd c_4_b60246 (by decide))
  refine lv_aload_n hx hb dX16_at_9 rfl (lv_at hl 0 rfl) ?_
  refine va_get (D := (dC, dI)) (ci := 15) (v := .ref (d + 81)) (C := RX16) (T := TX16) (N := 65) hx hb hall zx_16 hown hK.1 hP 0 rfl rfl 20 (by decide) (hall _ zw_336) (fun _ h9 => h9) rfl dX16_at_10 ?_
  show W p l e _ s m _ below meth c _ _ _ _ QQ (F0 m 13 ls [.ref (d + 81)])
  refine lv_iload_n hx hb dX16_at_13 rfl (lv_at hl 1 rfl) ?_
  refine zaldr hx hb hK.1 hP 1 6 rfl rfl (zok_in hxm) (zrefs_in (zok_in hxm)) dX16_at_14 ?_
  rw [← ha]
  refine lv_astore_n (lv' := [(3, .ref a), (0, .ref h0), (1, .int x), (2, .int y)]) hx hb dX16_at_15 rfl hl (by decide) rfl (fun ls60247 hl' => ?_)
  clear hl
  have hl : lv_has ls60247 4 [(3, .ref a), (0, .ref h0), (1, .int x), (2, .int y)] := hl'
  clear hl'
  refine lv_aload_n hx hb dX16_at_16 rfl (lv_at hl 0 rfl) ?_
  refine va_get (D := (dC, dI)) (ci := 13) (v := .int 0) (C := RX14) (T := TX14) (N := 15) hx hb hall zx_14 hown hK.1 hP 2 rfl rfl 0 (by decide) (hall _ zw_402) (fun _ h9 => h9) rfl dX16_at_17 ?_
  show W p l e _ s m _ below meth c _ _ _ _ QQ (F0 m 20 ls60247 [.int 0])
  refine lv_iconst (v := 4) hx hb dX16_at_20 (by decide) ?_
  refine lv_icmp_eq (tgt := 27) hx hb dX16_at_21 (by decide) (fun c_21_b60248 => absurd c_21_b60248 (by decide)) (fun _ => ?_)
  refine lv_bipush (v := (-3)) hx hb dX16_at_24 (by decide) ?_
  rw [← hQ]
  exact W.iret (v := (-3)) hx hb hr (fun zt ht hW => ⟨⟨(-3), (), rfl, rfl, (show zt.heap.size = s.heap.size by rw [ht])⟩, hS.F ht⟩) hS.2.2 dX16_at_26

set_option maxHeartbeats 4000000 in
set_option maxRecDepth 100000 in
theorem c_X16_join_out (l : Launch) (dC : Nat → ClassId) (dI : Nat → Nat → Nat) (aC : Nat → ClassId) (h0 d : Nat) (o x y z : Int32) (sz : Nat) (hxm : ¬ zok x = true) : Met l yX16_join w_X16_join ({ frames := 2, cells := 0, slots := 0, locals := 44 }) (zPre (dC, dI) aC [(h0, .inr (15, [.ref (d + 0), .int 0, .ref (d + 1), .int 0, .ref (d + 2), .ref (d + 3), .ref (d + 68), .ref (d + 77), .ref (d + 78), .int 0, .int 0, .ref (d + 79), .int 0, .int 0, .int 0, .ref (d + 80), .int 0, .int 0, .int 0, .int 0, .ref (d + 81), .ref (d + 82), .int (-1), .ref (d + 91), .int 0, .int 0, .ref (d + 92), .int 0, .ref (d + 93), .int 0, .ref (d + 94), .int 0, .ref (d + 95), .ref (d + 96), .ref (d + 97), .ref (d + 98), .int 0, .int 0, .ref (d + 99), .null, .null, .null, .null, .null, .ref (d + 148), .ref (d + 175), .ref (d + 176), .ref (d + 177), .int 0, .ref (d + 178), .ref (d + 179), .ref (d + 180), .ref (d + 185), .ref (d + 190), .ref (d + 191), .ref (d + 192), .ref (d + 193), .ref (d + 201), .ref (d + 209), .ref (d + 210), .ref (d + 211), .ref (d + 272), .ref (d + 273), .int 0, .ref (d + 274)])), (d + 81, .inl (aC 6, 12, .inr (.inr (.inr (.inr (zrefs (fun i => d + (7485 + 9 * i)) 12))))))] sz [.ref h0, .int o, .int x, .int y, .int z]) (va_Qi (fun (r : Int32) (_ : Unit) => r = -1) (fun _ zt => zt.heap.size = sz) (zN sz)) 0 0 (zN sz) := by
  refine Met.ofW (cc := cX16_join) (maxL := 14) (ret := (some .int)) (by decide) rfl ?_
  intro p e s m args below meth c s₁ B hml hv
  generalize hQ : MQ below _ _ s _ _ _ = QQ
  obtain ⟨rfl, hsz, hP, hK, hD0⟩ := hv
  have hx := B.exec
  have hb := B.bytes
  have hr := B.returns
  have hts := atoms_spec (ws := w_X16_join) B.pre
  have hall := fun (w : Cond) (h : w ∈ zAll) => hts w (List.mem_cons_of_mem _ h)
  have hown : s.vm.findClass RX16 = some m.cls := findClass_of_methodNamed B.named
  have hlocks := B.notSynchronized
  subst hsz
  have hA : ∀ q : Nat, s.heap.size ≤ q → zN s.heap.size q := fun q h => h
  have hS : va_S (zN s.heap.size) s.heap s.heap [] := va_S.rf
  have hD := hD0
  have hl := lv_entry ([.ref h0, .int o, .int x, .int y, .int z]) (n := 14) (Nat.le_of_ble_eq_true rfl)
  rw [lg_entry_eq]
  generalize (lg_sl ([.ref h0, .int o, .int x, .int y, .int z]) ++ List.replicate (14 - (lg_sl ([.ref h0, .int o, .int x, .int y, .int z])).length) Slot.unset).toArray = ls at hl ⊢
  have hl : lv_has ls 14 [(0, .ref h0), (1, .int o), (2, .int x), (3, .int y), (4, .int z)] := hl
  refine lv_iload_n hx hb dX16_join_0 rfl (lv_at hl 1 rfl) ?_
  refine lv_if_lt (tgt := 9) hx hb dX16_join_1 (by decide) (fun c_1_b60249 => ?_) (fun c_1_b60249 => ?_)
  · refine lv_iload_n hx hb dX16_join_9 rfl (lv_at hl 1 rfl) ?_
    refine lv_iconst (v := 5) hx hb dX16_join_10 (by decide) ?_
    refine lv_icmp_ne (tgt := 18) hx hb dX16_join_11 (by decide) (fun c_11_b60250 => ?_) (fun c_11_b60250 => ?_)
    · refine lv_iconst (v := 0) hx hb dX16_join_18 (by decide) ?_
      refine lv_istore (lv' := [(5, .int 0), (0, .ref h0), (1, .int o), (2, .int x), (3, .int y), (4, .int z)]) hx hb dX16_join_19 hl (by decide) rfl (fun ls60251 hl' => ?_)
      clear hl
      have hl : lv_has ls60251 14 [(5, .int 0), (0, .ref h0), (1, .int o), (2, .int x), (3, .int y), (4, .int z)] := hl'
      clear hl'
      show W p l e _ s m _ below meth c _ _ _ _ QQ (F0 m 21 ls60251 [])
      refine lv_iload_n hx hb dX16_join_21 rfl (lv_at hl 3 rfl) ?_
      refine zro_i hS hA (va_runS (As := [.int x]) (rest := []) ⟨hx, hb, hml, hown, hall⟩ (c_X16_isSlot l dC dI aC x s.heap.size) (va_cwS 1 hall (zgS zw_434 zw_436 zw_812 g_X16_isSlot) rfl rfl rfl (by decide +kernel) ⟨Nat.le_of_ble_eq_true rfl, Nat.le_of_ble_eq_true rfl⟩) (zPre_S (As := [.int x]) hK hP hD [] rfl (by decide +kernel)) rfl rfl hl.1 rfl (lv_room (Nat.le_of_ble_eq_true rfl)) dX16_join_22 ⟨Nat.le_of_ble_eq_true rfl, Nat.le_of_ble_eq_true rfl⟩) (fun r60252 L60253 hw hS' => ?_)
      clear hS
      have hS := hS'
      clear hS'
      obtain rfl : r60252 = 0 := hw.trans (zisl_0 hxm)
      try clear hw
      refine lv_if_eq (tgt := 48) hx hb dX16_join_25 (by decide) (fun _ => ?_) (fun c_25_b60254 => absurd (by decide) c_25_b60254)
      refine lv_iconst (v := (-1)) hx hb dX16_join_48 (by decide) ?_
      rw [← hQ]
      exact W.iret (v := (-1)) hx hb hr (fun zt ht hW => ⟨⟨(-1), (), rfl, rfl, (show zt.heap.size = s.heap.size by rw [ht])⟩, hS.F ht⟩) hS.2.2 dX16_join_49
    · refine lv_iconst (v := 1) hx hb dX16_join_14 (by decide) ?_
      refine lv_goto (tgt := 19) hx hb dX16_join_15 (by decide) ?_
      show W p l e _ s m _ below meth c _ _ _ _ QQ (F0 m 19 ls [.int 1])
      refine lv_istore (lv' := [(5, .int 1), (0, .ref h0), (1, .int o), (2, .int x), (3, .int y), (4, .int z)]) hx hb dX16_join_19 hl (by decide) rfl (fun ls60255 hl' => ?_)
      clear hl
      have hl : lv_has ls60255 14 [(5, .int 1), (0, .ref h0), (1, .int o), (2, .int x), (3, .int y), (4, .int z)] := hl'
      clear hl'
      refine lv_iload_n hx hb dX16_join_21 rfl (lv_at hl 3 rfl) ?_
      refine zro_i hS hA (va_runS (As := [.int x]) (rest := []) ⟨hx, hb, hml, hown, hall⟩ (c_X16_isSlot l dC dI aC x s.heap.size) (va_cwS 1 hall (zgS zw_434 zw_436 zw_812 g_X16_isSlot) rfl rfl rfl (by decide +kernel) ⟨Nat.le_of_ble_eq_true rfl, Nat.le_of_ble_eq_true rfl⟩) (zPre_S (As := [.int x]) hK hP hD [] rfl (by decide +kernel)) rfl rfl hl.1 rfl (lv_room (Nat.le_of_ble_eq_true rfl)) dX16_join_22 ⟨Nat.le_of_ble_eq_true rfl, Nat.le_of_ble_eq_true rfl⟩) (fun r60256 L60257 hw hS' => ?_)
      clear hS
      have hS := hS'
      clear hS'
      obtain rfl : r60256 = 0 := hw.trans (zisl_0 hxm)
      try clear hw
      refine lv_if_eq (tgt := 48) hx hb dX16_join_25 (by decide) (fun _ => ?_) (fun c_25_b60258 => absurd (by decide) c_25_b60258)
      refine lv_iconst (v := (-1)) hx hb dX16_join_48 (by decide) ?_
      rw [← hQ]
      exact W.iret (v := (-1)) hx hb hr (fun zt ht hW => ⟨⟨(-1), (), rfl, rfl, (show zt.heap.size = s.heap.size by rw [ht])⟩, hS.F ht⟩) hS.2.2 dX16_join_49
  · refine lv_iload_n hx hb dX16_join_4 rfl (lv_at hl 1 rfl) ?_
    refine lv_iconst (v := 2) hx hb dX16_join_5 (by decide) ?_
    refine lv_icmp_le (tgt := 14) hx hb dX16_join_6 (by decide) (fun c_6_b60259 => ?_) (fun c_6_b60259 => ?_)
    · refine lv_iconst (v := 1) hx hb dX16_join_14 (by decide) ?_
      refine lv_goto (tgt := 19) hx hb dX16_join_15 (by decide) ?_
      show W p l e _ s m _ below meth c _ _ _ _ QQ (F0 m 19 ls [.int 1])
      refine lv_istore (lv' := [(5, .int 1), (0, .ref h0), (1, .int o), (2, .int x), (3, .int y), (4, .int z)]) hx hb dX16_join_19 hl (by decide) rfl (fun ls60260 hl' => ?_)
      clear hl
      have hl : lv_has ls60260 14 [(5, .int 1), (0, .ref h0), (1, .int o), (2, .int x), (3, .int y), (4, .int z)] := hl'
      clear hl'
      refine lv_iload_n hx hb dX16_join_21 rfl (lv_at hl 3 rfl) ?_
      refine zro_i hS hA (va_runS (As := [.int x]) (rest := []) ⟨hx, hb, hml, hown, hall⟩ (c_X16_isSlot l dC dI aC x s.heap.size) (va_cwS 1 hall (zgS zw_434 zw_436 zw_812 g_X16_isSlot) rfl rfl rfl (by decide +kernel) ⟨Nat.le_of_ble_eq_true rfl, Nat.le_of_ble_eq_true rfl⟩) (zPre_S (As := [.int x]) hK hP hD [] rfl (by decide +kernel)) rfl rfl hl.1 rfl (lv_room (Nat.le_of_ble_eq_true rfl)) dX16_join_22 ⟨Nat.le_of_ble_eq_true rfl, Nat.le_of_ble_eq_true rfl⟩) (fun r60261 L60262 hw hS' => ?_)
      clear hS
      have hS := hS'
      clear hS'
      obtain rfl : r60261 = 0 := hw.trans (zisl_0 hxm)
      try clear hw
      refine lv_if_eq (tgt := 48) hx hb dX16_join_25 (by decide) (fun _ => ?_) (fun c_25_b60263 => absurd (by decide) c_25_b60263)
      refine lv_iconst (v := (-1)) hx hb dX16_join_48 (by decide) ?_
      rw [← hQ]
      exact W.iret (v := (-1)) hx hb hr (fun zt ht hW => ⟨⟨(-1), (), rfl, rfl, (show zt.heap.size = s.heap.size by rw [ht])⟩, hS.F ht⟩) hS.2.2 dX16_join_49
    · refine lv_iload_n hx hb dX16_join_9 rfl (lv_at hl 1 rfl) ?_
      refine lv_iconst (v := 5) hx hb dX16_join_10 (by decide) ?_
      refine lv_icmp_ne (tgt := 18) hx hb dX16_join_11 (by decide) (fun c_11_b60264 => ?_) (fun c_11_b60264 => ?_)
      · refine lv_iconst (v := 0) hx hb dX16_join_18 (by decide) ?_
        show W p l e _ s m _ below meth c _ _ _ _ QQ (F0 m 19 ls [.int 0])
        refine lv_istore (lv' := [(5, .int 0), (0, .ref h0), (1, .int o), (2, .int x), (3, .int y), (4, .int z)]) hx hb dX16_join_19 hl (by decide) rfl (fun ls60265 hl' => ?_)
        clear hl
        have hl : lv_has ls60265 14 [(5, .int 0), (0, .ref h0), (1, .int o), (2, .int x), (3, .int y), (4, .int z)] := hl'
        clear hl'
        refine lv_iload_n hx hb dX16_join_21 rfl (lv_at hl 3 rfl) ?_
        refine zro_i hS hA (va_runS (As := [.int x]) (rest := []) ⟨hx, hb, hml, hown, hall⟩ (c_X16_isSlot l dC dI aC x s.heap.size) (va_cwS 1 hall (zgS zw_434 zw_436 zw_812 g_X16_isSlot) rfl rfl rfl (by decide +kernel) ⟨Nat.le_of_ble_eq_true rfl, Nat.le_of_ble_eq_true rfl⟩) (zPre_S (As := [.int x]) hK hP hD [] rfl (by decide +kernel)) rfl rfl hl.1 rfl (lv_room (Nat.le_of_ble_eq_true rfl)) dX16_join_22 ⟨Nat.le_of_ble_eq_true rfl, Nat.le_of_ble_eq_true rfl⟩) (fun r60266 L60267 hw hS' => ?_)
        clear hS
        have hS := hS'
        clear hS'
        obtain rfl : r60266 = 0 := hw.trans (zisl_0 hxm)
        try clear hw
        refine lv_if_eq (tgt := 48) hx hb dX16_join_25 (by decide) (fun _ => ?_) (fun c_25_b60268 => absurd (by decide) c_25_b60268)
        refine lv_iconst (v := (-1)) hx hb dX16_join_48 (by decide) ?_
        rw [← hQ]
        exact W.iret (v := (-1)) hx hb hr (fun zt ht hW => ⟨⟨(-1), (), rfl, rfl, (show zt.heap.size = s.heap.size by rw [ht])⟩, hS.F ht⟩) hS.2.2 dX16_join_49
      · refine lv_iconst (v := 1) hx hb dX16_join_14 (by decide) ?_
        refine lv_goto (tgt := 19) hx hb dX16_join_15 (by decide) ?_
        show W p l e _ s m _ below meth c _ _ _ _ QQ (F0 m 19 ls [.int 1])
        refine lv_istore (lv' := [(5, .int 1), (0, .ref h0), (1, .int o), (2, .int x), (3, .int y), (4, .int z)]) hx hb dX16_join_19 hl (by decide) rfl (fun ls60269 hl' => ?_)
        clear hl
        have hl : lv_has ls60269 14 [(5, .int 1), (0, .ref h0), (1, .int o), (2, .int x), (3, .int y), (4, .int z)] := hl'
        clear hl'
        refine lv_iload_n hx hb dX16_join_21 rfl (lv_at hl 3 rfl) ?_
        refine zro_i hS hA (va_runS (As := [.int x]) (rest := []) ⟨hx, hb, hml, hown, hall⟩ (c_X16_isSlot l dC dI aC x s.heap.size) (va_cwS 1 hall (zgS zw_434 zw_436 zw_812 g_X16_isSlot) rfl rfl rfl (by decide +kernel) ⟨Nat.le_of_ble_eq_true rfl, Nat.le_of_ble_eq_true rfl⟩) (zPre_S (As := [.int x]) hK hP hD [] rfl (by decide +kernel)) rfl rfl hl.1 rfl (lv_room (Nat.le_of_ble_eq_true rfl)) dX16_join_22 ⟨Nat.le_of_ble_eq_true rfl, Nat.le_of_ble_eq_true rfl⟩) (fun r60270 L60271 hw hS' => ?_)
        clear hS
        have hS := hS'
        clear hS'
        obtain rfl : r60270 = 0 := hw.trans (zisl_0 hxm)
        try clear hw
        refine lv_if_eq (tgt := 48) hx hb dX16_join_25 (by decide) (fun _ => ?_) (fun c_25_b60272 => absurd (by decide) c_25_b60272)
        refine lv_iconst (v := (-1)) hx hb dX16_join_48 (by decide) ?_
        rw [← hQ]
        exact W.iret (v := (-1)) hx hb hr (fun zt ht hW => ⟨⟨(-1), (), rfl, rfl, (show zt.heap.size = s.heap.size by rw [ht])⟩, hS.F ht⟩) hS.2.2 dX16_join_49

set_option maxHeartbeats 4000000 in
set_option maxRecDepth 100000 in
theorem c_X16_join_in (l : Launch) (dC : Nat → ClassId) (dI : Nat → Nat → Nat) (aC : Nat → ClassId) (h0 d a : Nat) (o x y z : Int32) (sz : Nat) (hxm : zok x = true) (ha : a = d + (7485 + 9 * x.toNatClampNeg)) : Met l yX16_join w_X16_join ({ frames := 2, cells := 0, slots := 0, locals := 44 }) (zPre (dC, dI) aC [(h0, .inr (15, [.ref (d + 0), .int 0, .ref (d + 1), .int 0, .ref (d + 2), .ref (d + 3), .ref (d + 68), .ref (d + 77), .ref (d + 78), .int 0, .int 0, .ref (d + 79), .int 0, .int 0, .int 0, .ref (d + 80), .int 0, .int 0, .int 0, .int 0, .ref (d + 81), .ref (d + 82), .int (-1), .ref (d + 91), .int 0, .int 0, .ref (d + 92), .int 0, .ref (d + 93), .int 0, .ref (d + 94), .int 0, .ref (d + 95), .ref (d + 96), .ref (d + 97), .ref (d + 98), .int 0, .int 0, .ref (d + 99), .null, .null, .null, .null, .null, .ref (d + 148), .ref (d + 175), .ref (d + 176), .ref (d + 177), .int 0, .ref (d + 178), .ref (d + 179), .ref (d + 180), .ref (d + 185), .ref (d + 190), .ref (d + 191), .ref (d + 192), .ref (d + 193), .ref (d + 201), .ref (d + 209), .ref (d + 210), .ref (d + 211), .ref (d + 272), .ref (d + 273), .int 0, .ref (d + 274)])), (d + 81, .inl (aC 6, 12, .inr (.inr (.inr (.inr (zrefs (fun i => d + (7485 + 9 * i)) 12)))))), (a, .inr (13, [.int 0, .ref (a + 1 + 0), .ref (a + 1 + 1), .int 0, .int 0, .int 0, .ref (a + 1 + 2), .ref (a + 1 + 3), .ref (a + 1 + 4), .ref (a + 1 + 5), .int 0, .ref (a + 1 + 6), .int 0, .int 0, .ref (a + 1 + 7)]))] sz [.ref h0, .int o, .int x, .int y, .int z]) (va_Qi (fun (r : Int32) (_ : Unit) => r = zjoin o y z) (fun _ zt => zt.heap.size = sz) (zN sz)) 0 0 (zN sz) := by
  refine Met.ofW (cc := cX16_join) (maxL := 14) (ret := (some .int)) (by decide) rfl ?_
  intro p e s m args below meth c s₁ B hml hv
  generalize hQ : MQ below _ _ s _ _ _ = QQ
  obtain ⟨rfl, hsz, hP, hK, hD0⟩ := hv
  have hx := B.exec
  have hb := B.bytes
  have hr := B.returns
  have hts := atoms_spec (ws := w_X16_join) B.pre
  have hall := fun (w : Cond) (h : w ∈ zAll) => hts w (List.mem_cons_of_mem _ h)
  have hown : s.vm.findClass RX16 = some m.cls := findClass_of_methodNamed B.named
  have hlocks := B.notSynchronized
  subst hsz
  have hA : ∀ q : Nat, s.heap.size ≤ q → zN s.heap.size q := fun q h => h
  have hS : va_S (zN s.heap.size) s.heap s.heap [] := va_S.rf
  have hD := hD0
  have hl := lv_entry ([.ref h0, .int o, .int x, .int y, .int z]) (n := 14) (Nat.le_of_ble_eq_true rfl)
  rw [lg_entry_eq]
  generalize (lg_sl ([.ref h0, .int o, .int x, .int y, .int z]) ++ List.replicate (14 - (lg_sl ([.ref h0, .int o, .int x, .int y, .int z])).length) Slot.unset).toArray = ls at hl ⊢
  have hl : lv_has ls 14 [(0, .ref h0), (1, .int o), (2, .int x), (3, .int y), (4, .int z)] := hl
  refine lv_iload_n hx hb dX16_join_0 rfl (lv_at hl 1 rfl) ?_
  refine lv_if_lt (tgt := 9) hx hb dX16_join_1 (by decide) (fun c_1_b60273 => ?_) (fun c_1_b60273 => ?_)
  · refine lv_iload_n hx hb dX16_join_9 rfl (lv_at hl 1 rfl) ?_
    refine lv_iconst (v := 5) hx hb dX16_join_10 (by decide) ?_
    refine lv_icmp_ne (tgt := 18) hx hb dX16_join_11 (by decide) (fun c_11_b60274 => ?_) (fun c_11_b60274 => ?_)
    · refine lv_iconst (v := 0) hx hb dX16_join_18 (by decide) ?_
      refine lv_istore (lv' := [(5, .int 0), (0, .ref h0), (1, .int o), (2, .int x), (3, .int y), (4, .int z)]) hx hb dX16_join_19 hl (by decide) rfl (fun ls60275 hl' => ?_)
      clear hl
      have hl : lv_has ls60275 14 [(5, .int 0), (0, .ref h0), (1, .int o), (2, .int x), (3, .int y), (4, .int z)] := hl'
      clear hl'
      show W p l e _ s m _ below meth c _ _ _ _ QQ (F0 m 21 ls60275 [])
      refine lv_iload_n hx hb dX16_join_21 rfl (lv_at hl 3 rfl) ?_
      refine zro_i hS hA (va_runS (As := [.int x]) (rest := []) ⟨hx, hb, hml, hown, hall⟩ (c_X16_isSlot l dC dI aC x s.heap.size) (va_cwS 1 hall (zgS zw_434 zw_436 zw_812 g_X16_isSlot) rfl rfl rfl (by decide +kernel) ⟨Nat.le_of_ble_eq_true rfl, Nat.le_of_ble_eq_true rfl⟩) (zPre_S (As := [.int x]) hK hP hD [] rfl (by decide +kernel)) rfl rfl hl.1 rfl (lv_room (Nat.le_of_ble_eq_true rfl)) dX16_join_22 ⟨Nat.le_of_ble_eq_true rfl, Nat.le_of_ble_eq_true rfl⟩) (fun r60276 L60277 hw hS' => ?_)
      clear hS
      have hS := hS'
      clear hS'
      obtain rfl : r60276 = 1 := hw.trans (zisl_1 hxm)
      try clear hw
      refine lv_if_eq (tgt := 48) hx hb dX16_join_25 (by decide) (fun c_25_b60278 => absurd c_25_b60278 (by decide)) (fun _ => ?_)
      refine lv_iload hx hb dX16_join_28 (lv_at hl 0 rfl) ?_
      refine lv_if_eq (tgt := 40) hx hb dX16_join_30 (by decide) (fun _ => ?_) (fun c_30_b60279 => absurd (by decide) c_30_b60279)
      show W p l e _ s m _ below meth c _ _ _ _ QQ (F0 m 40 ls60275 [])
      refine lv_iload hx hb dX16_join_40 (lv_at hl 5 rfl) ?_
      refine zro_i hS hA (va_runS (As := [.int z]) (rest := []) ⟨hx, hb, hml, hown, hall⟩ (c_X16_isSlot l dC dI aC z s.heap.size) (va_cwS 1 hall (zgS zw_434 zw_436 zw_812 g_X16_isSlot) rfl rfl rfl (by decide +kernel) ⟨Nat.le_of_ble_eq_true rfl, Nat.le_of_ble_eq_true rfl⟩) (zPre_S (As := [.int z]) hK hP hD [] rfl (by decide +kernel)) rfl rfl hl.1 rfl (lv_room (Nat.le_of_ble_eq_true rfl)) dX16_join_42 ⟨Nat.le_of_ble_eq_true rfl, Nat.le_of_ble_eq_true rfl⟩) (fun r60280 L60281 hw hS' => ?_)
      clear hS
      have hS := hS'
      clear hS'
      by_cases z60282 : zok z = true
      · obtain rfl : r60280 = 1 := hw.trans (zisl_1 z60282)
        try clear hw
        show W p l e _ s m _ below meth c _ _ _ _ QQ (F0 m 45 ls60275 [.int 1])
        refine lv_if_ne (tgt := 50) hx hb dX16_join_45 (by decide) (fun _ => ?_) (fun c_45_b60283 => absurd c_45_b60283 (by decide))
        refine lv_aload_n hx hb dX16_join_50 rfl (lv_at hl 1 rfl) ?_
        refine va_get (D := (dC, dI)) (ci := 15) (v := .ref (d + 81)) (C := RX16) (T := TX16) (N := 65) hx hb hall zx_16 hown hK.1 hP 0 rfl rfl 20 (by decide) (hall _ zw_336) (fun _ h9 => h9) rfl dX16_join_51 ?_
        refine lv_iload_n hx hb dX16_join_54 rfl (lv_at hl 3 rfl) ?_
        refine zaldr hx hb hK.1 hP 1 6 rfl rfl (zok_in hxm) (zrefs_in (zok_in hxm)) dX16_join_55 ?_
        rw [← ha]
        show W p l e _ s m _ below meth c _ _ _ _ QQ (F0 m 56 ls60275 [.ref a])
        refine lv_astore (lv' := [(6, .ref a), (5, .int 0), (0, .ref h0), (1, .int o), (2, .int x), (3, .int y), (4, .int z)]) hx hb dX16_join_56 hl (by decide) rfl (fun ls60284 hl' => ?_)
        clear hl
        have hl : lv_has ls60284 14 [(6, .ref a), (5, .int 0), (0, .ref h0), (1, .int o), (2, .int x), (3, .int y), (4, .int z)] := hl'
        clear hl'
        refine lv_aload hx hb dX16_join_58 (lv_at hl 0 rfl) ?_
        refine va_get (D := (dC, dI)) (ci := 13) (v := .int 0) (C := RX14) (T := TX14) (N := 15) hx hb hall zx_14 hown hK.1 hP 2 rfl rfl 0 (by decide) (hall _ zw_402) (fun _ h9 => h9) rfl dX16_join_60 ?_
        refine lv_iconst (v := 4) hx hb dX16_join_63 (by decide) ?_
        refine lv_icmp_eq (tgt := 70) hx hb dX16_join_64 (by decide) (fun c_64_b60285 => absurd c_64_b60285 (by decide)) (fun _ => ?_)
        show W p l e _ s m _ below meth c _ _ _ _ QQ (F0 m 67 ls60284 [])
        refine lv_bipush (v := (-3)) hx hb dX16_join_67 (by decide) ?_
        rw [← hQ]
        exact W.iret (v := (-3)) hx hb hr (fun zt ht hW => ⟨⟨(-3), (), rfl, by simp [zjoin, zwork, zface1, c_1_b60273, c_11_b60274, z60282], (show zt.heap.size = s.heap.size by rw [ht])⟩, hS.F ht⟩) hS.2.2 dX16_join_69
      · obtain rfl : r60280 = 0 := hw.trans (zisl_0 z60282)
        try clear hw
        show W p l e _ s m _ below meth c _ _ _ _ QQ (F0 m 45 ls60275 [.int 0])
        refine lv_if_ne (tgt := 50) hx hb dX16_join_45 (by decide) (fun c_45_b60286 => absurd (by decide) c_45_b60286) (fun _ => ?_)
        refine lv_iconst (v := (-1)) hx hb dX16_join_48 (by decide) ?_
        rw [← hQ]
        exact W.iret (v := (-1)) hx hb hr (fun zt ht hW => ⟨⟨(-1), (), rfl, by simp [zjoin, zwork, zface1, c_1_b60273, c_11_b60274, z60282], (show zt.heap.size = s.heap.size by rw [ht])⟩, hS.F ht⟩) hS.2.2 dX16_join_49
    · refine lv_iconst (v := 1) hx hb dX16_join_14 (by decide) ?_
      refine lv_goto (tgt := 19) hx hb dX16_join_15 (by decide) ?_
      show W p l e _ s m _ below meth c _ _ _ _ QQ (F0 m 19 ls [.int 1])
      refine lv_istore (lv' := [(5, .int 1), (0, .ref h0), (1, .int o), (2, .int x), (3, .int y), (4, .int z)]) hx hb dX16_join_19 hl (by decide) rfl (fun ls60287 hl' => ?_)
      clear hl
      have hl : lv_has ls60287 14 [(5, .int 1), (0, .ref h0), (1, .int o), (2, .int x), (3, .int y), (4, .int z)] := hl'
      clear hl'
      refine lv_iload_n hx hb dX16_join_21 rfl (lv_at hl 3 rfl) ?_
      refine zro_i hS hA (va_runS (As := [.int x]) (rest := []) ⟨hx, hb, hml, hown, hall⟩ (c_X16_isSlot l dC dI aC x s.heap.size) (va_cwS 1 hall (zgS zw_434 zw_436 zw_812 g_X16_isSlot) rfl rfl rfl (by decide +kernel) ⟨Nat.le_of_ble_eq_true rfl, Nat.le_of_ble_eq_true rfl⟩) (zPre_S (As := [.int x]) hK hP hD [] rfl (by decide +kernel)) rfl rfl hl.1 rfl (lv_room (Nat.le_of_ble_eq_true rfl)) dX16_join_22 ⟨Nat.le_of_ble_eq_true rfl, Nat.le_of_ble_eq_true rfl⟩) (fun r60288 L60289 hw hS' => ?_)
      clear hS
      have hS := hS'
      clear hS'
      obtain rfl : r60288 = 1 := hw.trans (zisl_1 hxm)
      try clear hw
      refine lv_if_eq (tgt := 48) hx hb dX16_join_25 (by decide) (fun c_25_b60290 => absurd c_25_b60290 (by decide)) (fun _ => ?_)
      refine lv_iload hx hb dX16_join_28 (lv_at hl 0 rfl) ?_
      refine lv_if_eq (tgt := 40) hx hb dX16_join_30 (by decide) (fun c_30_b60291 => absurd c_30_b60291 (by decide)) (fun _ => ?_)
      show W p l e _ s m _ below meth c _ _ _ _ QQ (F0 m 33 ls60287 [])
      refine lv_iload_n hx hb dX16_join_33 rfl (lv_at hl 4 rfl) ?_
      refine zro_i hS hA (va_runS (As := [.int y]) (rest := []) ⟨hx, hb, hml, hown, hall⟩ (c_X16_isSlot l dC dI aC y s.heap.size) (va_cwS 1 hall (zgS zw_434 zw_436 zw_812 g_X16_isSlot) rfl rfl rfl (by decide +kernel) ⟨Nat.le_of_ble_eq_true rfl, Nat.le_of_ble_eq_true rfl⟩) (zPre_S (As := [.int y]) hK hP hD [] rfl (by decide +kernel)) rfl rfl hl.1 rfl (lv_room (Nat.le_of_ble_eq_true rfl)) dX16_join_34 ⟨Nat.le_of_ble_eq_true rfl, Nat.le_of_ble_eq_true rfl⟩) (fun r60292 L60293 hw hS' => ?_)
      clear hS
      have hS := hS'
      clear hS'
      by_cases z60294 : zok y = true
      · obtain rfl : r60292 = 1 := hw.trans (zisl_1 z60294)
        try clear hw
        show W p l e _ s m _ below meth c _ _ _ _ QQ (F0 m 37 ls60287 [.int 1])
        refine lv_if_eq (tgt := 48) hx hb dX16_join_37 (by decide) (fun c_37_b60295 => absurd c_37_b60295 (by decide)) (fun _ => ?_)
        refine lv_iload hx hb dX16_join_40 (lv_at hl 5 rfl) ?_
        refine zro_i hS hA (va_runS (As := [.int z]) (rest := []) ⟨hx, hb, hml, hown, hall⟩ (c_X16_isSlot l dC dI aC z s.heap.size) (va_cwS 1 hall (zgS zw_434 zw_436 zw_812 g_X16_isSlot) rfl rfl rfl (by decide +kernel) ⟨Nat.le_of_ble_eq_true rfl, Nat.le_of_ble_eq_true rfl⟩) (zPre_S (As := [.int z]) hK hP hD [] rfl (by decide +kernel)) rfl rfl hl.1 rfl (lv_room (Nat.le_of_ble_eq_true rfl)) dX16_join_42 ⟨Nat.le_of_ble_eq_true rfl, Nat.le_of_ble_eq_true rfl⟩) (fun r60296 L60297 hw hS' => ?_)
        clear hS
        have hS := hS'
        clear hS'
        by_cases z60298 : zok z = true
        · obtain rfl : r60296 = 1 := hw.trans (zisl_1 z60298)
          try clear hw
          show W p l e _ s m _ below meth c _ _ _ _ QQ (F0 m 45 ls60287 [.int 1])
          refine lv_if_ne (tgt := 50) hx hb dX16_join_45 (by decide) (fun _ => ?_) (fun c_45_b60299 => absurd c_45_b60299 (by decide))
          refine lv_aload_n hx hb dX16_join_50 rfl (lv_at hl 1 rfl) ?_
          refine va_get (D := (dC, dI)) (ci := 15) (v := .ref (d + 81)) (C := RX16) (T := TX16) (N := 65) hx hb hall zx_16 hown hK.1 hP 0 rfl rfl 20 (by decide) (hall _ zw_336) (fun _ h9 => h9) rfl dX16_join_51 ?_
          refine lv_iload_n hx hb dX16_join_54 rfl (lv_at hl 3 rfl) ?_
          refine zaldr hx hb hK.1 hP 1 6 rfl rfl (zok_in hxm) (zrefs_in (zok_in hxm)) dX16_join_55 ?_
          rw [← ha]
          show W p l e _ s m _ below meth c _ _ _ _ QQ (F0 m 56 ls60287 [.ref a])
          refine lv_astore (lv' := [(6, .ref a), (5, .int 1), (0, .ref h0), (1, .int o), (2, .int x), (3, .int y), (4, .int z)]) hx hb dX16_join_56 hl (by decide) rfl (fun ls60300 hl' => ?_)
          clear hl
          have hl : lv_has ls60300 14 [(6, .ref a), (5, .int 1), (0, .ref h0), (1, .int o), (2, .int x), (3, .int y), (4, .int z)] := hl'
          clear hl'
          refine lv_aload hx hb dX16_join_58 (lv_at hl 0 rfl) ?_
          refine va_get (D := (dC, dI)) (ci := 13) (v := .int 0) (C := RX14) (T := TX14) (N := 15) hx hb hall zx_14 hown hK.1 hP 2 rfl rfl 0 (by decide) (hall _ zw_402) (fun _ h9 => h9) rfl dX16_join_60 ?_
          refine lv_iconst (v := 4) hx hb dX16_join_63 (by decide) ?_
          refine lv_icmp_eq (tgt := 70) hx hb dX16_join_64 (by decide) (fun c_64_b60301 => absurd c_64_b60301 (by decide)) (fun _ => ?_)
          show W p l e _ s m _ below meth c _ _ _ _ QQ (F0 m 67 ls60300 [])
          refine lv_bipush (v := (-3)) hx hb dX16_join_67 (by decide) ?_
          rw [← hQ]
          exact W.iret (v := (-3)) hx hb hr (fun zt ht hW => ⟨⟨(-3), (), rfl, by first | (simp [zjoin, zwork, zface1, c_1_b60273, c_11_b60274, z60294, z60298]; done) | exact absurd (c_11_b60274 ▸ c_1_b60273) (by decide), (show zt.heap.size = s.heap.size by rw [ht])⟩, hS.F ht⟩) hS.2.2 dX16_join_69
        · obtain rfl : r60296 = 0 := hw.trans (zisl_0 z60298)
          try clear hw
          show W p l e _ s m _ below meth c _ _ _ _ QQ (F0 m 45 ls60287 [.int 0])
          refine lv_if_ne (tgt := 50) hx hb dX16_join_45 (by decide) (fun c_45_b60302 => absurd (by decide) c_45_b60302) (fun _ => ?_)
          refine lv_iconst (v := (-1)) hx hb dX16_join_48 (by decide) ?_
          rw [← hQ]
          exact W.iret (v := (-1)) hx hb hr (fun zt ht hW => ⟨⟨(-1), (), rfl, by first | (simp [zjoin, zwork, zface1, c_1_b60273, c_11_b60274, z60294, z60298]; done) | exact absurd (c_11_b60274 ▸ c_1_b60273) (by decide), (show zt.heap.size = s.heap.size by rw [ht])⟩, hS.F ht⟩) hS.2.2 dX16_join_49
      · obtain rfl : r60292 = 0 := hw.trans (zisl_0 z60294)
        try clear hw
        show W p l e _ s m _ below meth c _ _ _ _ QQ (F0 m 37 ls60287 [.int 0])
        refine lv_if_eq (tgt := 48) hx hb dX16_join_37 (by decide) (fun _ => ?_) (fun c_37_b60303 => absurd (by decide) c_37_b60303)
        refine lv_iconst (v := (-1)) hx hb dX16_join_48 (by decide) ?_
        rw [← hQ]
        exact W.iret (v := (-1)) hx hb hr (fun zt ht hW => ⟨⟨(-1), (), rfl, by first | (simp [zjoin, zwork, zface1, c_1_b60273, c_11_b60274, z60294]; done) | exact absurd (c_11_b60274 ▸ c_1_b60273) (by decide), (show zt.heap.size = s.heap.size by rw [ht])⟩, hS.F ht⟩) hS.2.2 dX16_join_49
  · refine lv_iload_n hx hb dX16_join_4 rfl (lv_at hl 1 rfl) ?_
    refine lv_iconst (v := 2) hx hb dX16_join_5 (by decide) ?_
    refine lv_icmp_le (tgt := 14) hx hb dX16_join_6 (by decide) (fun c_6_b60304 => ?_) (fun c_6_b60304 => ?_)
    · refine lv_iconst (v := 1) hx hb dX16_join_14 (by decide) ?_
      refine lv_goto (tgt := 19) hx hb dX16_join_15 (by decide) ?_
      show W p l e _ s m _ below meth c _ _ _ _ QQ (F0 m 19 ls [.int 1])
      refine lv_istore (lv' := [(5, .int 1), (0, .ref h0), (1, .int o), (2, .int x), (3, .int y), (4, .int z)]) hx hb dX16_join_19 hl (by decide) rfl (fun ls60305 hl' => ?_)
      clear hl
      have hl : lv_has ls60305 14 [(5, .int 1), (0, .ref h0), (1, .int o), (2, .int x), (3, .int y), (4, .int z)] := hl'
      clear hl'
      refine lv_iload_n hx hb dX16_join_21 rfl (lv_at hl 3 rfl) ?_
      refine zro_i hS hA (va_runS (As := [.int x]) (rest := []) ⟨hx, hb, hml, hown, hall⟩ (c_X16_isSlot l dC dI aC x s.heap.size) (va_cwS 1 hall (zgS zw_434 zw_436 zw_812 g_X16_isSlot) rfl rfl rfl (by decide +kernel) ⟨Nat.le_of_ble_eq_true rfl, Nat.le_of_ble_eq_true rfl⟩) (zPre_S (As := [.int x]) hK hP hD [] rfl (by decide +kernel)) rfl rfl hl.1 rfl (lv_room (Nat.le_of_ble_eq_true rfl)) dX16_join_22 ⟨Nat.le_of_ble_eq_true rfl, Nat.le_of_ble_eq_true rfl⟩) (fun r60306 L60307 hw hS' => ?_)
      clear hS
      have hS := hS'
      clear hS'
      obtain rfl : r60306 = 1 := hw.trans (zisl_1 hxm)
      try clear hw
      refine lv_if_eq (tgt := 48) hx hb dX16_join_25 (by decide) (fun c_25_b60308 => absurd c_25_b60308 (by decide)) (fun _ => ?_)
      refine lv_iload hx hb dX16_join_28 (lv_at hl 0 rfl) ?_
      refine lv_if_eq (tgt := 40) hx hb dX16_join_30 (by decide) (fun c_30_b60309 => absurd c_30_b60309 (by decide)) (fun _ => ?_)
      show W p l e _ s m _ below meth c _ _ _ _ QQ (F0 m 33 ls60305 [])
      refine lv_iload_n hx hb dX16_join_33 rfl (lv_at hl 4 rfl) ?_
      refine zro_i hS hA (va_runS (As := [.int y]) (rest := []) ⟨hx, hb, hml, hown, hall⟩ (c_X16_isSlot l dC dI aC y s.heap.size) (va_cwS 1 hall (zgS zw_434 zw_436 zw_812 g_X16_isSlot) rfl rfl rfl (by decide +kernel) ⟨Nat.le_of_ble_eq_true rfl, Nat.le_of_ble_eq_true rfl⟩) (zPre_S (As := [.int y]) hK hP hD [] rfl (by decide +kernel)) rfl rfl hl.1 rfl (lv_room (Nat.le_of_ble_eq_true rfl)) dX16_join_34 ⟨Nat.le_of_ble_eq_true rfl, Nat.le_of_ble_eq_true rfl⟩) (fun r60310 L60311 hw hS' => ?_)
      clear hS
      have hS := hS'
      clear hS'
      by_cases z60312 : zok y = true
      · obtain rfl : r60310 = 1 := hw.trans (zisl_1 z60312)
        try clear hw
        show W p l e _ s m _ below meth c _ _ _ _ QQ (F0 m 37 ls60305 [.int 1])
        refine lv_if_eq (tgt := 48) hx hb dX16_join_37 (by decide) (fun c_37_b60313 => absurd c_37_b60313 (by decide)) (fun _ => ?_)
        refine lv_iload hx hb dX16_join_40 (lv_at hl 5 rfl) ?_
        refine zro_i hS hA (va_runS (As := [.int z]) (rest := []) ⟨hx, hb, hml, hown, hall⟩ (c_X16_isSlot l dC dI aC z s.heap.size) (va_cwS 1 hall (zgS zw_434 zw_436 zw_812 g_X16_isSlot) rfl rfl rfl (by decide +kernel) ⟨Nat.le_of_ble_eq_true rfl, Nat.le_of_ble_eq_true rfl⟩) (zPre_S (As := [.int z]) hK hP hD [] rfl (by decide +kernel)) rfl rfl hl.1 rfl (lv_room (Nat.le_of_ble_eq_true rfl)) dX16_join_42 ⟨Nat.le_of_ble_eq_true rfl, Nat.le_of_ble_eq_true rfl⟩) (fun r60314 L60315 hw hS' => ?_)
        clear hS
        have hS := hS'
        clear hS'
        by_cases z60316 : zok z = true
        · obtain rfl : r60314 = 1 := hw.trans (zisl_1 z60316)
          try clear hw
          show W p l e _ s m _ below meth c _ _ _ _ QQ (F0 m 45 ls60305 [.int 1])
          refine lv_if_ne (tgt := 50) hx hb dX16_join_45 (by decide) (fun _ => ?_) (fun c_45_b60317 => absurd c_45_b60317 (by decide))
          refine lv_aload_n hx hb dX16_join_50 rfl (lv_at hl 1 rfl) ?_
          refine va_get (D := (dC, dI)) (ci := 15) (v := .ref (d + 81)) (C := RX16) (T := TX16) (N := 65) hx hb hall zx_16 hown hK.1 hP 0 rfl rfl 20 (by decide) (hall _ zw_336) (fun _ h9 => h9) rfl dX16_join_51 ?_
          refine lv_iload_n hx hb dX16_join_54 rfl (lv_at hl 3 rfl) ?_
          refine zaldr hx hb hK.1 hP 1 6 rfl rfl (zok_in hxm) (zrefs_in (zok_in hxm)) dX16_join_55 ?_
          rw [← ha]
          show W p l e _ s m _ below meth c _ _ _ _ QQ (F0 m 56 ls60305 [.ref a])
          refine lv_astore (lv' := [(6, .ref a), (5, .int 1), (0, .ref h0), (1, .int o), (2, .int x), (3, .int y), (4, .int z)]) hx hb dX16_join_56 hl (by decide) rfl (fun ls60318 hl' => ?_)
          clear hl
          have hl : lv_has ls60318 14 [(6, .ref a), (5, .int 1), (0, .ref h0), (1, .int o), (2, .int x), (3, .int y), (4, .int z)] := hl'
          clear hl'
          refine lv_aload hx hb dX16_join_58 (lv_at hl 0 rfl) ?_
          refine va_get (D := (dC, dI)) (ci := 13) (v := .int 0) (C := RX14) (T := TX14) (N := 15) hx hb hall zx_14 hown hK.1 hP 2 rfl rfl 0 (by decide) (hall _ zw_402) (fun _ h9 => h9) rfl dX16_join_60 ?_
          refine lv_iconst (v := 4) hx hb dX16_join_63 (by decide) ?_
          refine lv_icmp_eq (tgt := 70) hx hb dX16_join_64 (by decide) (fun c_64_b60319 => absurd c_64_b60319 (by decide)) (fun _ => ?_)
          show W p l e _ s m _ below meth c _ _ _ _ QQ (F0 m 67 ls60318 [])
          refine lv_bipush (v := (-3)) hx hb dX16_join_67 (by decide) ?_
          rw [← hQ]
          exact W.iret (v := (-3)) hx hb hr (fun zt ht hW => ⟨⟨(-3), (), rfl, by simp [zjoin, zwork, zface1, c_1_b60273, c_6_b60304, Int32.not_lt.mpr c_6_b60304, z60312, z60316], (show zt.heap.size = s.heap.size by rw [ht])⟩, hS.F ht⟩) hS.2.2 dX16_join_69
        · obtain rfl : r60314 = 0 := hw.trans (zisl_0 z60316)
          try clear hw
          show W p l e _ s m _ below meth c _ _ _ _ QQ (F0 m 45 ls60305 [.int 0])
          refine lv_if_ne (tgt := 50) hx hb dX16_join_45 (by decide) (fun c_45_b60320 => absurd (by decide) c_45_b60320) (fun _ => ?_)
          refine lv_iconst (v := (-1)) hx hb dX16_join_48 (by decide) ?_
          rw [← hQ]
          exact W.iret (v := (-1)) hx hb hr (fun zt ht hW => ⟨⟨(-1), (), rfl, by simp [zjoin, zwork, zface1, c_1_b60273, c_6_b60304, Int32.not_lt.mpr c_6_b60304, z60312, z60316], (show zt.heap.size = s.heap.size by rw [ht])⟩, hS.F ht⟩) hS.2.2 dX16_join_49
      · obtain rfl : r60310 = 0 := hw.trans (zisl_0 z60312)
        try clear hw
        show W p l e _ s m _ below meth c _ _ _ _ QQ (F0 m 37 ls60305 [.int 0])
        refine lv_if_eq (tgt := 48) hx hb dX16_join_37 (by decide) (fun _ => ?_) (fun c_37_b60321 => absurd (by decide) c_37_b60321)
        refine lv_iconst (v := (-1)) hx hb dX16_join_48 (by decide) ?_
        rw [← hQ]
        exact W.iret (v := (-1)) hx hb hr (fun zt ht hW => ⟨⟨(-1), (), rfl, by simp [zjoin, zwork, zface1, c_1_b60273, c_6_b60304, Int32.not_lt.mpr c_6_b60304, z60312], (show zt.heap.size = s.heap.size by rw [ht])⟩, hS.F ht⟩) hS.2.2 dX16_join_49
    · refine lv_iload_n hx hb dX16_join_9 rfl (lv_at hl 1 rfl) ?_
      refine lv_iconst (v := 5) hx hb dX16_join_10 (by decide) ?_
      refine lv_icmp_ne (tgt := 18) hx hb dX16_join_11 (by decide) (fun c_11_b60322 => ?_) (fun c_11_b60322 => ?_)
      · refine lv_iconst (v := 0) hx hb dX16_join_18 (by decide) ?_
        show W p l e _ s m _ below meth c _ _ _ _ QQ (F0 m 19 ls [.int 0])
        refine lv_istore (lv' := [(5, .int 0), (0, .ref h0), (1, .int o), (2, .int x), (3, .int y), (4, .int z)]) hx hb dX16_join_19 hl (by decide) rfl (fun ls60323 hl' => ?_)
        clear hl
        have hl : lv_has ls60323 14 [(5, .int 0), (0, .ref h0), (1, .int o), (2, .int x), (3, .int y), (4, .int z)] := hl'
        clear hl'
        refine lv_iload_n hx hb dX16_join_21 rfl (lv_at hl 3 rfl) ?_
        refine zro_i hS hA (va_runS (As := [.int x]) (rest := []) ⟨hx, hb, hml, hown, hall⟩ (c_X16_isSlot l dC dI aC x s.heap.size) (va_cwS 1 hall (zgS zw_434 zw_436 zw_812 g_X16_isSlot) rfl rfl rfl (by decide +kernel) ⟨Nat.le_of_ble_eq_true rfl, Nat.le_of_ble_eq_true rfl⟩) (zPre_S (As := [.int x]) hK hP hD [] rfl (by decide +kernel)) rfl rfl hl.1 rfl (lv_room (Nat.le_of_ble_eq_true rfl)) dX16_join_22 ⟨Nat.le_of_ble_eq_true rfl, Nat.le_of_ble_eq_true rfl⟩) (fun r60324 L60325 hw hS' => ?_)
        clear hS
        have hS := hS'
        clear hS'
        obtain rfl : r60324 = 1 := hw.trans (zisl_1 hxm)
        try clear hw
        refine lv_if_eq (tgt := 48) hx hb dX16_join_25 (by decide) (fun c_25_b60326 => absurd c_25_b60326 (by decide)) (fun _ => ?_)
        refine lv_iload hx hb dX16_join_28 (lv_at hl 0 rfl) ?_
        refine lv_if_eq (tgt := 40) hx hb dX16_join_30 (by decide) (fun _ => ?_) (fun c_30_b60327 => absurd (by decide) c_30_b60327)
        show W p l e _ s m _ below meth c _ _ _ _ QQ (F0 m 40 ls60323 [])
        refine lv_iload hx hb dX16_join_40 (lv_at hl 5 rfl) ?_
        refine zro_i hS hA (va_runS (As := [.int z]) (rest := []) ⟨hx, hb, hml, hown, hall⟩ (c_X16_isSlot l dC dI aC z s.heap.size) (va_cwS 1 hall (zgS zw_434 zw_436 zw_812 g_X16_isSlot) rfl rfl rfl (by decide +kernel) ⟨Nat.le_of_ble_eq_true rfl, Nat.le_of_ble_eq_true rfl⟩) (zPre_S (As := [.int z]) hK hP hD [] rfl (by decide +kernel)) rfl rfl hl.1 rfl (lv_room (Nat.le_of_ble_eq_true rfl)) dX16_join_42 ⟨Nat.le_of_ble_eq_true rfl, Nat.le_of_ble_eq_true rfl⟩) (fun r60328 L60329 hw hS' => ?_)
        clear hS
        have hS := hS'
        clear hS'
        by_cases z60330 : zok z = true
        · obtain rfl : r60328 = 1 := hw.trans (zisl_1 z60330)
          try clear hw
          show W p l e _ s m _ below meth c _ _ _ _ QQ (F0 m 45 ls60323 [.int 1])
          refine lv_if_ne (tgt := 50) hx hb dX16_join_45 (by decide) (fun _ => ?_) (fun c_45_b60331 => absurd c_45_b60331 (by decide))
          refine lv_aload_n hx hb dX16_join_50 rfl (lv_at hl 1 rfl) ?_
          refine va_get (D := (dC, dI)) (ci := 15) (v := .ref (d + 81)) (C := RX16) (T := TX16) (N := 65) hx hb hall zx_16 hown hK.1 hP 0 rfl rfl 20 (by decide) (hall _ zw_336) (fun _ h9 => h9) rfl dX16_join_51 ?_
          refine lv_iload_n hx hb dX16_join_54 rfl (lv_at hl 3 rfl) ?_
          refine zaldr hx hb hK.1 hP 1 6 rfl rfl (zok_in hxm) (zrefs_in (zok_in hxm)) dX16_join_55 ?_
          rw [← ha]
          show W p l e _ s m _ below meth c _ _ _ _ QQ (F0 m 56 ls60323 [.ref a])
          refine lv_astore (lv' := [(6, .ref a), (5, .int 0), (0, .ref h0), (1, .int o), (2, .int x), (3, .int y), (4, .int z)]) hx hb dX16_join_56 hl (by decide) rfl (fun ls60332 hl' => ?_)
          clear hl
          have hl : lv_has ls60332 14 [(6, .ref a), (5, .int 0), (0, .ref h0), (1, .int o), (2, .int x), (3, .int y), (4, .int z)] := hl'
          clear hl'
          refine lv_aload hx hb dX16_join_58 (lv_at hl 0 rfl) ?_
          refine va_get (D := (dC, dI)) (ci := 13) (v := .int 0) (C := RX14) (T := TX14) (N := 15) hx hb hall zx_14 hown hK.1 hP 2 rfl rfl 0 (by decide) (hall _ zw_402) (fun _ h9 => h9) rfl dX16_join_60 ?_
          refine lv_iconst (v := 4) hx hb dX16_join_63 (by decide) ?_
          refine lv_icmp_eq (tgt := 70) hx hb dX16_join_64 (by decide) (fun c_64_b60333 => absurd c_64_b60333 (by decide)) (fun _ => ?_)
          show W p l e _ s m _ below meth c _ _ _ _ QQ (F0 m 67 ls60332 [])
          refine lv_bipush (v := (-3)) hx hb dX16_join_67 (by decide) ?_
          rw [← hQ]
          exact W.iret (v := (-3)) hx hb hr (fun zt ht hW => ⟨⟨(-3), (), rfl, by simp [zjoin, zwork, zface1, c_1_b60273, c_6_b60304, Int32.not_le.mp c_6_b60304, c_11_b60322, z60330], (show zt.heap.size = s.heap.size by rw [ht])⟩, hS.F ht⟩) hS.2.2 dX16_join_69
        · obtain rfl : r60328 = 0 := hw.trans (zisl_0 z60330)
          try clear hw
          show W p l e _ s m _ below meth c _ _ _ _ QQ (F0 m 45 ls60323 [.int 0])
          refine lv_if_ne (tgt := 50) hx hb dX16_join_45 (by decide) (fun c_45_b60334 => absurd (by decide) c_45_b60334) (fun _ => ?_)
          refine lv_iconst (v := (-1)) hx hb dX16_join_48 (by decide) ?_
          rw [← hQ]
          exact W.iret (v := (-1)) hx hb hr (fun zt ht hW => ⟨⟨(-1), (), rfl, by simp [zjoin, zwork, zface1, c_1_b60273, c_6_b60304, Int32.not_le.mp c_6_b60304, c_11_b60322, z60330], (show zt.heap.size = s.heap.size by rw [ht])⟩, hS.F ht⟩) hS.2.2 dX16_join_49
      · refine lv_iconst (v := 1) hx hb dX16_join_14 (by decide) ?_
        refine lv_goto (tgt := 19) hx hb dX16_join_15 (by decide) ?_
        show W p l e _ s m _ below meth c _ _ _ _ QQ (F0 m 19 ls [.int 1])
        refine lv_istore (lv' := [(5, .int 1), (0, .ref h0), (1, .int o), (2, .int x), (3, .int y), (4, .int z)]) hx hb dX16_join_19 hl (by decide) rfl (fun ls60335 hl' => ?_)
        clear hl
        have hl : lv_has ls60335 14 [(5, .int 1), (0, .ref h0), (1, .int o), (2, .int x), (3, .int y), (4, .int z)] := hl'
        clear hl'
        refine lv_iload_n hx hb dX16_join_21 rfl (lv_at hl 3 rfl) ?_
        refine zro_i hS hA (va_runS (As := [.int x]) (rest := []) ⟨hx, hb, hml, hown, hall⟩ (c_X16_isSlot l dC dI aC x s.heap.size) (va_cwS 1 hall (zgS zw_434 zw_436 zw_812 g_X16_isSlot) rfl rfl rfl (by decide +kernel) ⟨Nat.le_of_ble_eq_true rfl, Nat.le_of_ble_eq_true rfl⟩) (zPre_S (As := [.int x]) hK hP hD [] rfl (by decide +kernel)) rfl rfl hl.1 rfl (lv_room (Nat.le_of_ble_eq_true rfl)) dX16_join_22 ⟨Nat.le_of_ble_eq_true rfl, Nat.le_of_ble_eq_true rfl⟩) (fun r60336 L60337 hw hS' => ?_)
        clear hS
        have hS := hS'
        clear hS'
        obtain rfl : r60336 = 1 := hw.trans (zisl_1 hxm)
        try clear hw
        refine lv_if_eq (tgt := 48) hx hb dX16_join_25 (by decide) (fun c_25_b60338 => absurd c_25_b60338 (by decide)) (fun _ => ?_)
        refine lv_iload hx hb dX16_join_28 (lv_at hl 0 rfl) ?_
        refine lv_if_eq (tgt := 40) hx hb dX16_join_30 (by decide) (fun c_30_b60339 => absurd c_30_b60339 (by decide)) (fun _ => ?_)
        show W p l e _ s m _ below meth c _ _ _ _ QQ (F0 m 33 ls60335 [])
        refine lv_iload_n hx hb dX16_join_33 rfl (lv_at hl 4 rfl) ?_
        refine zro_i hS hA (va_runS (As := [.int y]) (rest := []) ⟨hx, hb, hml, hown, hall⟩ (c_X16_isSlot l dC dI aC y s.heap.size) (va_cwS 1 hall (zgS zw_434 zw_436 zw_812 g_X16_isSlot) rfl rfl rfl (by decide +kernel) ⟨Nat.le_of_ble_eq_true rfl, Nat.le_of_ble_eq_true rfl⟩) (zPre_S (As := [.int y]) hK hP hD [] rfl (by decide +kernel)) rfl rfl hl.1 rfl (lv_room (Nat.le_of_ble_eq_true rfl)) dX16_join_34 ⟨Nat.le_of_ble_eq_true rfl, Nat.le_of_ble_eq_true rfl⟩) (fun r60340 L60341 hw hS' => ?_)
        clear hS
        have hS := hS'
        clear hS'
        by_cases z60342 : zok y = true
        · obtain rfl : r60340 = 1 := hw.trans (zisl_1 z60342)
          try clear hw
          show W p l e _ s m _ below meth c _ _ _ _ QQ (F0 m 37 ls60335 [.int 1])
          refine lv_if_eq (tgt := 48) hx hb dX16_join_37 (by decide) (fun c_37_b60343 => absurd c_37_b60343 (by decide)) (fun _ => ?_)
          refine lv_iload hx hb dX16_join_40 (lv_at hl 5 rfl) ?_
          refine zro_i hS hA (va_runS (As := [.int z]) (rest := []) ⟨hx, hb, hml, hown, hall⟩ (c_X16_isSlot l dC dI aC z s.heap.size) (va_cwS 1 hall (zgS zw_434 zw_436 zw_812 g_X16_isSlot) rfl rfl rfl (by decide +kernel) ⟨Nat.le_of_ble_eq_true rfl, Nat.le_of_ble_eq_true rfl⟩) (zPre_S (As := [.int z]) hK hP hD [] rfl (by decide +kernel)) rfl rfl hl.1 rfl (lv_room (Nat.le_of_ble_eq_true rfl)) dX16_join_42 ⟨Nat.le_of_ble_eq_true rfl, Nat.le_of_ble_eq_true rfl⟩) (fun r60344 L60345 hw hS' => ?_)
          clear hS
          have hS := hS'
          clear hS'
          by_cases z60346 : zok z = true
          · obtain rfl : r60344 = 1 := hw.trans (zisl_1 z60346)
            try clear hw
            show W p l e _ s m _ below meth c _ _ _ _ QQ (F0 m 45 ls60335 [.int 1])
            refine lv_if_ne (tgt := 50) hx hb dX16_join_45 (by decide) (fun _ => ?_) (fun c_45_b60347 => absurd c_45_b60347 (by decide))
            refine lv_aload_n hx hb dX16_join_50 rfl (lv_at hl 1 rfl) ?_
            refine va_get (D := (dC, dI)) (ci := 15) (v := .ref (d + 81)) (C := RX16) (T := TX16) (N := 65) hx hb hall zx_16 hown hK.1 hP 0 rfl rfl 20 (by decide) (hall _ zw_336) (fun _ h9 => h9) rfl dX16_join_51 ?_
            refine lv_iload_n hx hb dX16_join_54 rfl (lv_at hl 3 rfl) ?_
            refine zaldr hx hb hK.1 hP 1 6 rfl rfl (zok_in hxm) (zrefs_in (zok_in hxm)) dX16_join_55 ?_
            rw [← ha]
            show W p l e _ s m _ below meth c _ _ _ _ QQ (F0 m 56 ls60335 [.ref a])
            refine lv_astore (lv' := [(6, .ref a), (5, .int 1), (0, .ref h0), (1, .int o), (2, .int x), (3, .int y), (4, .int z)]) hx hb dX16_join_56 hl (by decide) rfl (fun ls60348 hl' => ?_)
            clear hl
            have hl : lv_has ls60348 14 [(6, .ref a), (5, .int 1), (0, .ref h0), (1, .int o), (2, .int x), (3, .int y), (4, .int z)] := hl'
            clear hl'
            refine lv_aload hx hb dX16_join_58 (lv_at hl 0 rfl) ?_
            refine va_get (D := (dC, dI)) (ci := 13) (v := .int 0) (C := RX14) (T := TX14) (N := 15) hx hb hall zx_14 hown hK.1 hP 2 rfl rfl 0 (by decide) (hall _ zw_402) (fun _ h9 => h9) rfl dX16_join_60 ?_
            refine lv_iconst (v := 4) hx hb dX16_join_63 (by decide) ?_
            refine lv_icmp_eq (tgt := 70) hx hb dX16_join_64 (by decide) (fun c_64_b60349 => absurd c_64_b60349 (by decide)) (fun _ => ?_)
            show W p l e _ s m _ below meth c _ _ _ _ QQ (F0 m 67 ls60348 [])
            refine lv_bipush (v := (-3)) hx hb dX16_join_67 (by decide) ?_
            rw [← hQ]
            exact W.iret (v := (-3)) hx hb hr (fun zt ht hW => ⟨⟨(-3), (), rfl, by first | (simp [zjoin, zwork, zface1, c_1_b60273, c_6_b60304, Int32.not_le.mp c_6_b60304, c_11_b60322, z60342, z60346]; done) | exact absurd (c_11_b60322 ▸ c_1_b60273) (by decide) | exact absurd (c_11_b60322 ▸ c_6_b60304) (by decide), (show zt.heap.size = s.heap.size by rw [ht])⟩, hS.F ht⟩) hS.2.2 dX16_join_69
          · obtain rfl : r60344 = 0 := hw.trans (zisl_0 z60346)
            try clear hw
            show W p l e _ s m _ below meth c _ _ _ _ QQ (F0 m 45 ls60335 [.int 0])
            refine lv_if_ne (tgt := 50) hx hb dX16_join_45 (by decide) (fun c_45_b60350 => absurd (by decide) c_45_b60350) (fun _ => ?_)
            refine lv_iconst (v := (-1)) hx hb dX16_join_48 (by decide) ?_
            rw [← hQ]
            exact W.iret (v := (-1)) hx hb hr (fun zt ht hW => ⟨⟨(-1), (), rfl, by first | (simp [zjoin, zwork, zface1, c_1_b60273, c_6_b60304, Int32.not_le.mp c_6_b60304, c_11_b60322, z60342, z60346]; done) | exact absurd (c_11_b60322 ▸ c_1_b60273) (by decide) | exact absurd (c_11_b60322 ▸ c_6_b60304) (by decide), (show zt.heap.size = s.heap.size by rw [ht])⟩, hS.F ht⟩) hS.2.2 dX16_join_49
        · obtain rfl : r60340 = 0 := hw.trans (zisl_0 z60342)
          try clear hw
          show W p l e _ s m _ below meth c _ _ _ _ QQ (F0 m 37 ls60335 [.int 0])
          refine lv_if_eq (tgt := 48) hx hb dX16_join_37 (by decide) (fun _ => ?_) (fun c_37_b60351 => absurd (by decide) c_37_b60351)
          refine lv_iconst (v := (-1)) hx hb dX16_join_48 (by decide) ?_
          rw [← hQ]
          exact W.iret (v := (-1)) hx hb hr (fun zt ht hW => ⟨⟨(-1), (), rfl, by first | (simp [zjoin, zwork, zface1, c_1_b60273, c_6_b60304, Int32.not_le.mp c_6_b60304, c_11_b60322, z60342]; done) | exact absurd (c_11_b60322 ▸ c_1_b60273) (by decide) | exact absurd (c_11_b60322 ▸ c_6_b60304) (by decide), (show zt.heap.size = s.heap.size by rw [ht])⟩, hS.F ht⟩) hS.2.2 dX16_join_49

set_option maxHeartbeats 4000000 in
set_option maxRecDepth 100000 in
theorem c_X16_roots_out (l : Launch) (dC : Nat → ClassId) (dI : Nat → Nat → Nat) (aC : Nat → ClassId) (h0 d : Nat) (x : Int32) (sz : Nat) (hxm : ¬ zok x = true) : Met l yX16_roots w_X16_roots ({ frames := 2, cells := 0, slots := 0, locals := 44 }) (zPre (dC, dI) aC [(h0, .inr (15, [.ref (d + 0), .int 0, .ref (d + 1), .int 0, .ref (d + 2), .ref (d + 3), .ref (d + 68), .ref (d + 77), .ref (d + 78), .int 0, .int 0, .ref (d + 79), .int 0, .int 0, .int 0, .ref (d + 80), .int 0, .int 0, .int 0, .int 0, .ref (d + 81), .ref (d + 82), .int (-1), .ref (d + 91), .int 0, .int 0, .ref (d + 92), .int 0, .ref (d + 93), .int 0, .ref (d + 94), .int 0, .ref (d + 95), .ref (d + 96), .ref (d + 97), .ref (d + 98), .int 0, .int 0, .ref (d + 99), .null, .null, .null, .null, .null, .ref (d + 148), .ref (d + 175), .ref (d + 176), .ref (d + 177), .int 0, .ref (d + 178), .ref (d + 179), .ref (d + 180), .ref (d + 185), .ref (d + 190), .ref (d + 191), .ref (d + 192), .ref (d + 193), .ref (d + 201), .ref (d + 209), .ref (d + 210), .ref (d + 211), .ref (d + 272), .ref (d + 273), .int 0, .ref (d + 274)])), (d + 81, .inl (aC 6, 12, .inr (.inr (.inr (.inr (zrefs (fun i => d + (7485 + 9 * i)) 12))))))] sz [.ref h0, .int x]) (va_Qi (fun (r : Int32) (_ : Unit) => r = -1) (fun _ zt => zt.heap.size = sz) (zN sz)) 0 0 (zN sz) := by
  refine Met.ofW (cc := cX16_roots) (maxL := 11) (ret := (some .int)) (by decide) rfl ?_
  intro p e s m args below meth c s₁ B hml hv
  generalize hQ : MQ below _ _ s _ _ _ = QQ
  obtain ⟨rfl, hsz, hP, hK, hD0⟩ := hv
  have hx := B.exec
  have hb := B.bytes
  have hr := B.returns
  have hts := atoms_spec (ws := w_X16_roots) B.pre
  have hall := fun (w : Cond) (h : w ∈ zAll) => hts w (List.mem_cons_of_mem _ h)
  have hown : s.vm.findClass RX16 = some m.cls := findClass_of_methodNamed B.named
  have hlocks := B.notSynchronized
  subst hsz
  have hA : ∀ q : Nat, s.heap.size ≤ q → zN s.heap.size q := fun q h => h
  have hS : va_S (zN s.heap.size) s.heap s.heap [] := va_S.rf
  have hD := hD0
  have hl := lv_entry ([.ref h0, .int x]) (n := 11) (Nat.le_of_ble_eq_true rfl)
  rw [lg_entry_eq]
  generalize (lg_sl ([.ref h0, .int x]) ++ List.replicate (11 - (lg_sl ([.ref h0, .int x])).length) Slot.unset).toArray = ls at hl ⊢
  have hl : lv_has ls 11 [(0, .ref h0), (1, .int x)] := hl
  refine lv_iload_n hx hb dX16_roots_0 rfl (lv_at hl 1 rfl) ?_
  refine zro_i hS hA (va_runS (As := [.int x]) (rest := []) ⟨hx, hb, hml, hown, hall⟩ (c_X16_isSlot l dC dI aC x s.heap.size) (va_cwS 1 hall (zgS zw_434 zw_436 zw_812 g_X16_isSlot) rfl rfl rfl (by decide +kernel) ⟨Nat.le_of_ble_eq_true rfl, Nat.le_of_ble_eq_true rfl⟩) (zPre_S (As := [.int x]) hK hP hD [] rfl (by decide +kernel)) rfl rfl hl.1 rfl (lv_room (Nat.le_of_ble_eq_true rfl)) dX16_roots_1 ⟨Nat.le_of_ble_eq_true rfl, Nat.le_of_ble_eq_true rfl⟩) (fun r60352 L60353 hw hS' => ?_)
  clear hS
  have hS := hS'
  clear hS'
  obtain rfl : r60352 = 0 := hw.trans (zisl_0 hxm)
  try clear hw
  refine lv_if_ne (tgt := 9) hx hb dX16_roots_4 (by decide) (fun c_4_b60354 => absurd (by decide) c_4_b60354) (fun _ => ?_)
  refine lv_iconst (v := (-1)) hx hb dX16_roots_7 (by decide) ?_
  rw [← hQ]
  exact W.iret (v := (-1)) hx hb hr (fun zt ht hW => ⟨⟨(-1), (), rfl, rfl, (show zt.heap.size = s.heap.size by rw [ht])⟩, hS.F ht⟩) hS.2.2 dX16_roots_8

set_option maxHeartbeats 4000000 in
set_option maxRecDepth 100000 in
theorem c_X16_roots_in (l : Launch) (dC : Nat → ClassId) (dI : Nat → Nat → Nat) (aC : Nat → ClassId) (h0 d a : Nat) (x : Int32) (sz : Nat) (hxm : zok x = true) (ha : a = d + (7485 + 9 * x.toNatClampNeg)) : Met l yX16_roots w_X16_roots ({ frames := 2, cells := 0, slots := 0, locals := 44 }) (zPre (dC, dI) aC [(h0, .inr (15, [.ref (d + 0), .int 0, .ref (d + 1), .int 0, .ref (d + 2), .ref (d + 3), .ref (d + 68), .ref (d + 77), .ref (d + 78), .int 0, .int 0, .ref (d + 79), .int 0, .int 0, .int 0, .ref (d + 80), .int 0, .int 0, .int 0, .int 0, .ref (d + 81), .ref (d + 82), .int (-1), .ref (d + 91), .int 0, .int 0, .ref (d + 92), .int 0, .ref (d + 93), .int 0, .ref (d + 94), .int 0, .ref (d + 95), .ref (d + 96), .ref (d + 97), .ref (d + 98), .int 0, .int 0, .ref (d + 99), .null, .null, .null, .null, .null, .ref (d + 148), .ref (d + 175), .ref (d + 176), .ref (d + 177), .int 0, .ref (d + 178), .ref (d + 179), .ref (d + 180), .ref (d + 185), .ref (d + 190), .ref (d + 191), .ref (d + 192), .ref (d + 193), .ref (d + 201), .ref (d + 209), .ref (d + 210), .ref (d + 211), .ref (d + 272), .ref (d + 273), .int 0, .ref (d + 274)])), (d + 81, .inl (aC 6, 12, .inr (.inr (.inr (.inr (zrefs (fun i => d + (7485 + 9 * i)) 12)))))), (a, .inr (13, [.int 0, .ref (a + 1 + 0), .ref (a + 1 + 1), .int 0, .int 0, .int 0, .ref (a + 1 + 2), .ref (a + 1 + 3), .ref (a + 1 + 4), .ref (a + 1 + 5), .int 0, .ref (a + 1 + 6), .int 0, .int 0, .ref (a + 1 + 7)]))] sz [.ref h0, .int x]) (va_Qi (fun (r : Int32) (_ : Unit) => r = -3) (fun _ zt => zt.heap.size = sz) (zN sz)) 0 0 (zN sz) := by
  refine Met.ofW (cc := cX16_roots) (maxL := 11) (ret := (some .int)) (by decide) rfl ?_
  intro p e s m args below meth c s₁ B hml hv
  generalize hQ : MQ below _ _ s _ _ _ = QQ
  obtain ⟨rfl, hsz, hP, hK, hD0⟩ := hv
  have hx := B.exec
  have hb := B.bytes
  have hr := B.returns
  have hts := atoms_spec (ws := w_X16_roots) B.pre
  have hall := fun (w : Cond) (h : w ∈ zAll) => hts w (List.mem_cons_of_mem _ h)
  have hown : s.vm.findClass RX16 = some m.cls := findClass_of_methodNamed B.named
  have hlocks := B.notSynchronized
  subst hsz
  have hA : ∀ q : Nat, s.heap.size ≤ q → zN s.heap.size q := fun q h => h
  have hS : va_S (zN s.heap.size) s.heap s.heap [] := va_S.rf
  have hD := hD0
  have hl := lv_entry ([.ref h0, .int x]) (n := 11) (Nat.le_of_ble_eq_true rfl)
  rw [lg_entry_eq]
  generalize (lg_sl ([.ref h0, .int x]) ++ List.replicate (11 - (lg_sl ([.ref h0, .int x])).length) Slot.unset).toArray = ls at hl ⊢
  have hl : lv_has ls 11 [(0, .ref h0), (1, .int x)] := hl
  refine lv_iload_n hx hb dX16_roots_0 rfl (lv_at hl 1 rfl) ?_
  refine zro_i hS hA (va_runS (As := [.int x]) (rest := []) ⟨hx, hb, hml, hown, hall⟩ (c_X16_isSlot l dC dI aC x s.heap.size) (va_cwS 1 hall (zgS zw_434 zw_436 zw_812 g_X16_isSlot) rfl rfl rfl (by decide +kernel) ⟨Nat.le_of_ble_eq_true rfl, Nat.le_of_ble_eq_true rfl⟩) (zPre_S (As := [.int x]) hK hP hD [] rfl (by decide +kernel)) rfl rfl hl.1 rfl (lv_room (Nat.le_of_ble_eq_true rfl)) dX16_roots_1 ⟨Nat.le_of_ble_eq_true rfl, Nat.le_of_ble_eq_true rfl⟩) (fun r60355 L60356 hw hS' => ?_)
  clear hS
  have hS := hS'
  clear hS'
  obtain rfl : r60355 = 1 := hw.trans (zisl_1 hxm)
  try clear hw
  refine lv_if_ne (tgt := 9) hx hb dX16_roots_4 (by decide) (fun _ => ?_) (fun c_4_b60357 => absurd c_4_b60357 (by decide))
  refine lv_aload_n hx hb dX16_roots_9 rfl (lv_at hl 0 rfl) ?_
  refine va_get (D := (dC, dI)) (ci := 15) (v := .ref (d + 81)) (C := RX16) (T := TX16) (N := 65) hx hb hall zx_16 hown hK.1 hP 0 rfl rfl 20 (by decide) (hall _ zw_336) (fun _ h9 => h9) rfl dX16_roots_10 ?_
  show W p l e _ s m _ below meth c _ _ _ _ QQ (F0 m 13 ls [.ref (d + 81)])
  refine lv_iload_n hx hb dX16_roots_13 rfl (lv_at hl 1 rfl) ?_
  refine zaldr hx hb hK.1 hP 1 6 rfl rfl (zok_in hxm) (zrefs_in (zok_in hxm)) dX16_roots_14 ?_
  rw [← ha]
  refine lv_astore_n (lv' := [(2, .ref a), (0, .ref h0), (1, .int x)]) hx hb dX16_roots_15 rfl hl (by decide) rfl (fun ls60358 hl' => ?_)
  clear hl
  have hl : lv_has ls60358 11 [(2, .ref a), (0, .ref h0), (1, .int x)] := hl'
  clear hl'
  refine lv_aload_n hx hb dX16_roots_16 rfl (lv_at hl 0 rfl) ?_
  refine zro_i hS hA (va_runS (As := [.ref a]) (rest := []) ⟨hx, hb, hml, hown, hall⟩ (c_X16_isPolynomial l dC dI aC a s.heap.size) (va_cwS 1 hall (zgS zw_451 zw_453 zw_812 g_X16_isPolynomial) rfl rfl rfl (by decide +kernel) ⟨Nat.le_of_ble_eq_true rfl, Nat.le_of_ble_eq_true rfl⟩) (zPre_S (As := [.ref a]) hK hP hD [2] rfl (by decide +kernel)) rfl rfl hl.1 rfl (lv_room (Nat.le_of_ble_eq_true rfl)) dX16_roots_17 ⟨Nat.le_of_ble_eq_true rfl, Nat.le_of_ble_eq_true rfl⟩) (fun r60359 L60360 hw hS' => ?_)
  clear hS
  have hS := hS'
  clear hS'
  obtain rfl : r60359 = 0 := hw
  try clear hw
  refine lv_if_eq (tgt := 41) hx hb dX16_roots_20 (by decide) (fun _ => ?_) (fun c_20_b60361 => absurd (by decide) c_20_b60361)
  show W p l e _ s m _ below meth c _ _ _ _ QQ (F0 m 41 ls60358 [])
  refine lv_bipush (v := (-3)) hx hb dX16_roots_41 (by decide) ?_
  rw [← hQ]
  exact W.iret (v := (-3)) hx hb hr (fun zt ht hW => ⟨⟨(-3), (), rfl, rfl, (show zt.heap.size = s.heap.size by rw [ht])⟩, hS.F ht⟩) hS.2.2 dX16_roots_43

set_option maxHeartbeats 4000000 in
set_option maxRecDepth 100000 in
theorem c_X16_solve_out (l : Launch) (dC : Nat → ClassId) (dI : Nat → Nat → Nat) (aC : Nat → ClassId) (h0 d : Nat) (x y : Int32) (sz : Nat) (hxm : ¬ zok x = true) : Met l yX16_solve w_X16_solve ({ frames := 2, cells := 0, slots := 0, locals := 44 }) (zPre (dC, dI) aC [(h0, .inr (15, [.ref (d + 0), .int 0, .ref (d + 1), .int 0, .ref (d + 2), .ref (d + 3), .ref (d + 68), .ref (d + 77), .ref (d + 78), .int 0, .int 0, .ref (d + 79), .int 0, .int 0, .int 0, .ref (d + 80), .int 0, .int 0, .int 0, .int 0, .ref (d + 81), .ref (d + 82), .int (-1), .ref (d + 91), .int 0, .int 0, .ref (d + 92), .int 0, .ref (d + 93), .int 0, .ref (d + 94), .int 0, .ref (d + 95), .ref (d + 96), .ref (d + 97), .ref (d + 98), .int 0, .int 0, .ref (d + 99), .null, .null, .null, .null, .null, .ref (d + 148), .ref (d + 175), .ref (d + 176), .ref (d + 177), .int 0, .ref (d + 178), .ref (d + 179), .ref (d + 180), .ref (d + 185), .ref (d + 190), .ref (d + 191), .ref (d + 192), .ref (d + 193), .ref (d + 201), .ref (d + 209), .ref (d + 210), .ref (d + 211), .ref (d + 272), .ref (d + 273), .int 0, .ref (d + 274)])), (d + 81, .inl (aC 6, 12, .inr (.inr (.inr (.inr (zrefs (fun i => d + (7485 + 9 * i)) 12))))))] sz [.ref h0, .int x, .int y]) (va_Qi (fun (r : Int32) (_ : Unit) => r = -1) (fun _ zt => zt.heap.size = sz) (zN sz)) 0 0 (zN sz) := by
  refine Met.ofW (cc := cX16_solve) (maxL := 9) (ret := (some .int)) (by decide) rfl ?_
  intro p e s m args below meth c s₁ B hml hv
  generalize hQ : MQ below _ _ s _ _ _ = QQ
  obtain ⟨rfl, hsz, hP, hK, hD0⟩ := hv
  have hx := B.exec
  have hb := B.bytes
  have hr := B.returns
  have hts := atoms_spec (ws := w_X16_solve) B.pre
  have hall := fun (w : Cond) (h : w ∈ zAll) => hts w (List.mem_cons_of_mem _ h)
  have hown : s.vm.findClass RX16 = some m.cls := findClass_of_methodNamed B.named
  have hlocks := B.notSynchronized
  subst hsz
  have hA : ∀ q : Nat, s.heap.size ≤ q → zN s.heap.size q := fun q h => h
  have hS : va_S (zN s.heap.size) s.heap s.heap [] := va_S.rf
  have hD := hD0
  have hl := lv_entry ([.ref h0, .int x, .int y]) (n := 9) (Nat.le_of_ble_eq_true rfl)
  rw [lg_entry_eq]
  generalize (lg_sl ([.ref h0, .int x, .int y]) ++ List.replicate (9 - (lg_sl ([.ref h0, .int x, .int y])).length) Slot.unset).toArray = ls at hl ⊢
  have hl : lv_has ls 9 [(0, .ref h0), (1, .int x), (2, .int y)] := hl
  refine lv_iload_n hx hb dX16_solve_0 rfl (lv_at hl 1 rfl) ?_
  refine zro_i hS hA (va_runS (As := [.int x]) (rest := []) ⟨hx, hb, hml, hown, hall⟩ (c_X16_isSlot l dC dI aC x s.heap.size) (va_cwS 1 hall (zgS zw_434 zw_436 zw_812 g_X16_isSlot) rfl rfl rfl (by decide +kernel) ⟨Nat.le_of_ble_eq_true rfl, Nat.le_of_ble_eq_true rfl⟩) (zPre_S (As := [.int x]) hK hP hD [] rfl (by decide +kernel)) rfl rfl hl.1 rfl (lv_room (Nat.le_of_ble_eq_true rfl)) dX16_solve_1 ⟨Nat.le_of_ble_eq_true rfl, Nat.le_of_ble_eq_true rfl⟩) (fun r60362 L60363 hw hS' => ?_)
  clear hS
  have hS := hS'
  clear hS'
  obtain rfl : r60362 = 0 := hw.trans (zisl_0 hxm)
  try clear hw
  refine lv_if_eq (tgt := 14) hx hb dX16_solve_4 (by decide) (fun _ => ?_) (fun c_4_b60364 => absurd (by decide) c_4_b60364)
  refine lv_iconst (v := (-1)) hx hb dX16_solve_14 (by decide) ?_
  rw [← hQ]
  exact W.iret (v := (-1)) hx hb hr (fun zt ht hW => ⟨⟨(-1), (), rfl, rfl, (show zt.heap.size = s.heap.size by rw [ht])⟩, hS.F ht⟩) hS.2.2 dX16_solve_15

set_option maxHeartbeats 4000000 in
set_option maxRecDepth 100000 in
theorem c_X16_solve_in (l : Launch) (dC : Nat → ClassId) (dI : Nat → Nat → Nat) (aC : Nat → ClassId) (h0 d a : Nat) (x y : Int32) (sz : Nat) (hxm : zok x = true) (ha : a = d + (7485 + 9 * x.toNatClampNeg)) : Met l yX16_solve w_X16_solve ({ frames := 2, cells := 0, slots := 0, locals := 44 }) (zPre (dC, dI) aC [(h0, .inr (15, [.ref (d + 0), .int 0, .ref (d + 1), .int 0, .ref (d + 2), .ref (d + 3), .ref (d + 68), .ref (d + 77), .ref (d + 78), .int 0, .int 0, .ref (d + 79), .int 0, .int 0, .int 0, .ref (d + 80), .int 0, .int 0, .int 0, .int 0, .ref (d + 81), .ref (d + 82), .int (-1), .ref (d + 91), .int 0, .int 0, .ref (d + 92), .int 0, .ref (d + 93), .int 0, .ref (d + 94), .int 0, .ref (d + 95), .ref (d + 96), .ref (d + 97), .ref (d + 98), .int 0, .int 0, .ref (d + 99), .null, .null, .null, .null, .null, .ref (d + 148), .ref (d + 175), .ref (d + 176), .ref (d + 177), .int 0, .ref (d + 178), .ref (d + 179), .ref (d + 180), .ref (d + 185), .ref (d + 190), .ref (d + 191), .ref (d + 192), .ref (d + 193), .ref (d + 201), .ref (d + 209), .ref (d + 210), .ref (d + 211), .ref (d + 272), .ref (d + 273), .int 0, .ref (d + 274)])), (d + 81, .inl (aC 6, 12, .inr (.inr (.inr (.inr (zrefs (fun i => d + (7485 + 9 * i)) 12)))))), (a, .inr (13, [.int 0, .ref (a + 1 + 0), .ref (a + 1 + 1), .int 0, .int 0, .int 0, .ref (a + 1 + 2), .ref (a + 1 + 3), .ref (a + 1 + 4), .ref (a + 1 + 5), .int 0, .ref (a + 1 + 6), .int 0, .int 0, .ref (a + 1 + 7)]))] sz [.ref h0, .int x, .int y]) (va_Qi (fun (r : Int32) (_ : Unit) => r = zface1 y (-3) (-1)) (fun _ zt => zt.heap.size = sz) (zN sz)) 0 0 (zN sz) := by
  refine Met.ofW (cc := cX16_solve) (maxL := 9) (ret := (some .int)) (by decide) rfl ?_
  intro p e s m args below meth c s₁ B hml hv
  generalize hQ : MQ below _ _ s _ _ _ = QQ
  obtain ⟨rfl, hsz, hP, hK, hD0⟩ := hv
  have hx := B.exec
  have hb := B.bytes
  have hr := B.returns
  have hts := atoms_spec (ws := w_X16_solve) B.pre
  have hall := fun (w : Cond) (h : w ∈ zAll) => hts w (List.mem_cons_of_mem _ h)
  have hown : s.vm.findClass RX16 = some m.cls := findClass_of_methodNamed B.named
  have hlocks := B.notSynchronized
  subst hsz
  have hA : ∀ q : Nat, s.heap.size ≤ q → zN s.heap.size q := fun q h => h
  have hS : va_S (zN s.heap.size) s.heap s.heap [] := va_S.rf
  have hD := hD0
  have hl := lv_entry ([.ref h0, .int x, .int y]) (n := 9) (Nat.le_of_ble_eq_true rfl)
  rw [lg_entry_eq]
  generalize (lg_sl ([.ref h0, .int x, .int y]) ++ List.replicate (9 - (lg_sl ([.ref h0, .int x, .int y])).length) Slot.unset).toArray = ls at hl ⊢
  have hl : lv_has ls 9 [(0, .ref h0), (1, .int x), (2, .int y)] := hl
  refine lv_iload_n hx hb dX16_solve_0 rfl (lv_at hl 1 rfl) ?_
  refine zro_i hS hA (va_runS (As := [.int x]) (rest := []) ⟨hx, hb, hml, hown, hall⟩ (c_X16_isSlot l dC dI aC x s.heap.size) (va_cwS 1 hall (zgS zw_434 zw_436 zw_812 g_X16_isSlot) rfl rfl rfl (by decide +kernel) ⟨Nat.le_of_ble_eq_true rfl, Nat.le_of_ble_eq_true rfl⟩) (zPre_S (As := [.int x]) hK hP hD [] rfl (by decide +kernel)) rfl rfl hl.1 rfl (lv_room (Nat.le_of_ble_eq_true rfl)) dX16_solve_1 ⟨Nat.le_of_ble_eq_true rfl, Nat.le_of_ble_eq_true rfl⟩) (fun r60365 L60366 hw hS' => ?_)
  clear hS
  have hS := hS'
  clear hS'
  obtain rfl : r60365 = 1 := hw.trans (zisl_1 hxm)
  try clear hw
  refine lv_if_eq (tgt := 14) hx hb dX16_solve_4 (by decide) (fun c_4_b60367 => absurd c_4_b60367 (by decide)) (fun _ => ?_)
  refine lv_iload_n hx hb dX16_solve_7 rfl (lv_at hl 2 rfl) ?_
  refine zro_i hS hA (va_runS (As := [.int y]) (rest := []) ⟨hx, hb, hml, hown, hall⟩ (c_X16_isSlot l dC dI aC y s.heap.size) (va_cwS 1 hall (zgS zw_434 zw_436 zw_812 g_X16_isSlot) rfl rfl rfl (by decide +kernel) ⟨Nat.le_of_ble_eq_true rfl, Nat.le_of_ble_eq_true rfl⟩) (zPre_S (As := [.int y]) hK hP hD [] rfl (by decide +kernel)) rfl rfl hl.1 rfl (lv_room (Nat.le_of_ble_eq_true rfl)) dX16_solve_8 ⟨Nat.le_of_ble_eq_true rfl, Nat.le_of_ble_eq_true rfl⟩) (fun r60368 L60369 hw hS' => ?_)
  clear hS
  have hS := hS'
  clear hS'
  by_cases z60370 : zok y = true
  · obtain rfl : r60368 = 1 := hw.trans (zisl_1 z60370)
    try clear hw
    show W p l e _ s m _ below meth c _ _ _ _ QQ (F0 m 11 ls [.int 1])
    refine lv_if_ne (tgt := 16) hx hb dX16_solve_11 (by decide) (fun _ => ?_) (fun c_11_b60371 => absurd c_11_b60371 (by decide))
    refine lv_aload_n hx hb dX16_solve_16 rfl (lv_at hl 0 rfl) ?_
    refine va_get (D := (dC, dI)) (ci := 15) (v := .ref (d + 81)) (C := RX16) (T := TX16) (N := 65) hx hb hall zx_16 hown hK.1 hP 0 rfl rfl 20 (by decide) (hall _ zw_336) (fun _ h9 => h9) rfl dX16_solve_17 ?_
    refine lv_iload_n hx hb dX16_solve_20 rfl (lv_at hl 1 rfl) ?_
    refine zaldr hx hb hK.1 hP 1 6 rfl rfl (zok_in hxm) (zrefs_in (zok_in hxm)) dX16_solve_21 ?_
    rw [← ha]
    show W p l e _ s m _ below meth c _ _ _ _ QQ (F0 m 22 ls [.ref a])
    refine lv_astore_n (lv' := [(3, .ref a), (0, .ref h0), (1, .int x), (2, .int y)]) hx hb dX16_solve_22 rfl hl (by decide) rfl (fun ls60372 hl' => ?_)
    clear hl
    have hl : lv_has ls60372 9 [(3, .ref a), (0, .ref h0), (1, .int x), (2, .int y)] := hl'
    clear hl'
    refine lv_aload_n hx hb dX16_solve_23 rfl (lv_at hl 0 rfl) ?_
    refine va_get (D := (dC, dI)) (ci := 13) (v := .int 0) (C := RX14) (T := TX14) (N := 15) hx hb hall zx_14 hown hK.1 hP 2 rfl rfl 0 (by decide) (hall _ zw_402) (fun _ h9 => h9) rfl dX16_solve_24 ?_
    refine lv_iconst (v := 3) hx hb dX16_solve_27 (by decide) ?_
    refine lv_icmp_eq (tgt := 42) hx hb dX16_solve_28 (by decide) (fun c_28_b60373 => absurd c_28_b60373 (by decide)) (fun _ => ?_)
    show W p l e _ s m _ below meth c _ _ _ _ QQ (F0 m 31 ls60372 [])
    refine lv_aload_n hx hb dX16_solve_31 rfl (lv_at hl 0 rfl) ?_
    refine va_get (D := (dC, dI)) (ci := 13) (v := .int 0) (C := RX14) (T := TX14) (N := 15) hx hb hall zx_14 hown hK.1 hP 2 rfl rfl 0 (by decide) (hall _ zw_402) (fun _ h9 => h9) rfl dX16_solve_32 ?_
    refine lv_iconst (v := 4) hx hb dX16_solve_35 (by decide) ?_
    refine lv_icmp_eq (tgt := 42) hx hb dX16_solve_36 (by decide) (fun c_36_b60374 => absurd c_36_b60374 (by decide)) (fun _ => ?_)
    refine lv_bipush (v := (-3)) hx hb dX16_solve_39 (by decide) ?_
    rw [← hQ]
    exact W.iret (v := (-3)) hx hb hr (fun zt ht hW => ⟨⟨(-3), (), rfl, by simp [zface1, z60370], (show zt.heap.size = s.heap.size by rw [ht])⟩, hS.F ht⟩) hS.2.2 dX16_solve_41
  · obtain rfl : r60368 = 0 := hw.trans (zisl_0 z60370)
    try clear hw
    show W p l e _ s m _ below meth c _ _ _ _ QQ (F0 m 11 ls [.int 0])
    refine lv_if_ne (tgt := 16) hx hb dX16_solve_11 (by decide) (fun c_11_b60375 => absurd (by decide) c_11_b60375) (fun _ => ?_)
    refine lv_iconst (v := (-1)) hx hb dX16_solve_14 (by decide) ?_
    rw [← hQ]
    exact W.iret (v := (-1)) hx hb hr (fun zt ht hW => ⟨⟨(-1), (), rfl, by simp [zface1, z60370], (show zt.heap.size = s.heap.size by rw [ht])⟩, hS.F ht⟩) hS.2.2 dX16_solve_15
