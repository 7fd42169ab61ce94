theorem dX11_slotAt_0 : decode cX11_slotAt 0 = .ok (.iload_n 1, 1) := by decide +kernel
theorem dX11_slotAt_1 : decode cX11_slotAt 1 = .ok (.ifCond .lt 18, 3) := by decide +kernel
theorem dX11_slotAt_19 : decode cX11_slotAt 19 = .ok (.aconst_null, 1) := by decide +kernel
theorem dX11_slotAt_20 : decode cX11_slotAt 20 = .ok (.areturn, 1) := by decide +kernel
theorem dX11_slotAt_4 : decode cX11_slotAt 4 = .ok (.iload_n 1, 1) := by decide +kernel
theorem dX11_slotAt_5 : decode cX11_slotAt 5 = .ok (.bipush 12, 2) := by decide +kernel
theorem dX11_slotAt_7 : decode cX11_slotAt 7 = .ok (.if_icmp .ge 12, 3) := by decide +kernel
theorem dX11_slotAt_10 : decode cX11_slotAt 10 = .ok (.aload_n 0, 1) := by decide +kernel
theorem dX11_slotAt_11 : decode cX11_slotAt 11 = .ok (.getfield 11, 3) := by decide +kernel
theorem dX11_slotAt_14 : decode cX11_slotAt 14 = .ok (.iload_n 1, 1) := by decide +kernel
theorem dX11_slotAt_15 : decode cX11_slotAt 15 = .ok (.aaload, 1) := by decide +kernel
theorem dX11_slotAt_16 : decode cX11_slotAt 16 = .ok (.goto 4, 3) := by decide +kernel
theorem dX11_isRatioOrTerm_0 : decode cX11_isRatioOrTerm 0 = .ok (.aload_n 0, 1) := by decide +kernel
theorem dX11_isRatioOrTerm_1 : decode cX11_isRatioOrTerm 1 = .ok (.getfield 191, 3) := by decide +kernel
theorem dX11_isRatioOrTerm_4 : decode cX11_isRatioOrTerm 4 = .ok (.iconst 1, 1) := by decide +kernel
theorem dX11_isRatioOrTerm_5 : decode cX11_isRatioOrTerm 5 = .ok (.if_icmp .eq 11, 3) := by decide +kernel
theorem dX11_isRatioOrTerm_8 : decode cX11_isRatioOrTerm 8 = .ok (.aload_n 0, 1) := by decide +kernel
theorem dX11_isRatioOrTerm_9 : decode cX11_isRatioOrTerm 9 = .ok (.getfield 191, 3) := by decide +kernel
theorem dX11_isRatioOrTerm_12 : decode cX11_isRatioOrTerm 12 = .ok (.iconst 2, 1) := by decide +kernel
theorem dX11_isRatioOrTerm_13 : decode cX11_isRatioOrTerm 13 = .ok (.if_icmp .ne 7, 3) := by decide +kernel
theorem dX11_isRatioOrTerm_20 : decode cX11_isRatioOrTerm 20 = .ok (.iconst 0, 1) := by decide +kernel
theorem dX11_isRatioOrTerm_21 : decode cX11_isRatioOrTerm 21 = .ok (.ireturn, 1) := by decide +kernel
theorem dX11_isPolynomial_0 : decode cX11_isPolynomial 0 = .ok (.aload_n 0, 1) := by decide +kernel
theorem dX11_isPolynomial_1 : decode cX11_isPolynomial 1 = .ok (.getfield 191, 3) := by decide +kernel
theorem dX11_isPolynomial_4 : decode cX11_isPolynomial 4 = .ok (.iconst 1, 1) := by decide +kernel
theorem dX11_isPolynomial_5 : decode cX11_isPolynomial 5 = .ok (.if_icmp .ne 14, 3) := by decide +kernel
theorem dX11_isPolynomial_19 : decode cX11_isPolynomial 19 = .ok (.iconst 0, 1) := by decide +kernel
theorem dX11_isPolynomial_20 : decode cX11_isPolynomial 20 = .ok (.ireturn, 1) := by decide +kernel
theorem dX11_isFactor_0 : decode cX11_isFactor 0 = .ok (.aload_n 0, 1) := by decide +kernel
theorem dX11_isFactor_1 : decode cX11_isFactor 1 = .ok (.invokestatic 234, 3) := by decide +kernel
theorem dX11_isFactor_4 : decode cX11_isFactor 4 = .ok (.ifCond .eq 21, 3) := by decide +kernel
theorem dX11_isFactor_25 : decode cX11_isFactor 25 = .ok (.iconst 0, 1) := by decide +kernel
theorem dX11_isFactor_26 : decode cX11_isFactor 26 = .ok (.ireturn, 1) := by decide +kernel
theorem dX11_write_0 : decode cX11_write 0 = .ok (.aload_n 0, 1) := by decide +kernel
theorem dX11_write_1 : decode cX11_write 1 = .ok (.iload_n 1, 1) := by decide +kernel
theorem dX11_write_2 : decode cX11_write 2 = .ok (.invokevirtual 107, 3) := by decide +kernel
theorem dX11_write_5 : decode cX11_write 5 = .ok (.astore_n 2, 1) := by decide +kernel
theorem dX11_write_6 : decode cX11_write 6 = .ok (.aload_n 2, 1) := by decide +kernel
theorem dX11_write_7 : decode cX11_write 7 = .ok (.ifnonnull 5, 3) := by decide +kernel
theorem dX11_write_10 : decode cX11_write 10 = .ok (.iconst (-1), 1) := by decide +kernel
theorem dX11_write_11 : decode cX11_write 11 = .ok (.ireturn, 1) := by decide +kernel
theorem dX11_write_12 : decode cX11_write 12 = .ok (.aload_n 2, 1) := by decide +kernel
theorem dX11_write_13 : decode cX11_write 13 = .ok (.invokestatic 177, 3) := by decide +kernel
theorem dX11_write_16 : decode cX11_write 16 = .ok (.ifCond .eq 14, 3) := by decide +kernel
theorem dX11_write_30 : decode cX11_write 30 = .ok (.bipush (-3), 2) := by decide +kernel
theorem dX11_write_32 : decode cX11_write 32 = .ok (.ireturn, 1) := by decide +kernel
theorem dX11_kind_0 : decode cX11_kind 0 = .ok (.aload_n 0, 1) := by decide +kernel
theorem dX11_kind_1 : decode cX11_kind 1 = .ok (.iload_n 1, 1) := by decide +kernel
theorem dX11_kind_2 : decode cX11_kind 2 = .ok (.invokevirtual 107, 3) := by decide +kernel
theorem dX11_kind_5 : decode cX11_kind 5 = .ok (.astore_n 2, 1) := by decide +kernel
theorem dX11_kind_6 : decode cX11_kind 6 = .ok (.aload_n 2, 1) := by decide +kernel
theorem dX11_kind_7 : decode cX11_kind 7 = .ok (.ifnonnull 7, 3) := by decide +kernel
theorem dX11_kind_10 : decode cX11_kind 10 = .ok (.iconst (-1), 1) := by decide +kernel
theorem dX11_kind_11 : decode cX11_kind 11 = .ok (.goto 7, 3) := by decide +kernel
theorem dX11_kind_18 : decode cX11_kind 18 = .ok (.ireturn, 1) := by decide +kernel
theorem dX11_kind_14 : decode cX11_kind 14 = .ok (.aload_n 2, 1) := by decide +kernel
theorem dX11_kind_15 : decode cX11_kind 15 = .ok (.getfield 191, 3) := by decide +kernel
theorem dX11_degree_0 : decode cX11_degree 0 = .ok (.aload_n 0, 1) := by decide +kernel
theorem dX11_degree_1 : decode cX11_degree 1 = .ok (.iload_n 1, 1) := by decide +kernel
theorem dX11_degree_2 : decode cX11_degree 2 = .ok (.invokevirtual 107, 3) := by decide +kernel
theorem dX11_degree_5 : decode cX11_degree 5 = .ok (.astore 4, 2) := by decide +kernel
theorem dX11_degree_7 : decode cX11_degree 7 = .ok (.aload 4, 2) := by decide +kernel
theorem dX11_degree_9 : decode cX11_degree 9 = .ok (.ifnonnull 5, 3) := by decide +kernel
theorem dX11_degree_12 : decode cX11_degree 12 = .ok (.iconst (-1), 1) := by decide +kernel
theorem dX11_degree_13 : decode cX11_degree 13 = .ok (.ireturn, 1) := by decide +kernel
theorem dX11_degree_14 : decode cX11_degree 14 = .ok (.aload 4, 2) := by decide +kernel
theorem dX11_degree_16 : decode cX11_degree 16 = .ok (.getfield 191, 3) := by decide +kernel
theorem dX11_degree_19 : decode cX11_degree 19 = .ok (.iconst 1, 1) := by decide +kernel
theorem dX11_degree_20 : decode cX11_degree 20 = .ok (.if_icmp .eq 24, 3) := by decide +kernel
theorem dX11_degree_23 : decode cX11_degree 23 = .ok (.aload 4, 2) := by decide +kernel
theorem dX11_degree_25 : decode cX11_degree 25 = .ok (.getfield 191, 3) := by decide +kernel
theorem dX11_degree_28 : decode cX11_degree 28 = .ok (.iconst 2, 1) := by decide +kernel
theorem dX11_degree_29 : decode cX11_degree 29 = .ok (.if_icmp .eq 15, 3) := by decide +kernel
theorem dX11_degree_32 : decode cX11_degree 32 = .ok (.aload 4, 2) := by decide +kernel
theorem dX11_degree_34 : decode cX11_degree 34 = .ok (.getfield 191, 3) := by decide +kernel
theorem dX11_degree_37 : decode cX11_degree 37 = .ok (.iconst 3, 1) := by decide +kernel
theorem dX11_degree_38 : decode cX11_degree 38 = .ok (.if_icmp .eq 6, 3) := by decide +kernel
theorem dX11_degree_41 : decode cX11_degree 41 = .ok (.bipush (-3), 2) := by decide +kernel
theorem dX11_degree_43 : decode cX11_degree 43 = .ok (.ireturn, 1) := by decide +kernel
theorem dX11_number_0 : decode cX11_number 0 = .ok (.aload_n 0, 1) := by decide +kernel
theorem dX11_number_1 : decode cX11_number 1 = .ok (.iload_n 1, 1) := by decide +kernel
theorem dX11_number_2 : decode cX11_number 2 = .ok (.invokevirtual 107, 3) := by decide +kernel
theorem dX11_number_5 : decode cX11_number 5 = .ok (.astore 5, 2) := by decide +kernel
theorem dX11_number_7 : decode cX11_number 7 = .ok (.aload 5, 2) := by decide +kernel
theorem dX11_number_9 : decode cX11_number 9 = .ok (.ifnonnull 5, 3) := by decide +kernel
theorem dX11_number_12 : decode cX11_number 12 = .ok (.iconst (-1), 1) := by decide +kernel
theorem dX11_number_13 : decode cX11_number 13 = .ok (.ireturn, 1) := by decide +kernel
theorem dX11_number_14 : decode cX11_number 14 = .ok (.aload 5, 2) := by decide +kernel
theorem dX11_number_16 : decode cX11_number 16 = .ok (.getfield 191, 3) := by decide +kernel
theorem dX11_number_19 : decode cX11_number 19 = .ok (.ifCond .ne 6, 3) := by decide +kernel
theorem dX11_number_22 : decode cX11_number 22 = .ok (.bipush (-3), 2) := by decide +kernel
theorem dX11_number_24 : decode cX11_number 24 = .ok (.ireturn, 1) := by decide +kernel
theorem dX11_told_0 : decode cX11_told 0 = .ok (.aload_n 0, 1) := by decide +kernel
theorem dX11_told_1 : decode cX11_told 1 = .ok (.iload_n 1, 1) := by decide +kernel
theorem dX11_told_2 : decode cX11_told 2 = .ok (.invokevirtual 107, 3) := by decide +kernel
theorem dX11_told_5 : decode cX11_told 5 = .ok (.astore_n 3, 1) := by decide +kernel
theorem dX11_told_6 : decode cX11_told 6 = .ok (.aload_n 3, 1) := by decide +kernel
theorem dX11_told_7 : decode cX11_told 7 = .ok (.ifnull 12, 3) := by decide +kernel
theorem dX11_told_19 : decode cX11_told 19 = .ok (.iconst (-1), 1) := by decide +kernel
theorem dX11_told_20 : decode cX11_told 20 = .ok (.ireturn, 1) := by decide +kernel
theorem dX11_told_10 : decode cX11_told 10 = .ok (.iload_n 2, 1) := by decide +kernel
theorem dX11_told_11 : decode cX11_told 11 = .ok (.ifCond .lt 8, 3) := by decide +kernel
theorem dX11_told_14 : decode cX11_told 14 = .ok (.iload_n 2, 1) := by decide +kernel
theorem dX11_told_15 : decode cX11_told 15 = .ok (.iconst 4, 1) := by decide +kernel
theorem dX11_told_16 : decode cX11_told 16 = .ok (.if_icmp .le 5, 3) := by decide +kernel
theorem dX11_told_21 : decode cX11_told 21 = .ok (.iload_n 2, 1) := by decide +kernel
theorem dX11_told_22 : decode cX11_told 22 = .ok (.iconst 2, 1) := by decide +kernel
theorem dX11_told_23 : decode cX11_told 23 = .ok (.if_icmp .gt 44, 3) := by decide +kernel
theorem dX11_told_67 : decode cX11_told 67 = .ok (.iload_n 2, 1) := by decide +kernel
theorem dX11_told_68 : decode cX11_told 68 = .ok (.iconst 3, 1) := by decide +kernel
theorem dX11_told_69 : decode cX11_told 69 = .ok (.if_icmp .ne 29, 3) := by decide +kernel
theorem dX11_told_98 : decode cX11_told 98 = .ok (.aload_n 3, 1) := by decide +kernel
theorem dX11_told_99 : decode cX11_told 99 = .ok (.getfield 191, 3) := by decide +kernel
theorem dX11_told_102 : decode cX11_told 102 = .ok (.iconst 4, 1) := by decide +kernel
theorem dX11_told_103 : decode cX11_told 103 = .ok (.if_icmp .ne 10, 3) := by decide +kernel
theorem dX11_told_113 : decode cX11_told 113 = .ok (.bipush (-3), 2) := by decide +kernel
theorem dX11_told_115 : decode cX11_told 115 = .ok (.ireturn, 1) := by decide +kernel
theorem dX11_told_72 : decode cX11_told 72 = .ok (.aload_n 3, 1) := by decide +kernel
theorem dX11_told_73 : decode cX11_told 73 = .ok (.getfield 191, 3) := by decide +kernel
theorem dX11_told_76 : decode cX11_told 76 = .ok (.iconst 3, 1) := by decide +kernel
theorem dX11_told_77 : decode cX11_told 77 = .ok (.if_icmp .eq 11, 3) := by decide +kernel
theorem dX11_told_80 : decode cX11_told 80 = .ok (.aload_n 3, 1) := by decide +kernel
theorem dX11_told_81 : decode cX11_told 81 = .ok (.getfield 191, 3) := by decide +kernel
theorem dX11_told_84 : decode cX11_told 84 = .ok (.iconst 4, 1) := by decide +kernel
theorem dX11_told_85 : decode cX11_told 85 = .ok (.if_icmp .ne 10, 3) := by decide +kernel
theorem dX11_told_95 : decode cX11_told 95 = .ok (.bipush (-3), 2) := by decide +kernel
theorem dX11_told_97 : decode cX11_told 97 = .ok (.ireturn, 1) := by decide +kernel
theorem dX11_told_26 : decode cX11_told 26 = .ok (.aload_n 3, 1) := by decide +kernel
theorem dX11_told_27 : decode cX11_told 27 = .ok (.getfield 191, 3) := by decide +kernel
theorem dX11_told_30 : decode cX11_told 30 = .ok (.iconst 2, 1) := by decide +kernel
theorem dX11_told_31 : decode cX11_told 31 = .ok (.if_icmp .eq 8, 3) := by decide +kernel
theorem dX11_told_34 : decode cX11_told 34 = .ok (.bipush (-3), 2) := by decide +kernel
theorem dX11_told_36 : decode cX11_told 36 = .ok (.goto 30, 3) := by decide +kernel
theorem dX11_told_66 : decode cX11_told 66 = .ok (.ireturn, 1) := by decide +kernel
theorem dX11_factorial_0 : decode cX11_factorial 0 = .ok (.aload_n 0, 1) := by decide +kernel
theorem dX11_factorial_1 : decode cX11_factorial 1 = .ok (.iload_n 1, 1) := by decide +kernel
theorem dX11_factorial_2 : decode cX11_factorial 2 = .ok (.invokevirtual 107, 3) := by decide +kernel
theorem dX11_factorial_5 : decode cX11_factorial 5 = .ok (.astore 4, 2) := by decide +kernel
theorem dX11_factorial_7 : decode cX11_factorial 7 = .ok (.aload 4, 2) := by decide +kernel
theorem dX11_factorial_9 : decode cX11_factorial 9 = .ok (.ifnonnull 5, 3) := by decide +kernel
theorem dX11_factorial_12 : decode cX11_factorial 12 = .ok (.iconst (-1), 1) := by decide +kernel
theorem dX11_factorial_13 : decode cX11_factorial 13 = .ok (.ireturn, 1) := by decide +kernel
theorem dX11_factorial_14 : decode cX11_factorial 14 = .ok (.aload 4, 2) := by decide +kernel
theorem dX11_factorial_16 : decode cX11_factorial 16 = .ok (.getfield 191, 3) := by decide +kernel
theorem dX11_factorial_19 : decode cX11_factorial 19 = .ok (.iconst 2, 1) := by decide +kernel
theorem dX11_factorial_20 : decode cX11_factorial 20 = .ok (.if_icmp .ne 25, 3) := by decide +kernel
theorem dX11_factorial_45 : decode cX11_factorial 45 = .ok (.iconst 0, 1) := by decide +kernel
theorem dX11_factorial_46 : decode cX11_factorial 46 = .ok (.ireturn, 1) := by decide +kernel
theorem dX11_work_0 : decode cX11_work 0 = .ok (.aload_n 0, 1) := by decide +kernel
theorem dX11_work_1 : decode cX11_work 1 = .ok (.iload_n 2, 1) := by decide +kernel
theorem dX11_work_2 : decode cX11_work 2 = .ok (.invokevirtual 107, 3) := by decide +kernel
theorem dX11_work_5 : decode cX11_work 5 = .ok (.astore 5, 2) := by decide +kernel
theorem dX11_work_7 : decode cX11_work 7 = .ok (.aload_n 0, 1) := by decide +kernel
theorem dX11_work_8 : decode cX11_work 8 = .ok (.iload_n 3, 1) := by decide +kernel
theorem dX11_work_9 : decode cX11_work 9 = .ok (.invokevirtual 107, 3) := by decide +kernel
theorem dX11_work_12 : decode cX11_work 12 = .ok (.astore 6, 2) := by decide +kernel
theorem dX11_work_14 : decode cX11_work 14 = .ok (.aload_n 0, 1) := by decide +kernel
theorem dX11_work_15 : decode cX11_work 15 = .ok (.iload 4, 2) := by decide +kernel
theorem dX11_work_17 : decode cX11_work 17 = .ok (.invokevirtual 107, 3) := by decide +kernel
theorem dX11_work_20 : decode cX11_work 20 = .ok (.astore 7, 2) := by decide +kernel
theorem dX11_work_22 : decode cX11_work 22 = .ok (.aload 5, 2) := by decide +kernel
theorem dX11_work_24 : decode cX11_work 24 = .ok (.ifnull 13, 3) := by decide +kernel
theorem dX11_work_37 : decode cX11_work 37 = .ok (.iconst (-1), 1) := by decide +kernel
theorem dX11_work_38 : decode cX11_work 38 = .ok (.ireturn, 1) := by decide +kernel
theorem dX11_work_27 : decode cX11_work 27 = .ok (.aload 6, 2) := by decide +kernel
theorem dX11_work_29 : decode cX11_work 29 = .ok (.ifnull 8, 3) := by decide +kernel
theorem dX11_work_32 : decode cX11_work 32 = .ok (.aload 7, 2) := by decide +kernel
theorem dX11_work_34 : decode cX11_work 34 = .ok (.ifnonnull 5, 3) := by decide +kernel
theorem dX11_work_39 : decode cX11_work 39 = .ok (.aload 5, 2) := by decide +kernel
theorem dX11_work_41 : decode cX11_work 41 = .ok (.invokestatic 177, 3) := by decide +kernel
theorem dX11_work_44 : decode cX11_work 44 = .ok (.ifCond .eq 11, 3) := by decide +kernel
theorem dX11_work_55 : decode cX11_work 55 = .ok (.bipush (-3), 2) := by decide +kernel
theorem dX11_work_57 : decode cX11_work 57 = .ok (.ireturn, 1) := by decide +kernel
theorem dX11_value_0 : decode cX11_value 0 = .ok (.aload_n 0, 1) := by decide +kernel
theorem dX11_value_1 : decode cX11_value 1 = .ok (.iload_n 1, 1) := by decide +kernel
theorem dX11_value_2 : decode cX11_value 2 = .ok (.invokevirtual 107, 3) := by decide +kernel
theorem dX11_value_5 : decode cX11_value 5 = .ok (.astore 4, 2) := by decide +kernel
theorem dX11_value_7 : decode cX11_value 7 = .ok (.aload 4, 2) := by decide +kernel
theorem dX11_value_9 : decode cX11_value 9 = .ok (.ifnonnull 5, 3) := by decide +kernel
theorem dX11_value_12 : decode cX11_value 12 = .ok (.iconst (-1), 1) := by decide +kernel
theorem dX11_value_13 : decode cX11_value 13 = .ok (.ireturn, 1) := by decide +kernel
theorem dX11_value_14 : decode cX11_value 14 = .ok (.aload 4, 2) := by decide +kernel
theorem dX11_value_16 : decode cX11_value 16 = .ok (.invokestatic 177, 3) := by decide +kernel
theorem dX11_value_19 : decode cX11_value 19 = .ok (.ifCond .eq 17, 3) := by decide +kernel
theorem dX11_value_36 : decode cX11_value 36 = .ok (.bipush (-3), 2) := by decide +kernel
theorem dX11_value_38 : decode cX11_value 38 = .ok (.ireturn, 1) := by decide +kernel
theorem dX11_sum_0 : decode cX11_sum 0 = .ok (.aload_n 0, 1) := by decide +kernel
theorem dX11_sum_1 : decode cX11_sum 1 = .ok (.iload_n 1, 1) := by decide +kernel
theorem dX11_sum_2 : decode cX11_sum 2 = .ok (.invokevirtual 107, 3) := by decide +kernel
theorem dX11_sum_5 : decode cX11_sum 5 = .ok (.astore 5, 2) := by decide +kernel
theorem dX11_sum_7 : decode cX11_sum 7 = .ok (.aload 5, 2) := by decide +kernel
theorem dX11_sum_9 : decode cX11_sum 9 = .ok (.ifnonnull 5, 3) := by decide +kernel
theorem dX11_sum_12 : decode cX11_sum 12 = .ok (.iconst (-1), 1) := by decide +kernel
theorem dX11_sum_13 : decode cX11_sum 13 = .ok (.ireturn, 1) := by decide +kernel
theorem dX11_sum_14 : decode cX11_sum 14 = .ok (.aload 5, 2) := by decide +kernel
theorem dX11_sum_16 : decode cX11_sum 16 = .ok (.invokestatic 177, 3) := by decide +kernel
theorem dX11_sum_19 : decode cX11_sum 19 = .ok (.ifCond .ne 6, 3) := by decide +kernel
theorem dX11_sum_22 : decode cX11_sum 22 = .ok (.bipush (-3), 2) := by decide +kernel
theorem dX11_sum_24 : decode cX11_sum 24 = .ok (.ireturn, 1) := by decide +kernel
theorem dX11_quotient_0 : decode cX11_quotient 0 = .ok (.aload_n 0, 1) := by decide +kernel
theorem dX11_quotient_1 : decode cX11_quotient 1 = .ok (.iload_n 1, 1) := by decide +kernel
theorem dX11_quotient_2 : decode cX11_quotient 2 = .ok (.invokevirtual 107, 3) := by decide +kernel
theorem dX11_quotient_5 : decode cX11_quotient 5 = .ok (.astore 4, 2) := by decide +kernel
theorem dX11_quotient_7 : decode cX11_quotient 7 = .ok (.aload_n 0, 1) := by decide +kernel
theorem dX11_quotient_8 : decode cX11_quotient 8 = .ok (.iload_n 3, 1) := by decide +kernel
theorem dX11_quotient_9 : decode cX11_quotient 9 = .ok (.invokevirtual 107, 3) := by decide +kernel
theorem dX11_quotient_12 : decode cX11_quotient 12 = .ok (.astore 5, 2) := by decide +kernel
theorem dX11_quotient_14 : decode cX11_quotient 14 = .ok (.aload 4, 2) := by decide +kernel
theorem dX11_quotient_16 : decode cX11_quotient 16 = .ok (.ifnull 8, 3) := by decide +kernel
theorem dX11_quotient_24 : decode cX11_quotient 24 = .ok (.iconst (-1), 1) := by decide +kernel
theorem dX11_quotient_25 : decode cX11_quotient 25 = .ok (.ireturn, 1) := by decide +kernel
theorem dX11_quotient_19 : decode cX11_quotient 19 = .ok (.aload 5, 2) := by decide +kernel
theorem dX11_quotient_21 : decode cX11_quotient 21 = .ok (.ifnonnull 5, 3) := by decide +kernel
theorem dX11_quotient_26 : decode cX11_quotient 26 = .ok (.aload 4, 2) := by decide +kernel
theorem dX11_quotient_28 : decode cX11_quotient 28 = .ok (.invokestatic 177, 3) := by decide +kernel
theorem dX11_quotient_31 : decode cX11_quotient 31 = .ok (.ifCond .ne 6, 3) := by decide +kernel
theorem dX11_quotient_34 : decode cX11_quotient 34 = .ok (.bipush (-3), 2) := by decide +kernel
theorem dX11_quotient_36 : decode cX11_quotient 36 = .ok (.ireturn, 1) := by decide +kernel
theorem dX11_form_0 : decode cX11_form 0 = .ok (.aload_n 0, 1) := by decide +kernel
theorem dX11_form_1 : decode cX11_form 1 = .ok (.iload_n 1, 1) := by decide +kernel
theorem dX11_form_2 : decode cX11_form 2 = .ok (.invokevirtual 107, 3) := by decide +kernel
theorem dX11_form_5 : decode cX11_form 5 = .ok (.astore 4, 2) := by decide +kernel
theorem dX11_form_7 : decode cX11_form 7 = .ok (.aload_n 0, 1) := by decide +kernel
theorem dX11_form_8 : decode cX11_form 8 = .ok (.iload_n 3, 1) := by decide +kernel
theorem dX11_form_9 : decode cX11_form 9 = .ok (.invokevirtual 107, 3) := by decide +kernel
theorem dX11_form_12 : decode cX11_form 12 = .ok (.astore 5, 2) := by decide +kernel
theorem dX11_form_14 : decode cX11_form 14 = .ok (.aload 4, 2) := by decide +kernel
theorem dX11_form_16 : decode cX11_form 16 = .ok (.ifnull 8, 3) := by decide +kernel
theorem dX11_form_24 : decode cX11_form 24 = .ok (.iconst (-1), 1) := by decide +kernel
theorem dX11_form_25 : decode cX11_form 25 = .ok (.ireturn, 1) := by decide +kernel
theorem dX11_form_19 : decode cX11_form 19 = .ok (.aload 5, 2) := by decide +kernel
theorem dX11_form_21 : decode cX11_form 21 = .ok (.ifnonnull 5, 3) := by decide +kernel
theorem dX11_form_26 : decode cX11_form 26 = .ok (.aload 4, 2) := by decide +kernel
theorem dX11_form_28 : decode cX11_form 28 = .ok (.getfield 191, 3) := by decide +kernel
theorem dX11_form_31 : decode cX11_form 31 = .ok (.iconst 1, 1) := by decide +kernel
theorem dX11_form_32 : decode cX11_form 32 = .ok (.if_icmp .eq 6, 3) := by decide +kernel
theorem dX11_form_35 : decode cX11_form 35 = .ok (.bipush (-3), 2) := by decide +kernel
theorem dX11_form_37 : decode cX11_form 37 = .ok (.ireturn, 1) := by decide +kernel
theorem dX11_close_0 : decode cX11_close 0 = .ok (.aload_n 0, 1) := by decide +kernel
theorem dX11_close_1 : decode cX11_close 1 = .ok (.iload_n 1, 1) := by decide +kernel
theorem dX11_close_2 : decode cX11_close 2 = .ok (.invokevirtual 107, 3) := by decide +kernel
theorem dX11_close_5 : decode cX11_close 5 = .ok (.astore_n 3, 1) := by decide +kernel
theorem dX11_close_6 : decode cX11_close 6 = .ok (.aload_n 0, 1) := by decide +kernel
theorem dX11_close_7 : decode cX11_close 7 = .ok (.iload_n 2, 1) := by decide +kernel
theorem dX11_close_8 : decode cX11_close 8 = .ok (.invokevirtual 107, 3) := by decide +kernel
theorem dX11_close_11 : decode cX11_close 11 = .ok (.astore 4, 2) := by decide +kernel
theorem dX11_close_13 : decode cX11_close 13 = .ok (.aload_n 3, 1) := by decide +kernel
theorem dX11_close_14 : decode cX11_close 14 = .ok (.ifnull 8, 3) := by decide +kernel
theorem dX11_close_22 : decode cX11_close 22 = .ok (.iconst (-1), 1) := by decide +kernel
theorem dX11_close_23 : decode cX11_close 23 = .ok (.ireturn, 1) := by decide +kernel
theorem dX11_close_17 : decode cX11_close 17 = .ok (.aload 4, 2) := by decide +kernel
theorem dX11_close_19 : decode cX11_close 19 = .ok (.ifnonnull 5, 3) := by decide +kernel
theorem dX11_close_24 : decode cX11_close 24 = .ok (.aload_n 3, 1) := by decide +kernel
theorem dX11_close_25 : decode cX11_close 25 = .ok (.invokestatic 177, 3) := by decide +kernel
theorem dX11_close_28 : decode cX11_close 28 = .ok (.ifCond .ne 6, 3) := by decide +kernel
theorem dX11_close_31 : decode cX11_close 31 = .ok (.bipush (-3), 2) := by decide +kernel
theorem dX11_close_33 : decode cX11_close 33 = .ok (.ireturn, 1) := by decide +kernel
theorem dX11_recur_0 : decode cX11_recur 0 = .ok (.aload_n 0, 1) := by decide +kernel
theorem dX11_recur_1 : decode cX11_recur 1 = .ok (.iload_n 1, 1) := by decide +kernel
theorem dX11_recur_2 : decode cX11_recur 2 = .ok (.invokevirtual 107, 3) := by decide +kernel
theorem dX11_recur_5 : decode cX11_recur 5 = .ok (.astore 4, 2) := by decide +kernel
theorem dX11_recur_7 : decode cX11_recur 7 = .ok (.aload_n 0, 1) := by decide +kernel
theorem dX11_recur_8 : decode cX11_recur 8 = .ok (.iload_n 3, 1) := by decide +kernel
theorem dX11_recur_9 : decode cX11_recur 9 = .ok (.invokevirtual 107, 3) := by decide +kernel
theorem dX11_recur_12 : decode cX11_recur 12 = .ok (.astore 5, 2) := by decide +kernel
theorem dX11_recur_14 : decode cX11_recur 14 = .ok (.aload 4, 2) := by decide +kernel
theorem dX11_recur_16 : decode cX11_recur 16 = .ok (.ifnull 8, 3) := by decide +kernel
theorem dX11_recur_24 : decode cX11_recur 24 = .ok (.iconst (-1), 1) := by decide +kernel
theorem dX11_recur_25 : decode cX11_recur 25 = .ok (.ireturn, 1) := by decide +kernel
theorem dX11_recur_19 : decode cX11_recur 19 = .ok (.aload 5, 2) := by decide +kernel
theorem dX11_recur_21 : decode cX11_recur 21 = .ok (.ifnonnull 5, 3) := by decide +kernel
theorem dX11_recur_26 : decode cX11_recur 26 = .ok (.aload 4, 2) := by decide +kernel
theorem dX11_recur_28 : decode cX11_recur 28 = .ok (.invokestatic 177, 3) := by decide +kernel
theorem dX11_recur_31 : decode cX11_recur 31 = .ok (.ifCond .ne 6, 3) := by decide +kernel
theorem dX11_recur_34 : decode cX11_recur 34 = .ok (.bipush (-3), 2) := by decide +kernel
theorem dX11_recur_36 : decode cX11_recur 36 = .ok (.ireturn, 1) := by decide +kernel
theorem dX11_part_0 : decode cX11_part 0 = .ok (.aload_n 0, 1) := by decide +kernel
theorem dX11_part_1 : decode cX11_part 1 = .ok (.iload_n 1, 1) := by decide +kernel
theorem dX11_part_2 : decode cX11_part 2 = .ok (.invokevirtual 107, 3) := by decide +kernel
theorem dX11_part_5 : decode cX11_part 5 = .ok (.astore 4, 2) := by decide +kernel
theorem dX11_part_7 : decode cX11_part 7 = .ok (.aload_n 0, 1) := by decide +kernel
theorem dX11_part_8 : decode cX11_part 8 = .ok (.iload_n 3, 1) := by decide +kernel
theorem dX11_part_9 : decode cX11_part 9 = .ok (.invokevirtual 107, 3) := by decide +kernel
theorem dX11_part_12 : decode cX11_part 12 = .ok (.astore 5, 2) := by decide +kernel
theorem dX11_part_14 : decode cX11_part 14 = .ok (.aload 4, 2) := by decide +kernel
theorem dX11_part_16 : decode cX11_part 16 = .ok (.ifnull 8, 3) := by decide +kernel
theorem dX11_part_24 : decode cX11_part 24 = .ok (.iconst (-1), 1) := by decide +kernel
theorem dX11_part_25 : decode cX11_part 25 = .ok (.ireturn, 1) := by decide +kernel
theorem dX11_part_19 : decode cX11_part 19 = .ok (.aload 5, 2) := by decide +kernel
theorem dX11_part_21 : decode cX11_part 21 = .ok (.ifnonnull 5, 3) := by decide +kernel
theorem dX11_part_26 : decode cX11_part 26 = .ok (.aload 4, 2) := by decide +kernel
theorem dX11_part_28 : decode cX11_part 28 = .ok (.getfield 191, 3) := by decide +kernel
theorem dX11_part_31 : decode cX11_part 31 = .ok (.iconst 3, 1) := by decide +kernel
theorem dX11_part_32 : decode cX11_part 32 = .ok (.if_icmp .eq 15, 3) := by decide +kernel
theorem dX11_part_35 : decode cX11_part 35 = .ok (.aload 4, 2) := by decide +kernel
theorem dX11_part_37 : decode cX11_part 37 = .ok (.getfield 191, 3) := by decide +kernel
theorem dX11_part_40 : decode cX11_part 40 = .ok (.iconst 4, 1) := by decide +kernel
theorem dX11_part_41 : decode cX11_part 41 = .ok (.if_icmp .eq 6, 3) := by decide +kernel
theorem dX11_part_44 : decode cX11_part 44 = .ok (.bipush (-3), 2) := by decide +kernel
theorem dX11_part_46 : decode cX11_part 46 = .ok (.ireturn, 1) := by decide +kernel
theorem dX11_check_0 : decode cX11_check 0 = .ok (.aload_n 0, 1) := by decide +kernel
theorem dX11_check_1 : decode cX11_check 1 = .ok (.iload_n 1, 1) := by decide +kernel
theorem dX11_check_2 : decode cX11_check 2 = .ok (.invokevirtual 107, 3) := by decide +kernel
theorem dX11_check_5 : decode cX11_check 5 = .ok (.astore_n 3, 1) := by decide +kernel
theorem dX11_check_6 : decode cX11_check 6 = .ok (.aload_n 0, 1) := by decide +kernel
theorem dX11_check_7 : decode cX11_check 7 = .ok (.iload_n 2, 1) := by decide +kernel
theorem dX11_check_8 : decode cX11_check 8 = .ok (.invokevirtual 107, 3) := by decide +kernel
theorem dX11_check_11 : decode cX11_check 11 = .ok (.astore 4, 2) := by decide +kernel
theorem dX11_check_13 : decode cX11_check 13 = .ok (.aload_n 3, 1) := by decide +kernel
theorem dX11_check_14 : decode cX11_check 14 = .ok (.ifnull 8, 3) := by decide +kernel
theorem dX11_check_22 : decode cX11_check 22 = .ok (.iconst (-1), 1) := by decide +kernel
theorem dX11_check_23 : decode cX11_check 23 = .ok (.ireturn, 1) := by decide +kernel
theorem dX11_check_17 : decode cX11_check 17 = .ok (.aload 4, 2) := by decide +kernel
theorem dX11_check_19 : decode cX11_check 19 = .ok (.ifnonnull 5, 3) := by decide +kernel
theorem dX11_check_24 : decode cX11_check 24 = .ok (.aload_n 3, 1) := by decide +kernel
theorem dX11_check_25 : decode cX11_check 25 = .ok (.getfield 191, 3) := by decide +kernel
theorem dX11_check_28 : decode cX11_check 28 = .ok (.iconst 3, 1) := by decide +kernel
theorem dX11_check_29 : decode cX11_check 29 = .ok (.if_icmp .ne 11, 3) := by decide +kernel
theorem dX11_check_40 : decode cX11_check 40 = .ok (.bipush (-3), 2) := by decide +kernel
theorem dX11_check_42 : decode cX11_check 42 = .ok (.ireturn, 1) := by decide +kernel
theorem dX11_poke_0 : decode cX11_poke 0 = .ok (.aload_n 0, 1) := by decide +kernel
theorem dX11_poke_1 : decode cX11_poke 1 = .ok (.iload_n 1, 1) := by decide +kernel
theorem dX11_poke_2 : decode cX11_poke 2 = .ok (.invokevirtual 107, 3) := by decide +kernel
theorem dX11_poke_5 : decode cX11_poke 5 = .ok (.astore 6, 2) := by decide +kernel
theorem dX11_poke_7 : decode cX11_poke 7 = .ok (.aload 6, 2) := by decide +kernel
theorem dX11_poke_9 : decode cX11_poke 9 = .ok (.ifnonnull 5, 3) := by decide +kernel
theorem dX11_poke_12 : decode cX11_poke 12 = .ok (.iconst (-1), 1) := by decide +kernel
theorem dX11_poke_13 : decode cX11_poke 13 = .ok (.ireturn, 1) := by decide +kernel
theorem dX11_poke_14 : decode cX11_poke 14 = .ok (.aload 6, 2) := by decide +kernel
theorem dX11_poke_16 : decode cX11_poke 16 = .ok (.getfield 191, 3) := by decide +kernel
theorem dX11_poke_19 : decode cX11_poke 19 = .ok (.iconst 3, 1) := by decide +kernel
theorem dX11_poke_20 : decode cX11_poke 20 = .ok (.if_icmp .eq 6, 3) := by decide +kernel
theorem dX11_poke_23 : decode cX11_poke 23 = .ok (.bipush (-3), 2) := by decide +kernel
theorem dX11_poke_25 : decode cX11_poke 25 = .ok (.ireturn, 1) := by decide +kernel
theorem dX11_holds_0 : decode cX11_holds 0 = .ok (.aload_n 0, 1) := by decide +kernel
theorem dX11_holds_1 : decode cX11_holds 1 = .ok (.iload_n 1, 1) := by decide +kernel
theorem dX11_holds_2 : decode cX11_holds 2 = .ok (.invokevirtual 107, 3) := by decide +kernel
theorem dX11_holds_5 : decode cX11_holds 5 = .ok (.astore 6, 2) := by decide +kernel
theorem dX11_holds_7 : decode cX11_holds 7 = .ok (.aload_n 0, 1) := by decide +kernel
theorem dX11_holds_8 : decode cX11_holds 8 = .ok (.iload_n 2, 1) := by decide +kernel
theorem dX11_holds_9 : decode cX11_holds 9 = .ok (.invokevirtual 107, 3) := by decide +kernel
theorem dX11_holds_12 : decode cX11_holds 12 = .ok (.astore 7, 2) := by decide +kernel
theorem dX11_holds_14 : decode cX11_holds 14 = .ok (.aload 6, 2) := by decide +kernel
theorem dX11_holds_16 : decode cX11_holds 16 = .ok (.ifnull 8, 3) := by decide +kernel
theorem dX11_holds_24 : decode cX11_holds 24 = .ok (.iconst (-1), 1) := by decide +kernel
theorem dX11_holds_25 : decode cX11_holds 25 = .ok (.ireturn, 1) := by decide +kernel
theorem dX11_holds_19 : decode cX11_holds 19 = .ok (.aload 7, 2) := by decide +kernel
theorem dX11_holds_21 : decode cX11_holds 21 = .ok (.ifnonnull 5, 3) := by decide +kernel
theorem dX11_holds_26 : decode cX11_holds 26 = .ok (.aload 6, 2) := by decide +kernel
theorem dX11_holds_28 : decode cX11_holds 28 = .ok (.getfield 191, 3) := by decide +kernel
theorem dX11_holds_31 : decode cX11_holds 31 = .ok (.iconst 3, 1) := by decide +kernel
theorem dX11_holds_32 : decode cX11_holds 32 = .ok (.if_icmp .ne 11, 3) := by decide +kernel
theorem dX11_holds_43 : decode cX11_holds 43 = .ok (.bipush (-3), 2) := by decide +kernel
theorem dX11_holds_45 : decode cX11_holds 45 = .ok (.ireturn, 1) := by decide +kernel
theorem dX11_row_0 : decode cX11_row 0 = .ok (.aload_n 0, 1) := by decide +kernel
theorem dX11_row_1 : decode cX11_row 1 = .ok (.iload_n 1, 1) := by decide +kernel
theorem dX11_row_2 : decode cX11_row 2 = .ok (.invokevirtual 107, 3) := by decide +kernel
theorem dX11_row_5 : decode cX11_row 5 = .ok (.astore_n 3, 1) := by decide +kernel
theorem dX11_row_6 : decode cX11_row 6 = .ok (.aload_n 0, 1) := by decide +kernel
theorem dX11_row_7 : decode cX11_row 7 = .ok (.iload_n 2, 1) := by decide +kernel
theorem dX11_row_8 : decode cX11_row 8 = .ok (.invokevirtual 107, 3) := by decide +kernel
theorem dX11_row_11 : decode cX11_row 11 = .ok (.astore 4, 2) := by decide +kernel
theorem dX11_row_13 : decode cX11_row 13 = .ok (.aload_n 3, 1) := by decide +kernel
theorem dX11_row_14 : decode cX11_row 14 = .ok (.ifnull 8, 3) := by decide +kernel
theorem dX11_row_22 : decode cX11_row 22 = .ok (.iconst (-1), 1) := by decide +kernel
theorem dX11_row_23 : decode cX11_row 23 = .ok (.ireturn, 1) := by decide +kernel
theorem dX11_row_17 : decode cX11_row 17 = .ok (.aload 4, 2) := by decide +kernel
theorem dX11_row_19 : decode cX11_row 19 = .ok (.ifnonnull 5, 3) := by decide +kernel
theorem dX11_row_24 : decode cX11_row 24 = .ok (.aload_n 3, 1) := by decide +kernel
theorem dX11_row_25 : decode cX11_row 25 = .ok (.getfield 191, 3) := by decide +kernel
theorem dX11_row_28 : decode cX11_row 28 = .ok (.iconst 3, 1) := by decide +kernel
theorem dX11_row_29 : decode cX11_row 29 = .ok (.if_icmp .eq 6, 3) := by decide +kernel
theorem dX11_row_32 : decode cX11_row 32 = .ok (.bipush (-3), 2) := by decide +kernel
theorem dX11_row_34 : decode cX11_row 34 = .ok (.ireturn, 1) := by decide +kernel
theorem dX11_first_0 : decode cX11_first 0 = .ok (.aload_n 0, 1) := by decide +kernel
theorem dX11_first_1 : decode cX11_first 1 = .ok (.iload_n 1, 1) := by decide +kernel
theorem dX11_first_2 : decode cX11_first 2 = .ok (.invokevirtual 107, 3) := by decide +kernel
theorem dX11_first_5 : decode cX11_first 5 = .ok (.astore_n 3, 1) := by decide +kernel
theorem dX11_first_6 : decode cX11_first 6 = .ok (.aload_n 3, 1) := by decide +kernel
theorem dX11_first_7 : decode cX11_first 7 = .ok (.ifnonnull 5, 3) := by decide +kernel
theorem dX11_first_10 : decode cX11_first 10 = .ok (.iconst (-1), 1) := by decide +kernel
theorem dX11_first_11 : decode cX11_first 11 = .ok (.ireturn, 1) := by decide +kernel
theorem dX11_first_12 : decode cX11_first 12 = .ok (.aload_n 3, 1) := by decide +kernel
theorem dX11_first_13 : decode cX11_first 13 = .ok (.getfield 191, 3) := by decide +kernel
theorem dX11_first_16 : decode cX11_first 16 = .ok (.iconst 4, 1) := by decide +kernel
theorem dX11_first_17 : decode cX11_first 17 = .ok (.if_icmp .eq 6, 3) := by decide +kernel
theorem dX11_first_20 : decode cX11_first 20 = .ok (.bipush (-3), 2) := by decide +kernel
theorem dX11_first_22 : decode cX11_first 22 = .ok (.ireturn, 1) := by decide +kernel
theorem dX11_at_0 : decode cX11_at 0 = .ok (.aload_n 0, 1) := by decide +kernel
theorem dX11_at_1 : decode cX11_at 1 = .ok (.iload_n 1, 1) := by decide +kernel
theorem dX11_at_2 : decode cX11_at 2 = .ok (.invokevirtual 107, 3) := by decide +kernel
theorem dX11_at_5 : decode cX11_at 5 = .ok (.astore_n 3, 1) := by decide +kernel
theorem dX11_at_6 : decode cX11_at 6 = .ok (.aload_n 3, 1) := by decide +kernel
theorem dX11_at_7 : decode cX11_at 7 = .ok (.ifnonnull 5, 3) := by decide +kernel
theorem dX11_at_10 : decode cX11_at 10 = .ok (.iconst (-1), 1) := by decide +kernel
theorem dX11_at_11 : decode cX11_at 11 = .ok (.ireturn, 1) := by decide +kernel
theorem dX11_at_12 : decode cX11_at 12 = .ok (.aload_n 3, 1) := by decide +kernel
theorem dX11_at_13 : decode cX11_at 13 = .ok (.getfield 191, 3) := by decide +kernel
theorem dX11_at_16 : decode cX11_at 16 = .ok (.iconst 4, 1) := by decide +kernel
theorem dX11_at_17 : decode cX11_at 17 = .ok (.if_icmp .eq 6, 3) := by decide +kernel
theorem dX11_at_20 : decode cX11_at 20 = .ok (.bipush (-3), 2) := by decide +kernel
theorem dX11_at_22 : decode cX11_at 22 = .ok (.ireturn, 1) := by decide +kernel
theorem dX11_join_0 : decode cX11_join 0 = .ok (.iload_n 1, 1) := by decide +kernel
theorem dX11_join_1 : decode cX11_join 1 = .ok (.ifCond .lt 12, 3) := by decide +kernel
theorem dX11_join_13 : decode cX11_join 13 = .ok (.iconst 0, 1) := by decide +kernel
theorem dX11_join_14 : decode cX11_join 14 = .ok (.istore 5, 2) := by decide +kernel
theorem dX11_join_16 : decode cX11_join 16 = .ok (.aload_n 0, 1) := by decide +kernel
theorem dX11_join_17 : decode cX11_join 17 = .ok (.iload_n 2, 1) := by decide +kernel
theorem dX11_join_18 : decode cX11_join 18 = .ok (.invokevirtual 107, 3) := by decide +kernel
theorem dX11_join_21 : decode cX11_join 21 = .ok (.astore 6, 2) := by decide +kernel
theorem dX11_join_23 : decode cX11_join 23 = .ok (.iload 5, 2) := by decide +kernel
theorem dX11_join_25 : decode cX11_join 25 = .ok (.ifCond .ne 8, 3) := by decide +kernel
theorem dX11_join_28 : decode cX11_join 28 = .ok (.iload_n 1, 1) := by decide +kernel
theorem dX11_join_29 : decode cX11_join 29 = .ok (.iconst 5, 1) := by decide +kernel
theorem dX11_join_30 : decode cX11_join 30 = .ok (.if_icmp .ne 11, 3) := by decide +kernel
theorem dX11_join_41 : decode cX11_join 41 = .ok (.aload 6, 2) := by decide +kernel
theorem dX11_join_43 : decode cX11_join 43 = .ok (.astore 7, 2) := by decide +kernel
theorem dX11_join_45 : decode cX11_join 45 = .ok (.aload_n 0, 1) := by decide +kernel
theorem dX11_join_46 : decode cX11_join 46 = .ok (.iload 4, 2) := by decide +kernel
theorem dX11_join_48 : decode cX11_join 48 = .ok (.invokevirtual 107, 3) := by decide +kernel
theorem dX11_join_51 : decode cX11_join 51 = .ok (.astore 8, 2) := by decide +kernel
theorem dX11_join_53 : decode cX11_join 53 = .ok (.aload 6, 2) := by decide +kernel
theorem dX11_join_55 : decode cX11_join 55 = .ok (.ifnull 13, 3) := by decide +kernel
theorem dX11_join_68 : decode cX11_join 68 = .ok (.iconst (-1), 1) := by decide +kernel
theorem dX11_join_69 : decode cX11_join 69 = .ok (.ireturn, 1) := by decide +kernel
theorem dX11_join_33 : decode cX11_join 33 = .ok (.aload_n 0, 1) := by decide +kernel
theorem dX11_join_34 : decode cX11_join 34 = .ok (.iload_n 3, 1) := by decide +kernel
theorem dX11_join_35 : decode cX11_join 35 = .ok (.invokevirtual 107, 3) := by decide +kernel
theorem dX11_join_38 : decode cX11_join 38 = .ok (.goto 5, 3) := by decide +kernel
theorem dX11_join_4 : decode cX11_join 4 = .ok (.iload_n 1, 1) := by decide +kernel
theorem dX11_join_5 : decode cX11_join 5 = .ok (.iconst 2, 1) := by decide +kernel
theorem dX11_join_6 : decode cX11_join 6 = .ok (.if_icmp .gt 7, 3) := by decide +kernel
theorem dX11_join_9 : decode cX11_join 9 = .ok (.iconst 1, 1) := by decide +kernel
theorem dX11_join_10 : decode cX11_join 10 = .ok (.goto 4, 3) := by decide +kernel
theorem dX11_join_58 : decode cX11_join 58 = .ok (.aload 7, 2) := by decide +kernel
theorem dX11_join_60 : decode cX11_join 60 = .ok (.ifnull 8, 3) := by decide +kernel
theorem dX11_join_63 : decode cX11_join 63 = .ok (.aload 8, 2) := by decide +kernel
theorem dX11_join_65 : decode cX11_join 65 = .ok (.ifnonnull 5, 3) := by decide +kernel
theorem dX11_join_70 : decode cX11_join 70 = .ok (.aload 6, 2) := by decide +kernel
theorem dX11_join_72 : decode cX11_join 72 = .ok (.getfield 191, 3) := by decide +kernel
theorem dX11_join_75 : decode cX11_join 75 = .ok (.iconst 4, 1) := by decide +kernel
theorem dX11_join_76 : decode cX11_join 76 = .ok (.if_icmp .ne 30, 3) := by decide +kernel
theorem dX11_join_106 : decode cX11_join 106 = .ok (.bipush (-3), 2) := by decide +kernel
theorem dX11_join_108 : decode cX11_join 108 = .ok (.ireturn, 1) := by decide +kernel
theorem dX11_roots_0 : decode cX11_roots 0 = .ok (.aload_n 0, 1) := by decide +kernel
theorem dX11_roots_1 : decode cX11_roots 1 = .ok (.iload_n 1, 1) := by decide +kernel
theorem dX11_roots_2 : decode cX11_roots 2 = .ok (.invokevirtual 107, 3) := by decide +kernel
theorem dX11_roots_5 : decode cX11_roots 5 = .ok (.astore_n 2, 1) := by decide +kernel
theorem dX11_roots_6 : decode cX11_roots 6 = .ok (.aload_n 2, 1) := by decide +kernel
theorem dX11_roots_7 : decode cX11_roots 7 = .ok (.ifnonnull 5, 3) := by decide +kernel
theorem dX11_roots_10 : decode cX11_roots 10 = .ok (.iconst (-1), 1) := by decide +kernel
theorem dX11_roots_11 : decode cX11_roots 11 = .ok (.ireturn, 1) := by decide +kernel
theorem dX11_roots_12 : decode cX11_roots 12 = .ok (.aload_n 2, 1) := by decide +kernel
theorem dX11_roots_13 : decode cX11_roots 13 = .ok (.invokestatic 406, 3) := by decide +kernel
theorem dX11_roots_16 : decode cX11_roots 16 = .ok (.ifCond .ne 6, 3) := by decide +kernel
theorem dX11_roots_19 : decode cX11_roots 19 = .ok (.bipush (-3), 2) := by decide +kernel
theorem dX11_roots_21 : decode cX11_roots 21 = .ok (.ireturn, 1) := by decide +kernel
theorem dX11_solve_0 : decode cX11_solve 0 = .ok (.aload_n 0, 1) := by decide +kernel
theorem dX11_solve_1 : decode cX11_solve 1 = .ok (.iload_n 1, 1) := by decide +kernel
theorem dX11_solve_2 : decode cX11_solve 2 = .ok (.invokevirtual 107, 3) := by decide +kernel
theorem dX11_solve_5 : decode cX11_solve 5 = .ok (.astore_n 3, 1) := by decide +kernel
theorem dX11_solve_6 : decode cX11_solve 6 = .ok (.aload_n 0, 1) := by decide +kernel
theorem dX11_solve_7 : decode cX11_solve 7 = .ok (.iload_n 2, 1) := by decide +kernel
theorem dX11_solve_8 : decode cX11_solve 8 = .ok (.invokevirtual 107, 3) := by decide +kernel
theorem dX11_solve_11 : decode cX11_solve 11 = .ok (.astore 4, 2) := by decide +kernel
theorem dX11_solve_13 : decode cX11_solve 13 = .ok (.aload_n 3, 1) := by decide +kernel
theorem dX11_solve_14 : decode cX11_solve 14 = .ok (.ifnull 8, 3) := by decide +kernel
theorem dX11_solve_22 : decode cX11_solve 22 = .ok (.iconst (-1), 1) := by decide +kernel
theorem dX11_solve_23 : decode cX11_solve 23 = .ok (.ireturn, 1) := by decide +kernel
theorem dX11_solve_17 : decode cX11_solve 17 = .ok (.aload 4, 2) := by decide +kernel
theorem dX11_solve_19 : decode cX11_solve 19 = .ok (.ifnonnull 5, 3) := by decide +kernel
theorem dX11_solve_24 : decode cX11_solve 24 = .ok (.aload_n 3, 1) := by decide +kernel
theorem dX11_solve_25 : decode cX11_solve 25 = .ok (.getfield 191, 3) := by decide +kernel
theorem dX11_solve_28 : decode cX11_solve 28 = .ok (.iconst 3, 1) := by decide +kernel
theorem dX11_solve_29 : decode cX11_solve 29 = .ok (.if_icmp .eq 14, 3) := by decide +kernel
theorem dX11_solve_32 : decode cX11_solve 32 = .ok (.aload_n 3, 1) := by decide +kernel
theorem dX11_solve_33 : decode cX11_solve 33 = .ok (.getfield 191, 3) := by decide +kernel
theorem dX11_solve_36 : decode cX11_solve 36 = .ok (.iconst 4, 1) := by decide +kernel
theorem dX11_solve_37 : decode cX11_solve 37 = .ok (.if_icmp .eq 6, 3) := by decide +kernel
theorem dX11_solve_40 : decode cX11_solve 40 = .ok (.bipush (-3), 2) := by decide +kernel
theorem dX11_solve_42 : decode cX11_solve 42 = .ok (.ireturn, 1) := by decide +kernel
/-- the slot at a place that a caller names -/
def zslot (b : Nat) (x : Int32) : Option Nat := if x < 0 then none else if 12 ≤ x then none else some (b + (1 + 6 * x.toNatClampNeg))
def zok (x : Int32) : Bool := decide (¬ x < 0 ∧ ¬ 12 ≤ x)
theorem zslot_n {b : Nat} {x : Int32} (h : none = zslot b x) : ¬ zok x = true := fun q => by
  have ⟨a, c⟩ := of_decide_eq_true q
  rw [zslot, if_neg a, if_neg c] at h; cases h
theorem zslot_s {b q : Nat} {x : Int32} (h : some q = zslot b x) : zok x = true := by
  unfold zslot at h
  by_cases h1 : x < 0
  · rw [if_pos h1] at h; cases h
  · rw [if_neg h1] at h
    by_cases h2 : 12 ≤ x
    · rw [if_pos h2] at h; cases h
    · exact decide_eq_true ⟨h1, h2⟩
theorem zslot_i {b q : Nat} {x : Int32} (h : zslot b x = some q) : ∃ i : Nat, i < 12 ∧ q = b + (1 + 6 * i) := by
  have hk := of_decide_eq_true (zslot_s h.symm)
  rcases pk_ix x (n := 12) (by decide) with h1 | h1 | ⟨j, hj, rfl⟩
  · exact absurd h1 hk.1
  · exact absurd h1 hk.2
  · refine ⟨j, hj, ?_⟩
    rw [zslot, if_neg hk.1, if_neg hk.2, nI_clamp (by omega)] at h
    exact (Option.some.inj h).symm
theorem zrefs_in {f : Nat → Nat} {n : Nat} {x : Int32} (h : vp_in x n) : zrefs f n x.toNatClampNeg = some (f x.toNatClampNeg) := by
  unfold zrefs
  have h2 : ¬ n ≤ x.toNatClampNeg := fun q => h (Or.inr q)
  exact if_pos (by omega)

set_option maxHeartbeats 4000000 in
set_option maxRecDepth 100000 in
theorem c_X11_slotAt (l : Launch) (dC : Nat → ClassId) (dI : Nat → Nat → Nat) (aC : Nat → ClassId) (h0 b : Nat) (x : Int32) (sz : Nat) : Met l yX11_slotAt w_X11_slotAt ({ frames := 1, cells := 0, slots := 0, locals := 24 }) (zPre (dC, dI) aC [(h0, .inr (10, [.ref (b + 0), .ref (b + 73), .ref (b + 75), .ref (b + 76), .ref (b + 80), .ref (b + 81), .ref (b + 88), .ref (b + 95), .ref (b + 100), .ref (b + 106), .int 0, .ref (b + 107), .int 0])), (b + 0, .inl (aC 3, 12, .inr (.inr (.inr (.inr (zrefs (fun i => b + (1 + 6 * i)) 12))))))] sz [.ref h0, .int x]) (va_Qq (fun (r : Option Nat) (_ : Unit) => r = zslot b x) (fun _ zt => zt.heap.size = sz) (zN sz)) 0 0 (zN sz) := by
  refine Met.ofW (cc := cX11_slotAt) (maxL := 2) (ret := (some (.object "SumHouse$Slot"))) (by decide) rfl ?_
  intro p e s m args below meth c s₁ B hml hv
  generalize hQ : MQ below _ _ s _ _ _ = QQ
  obtain ⟨rfl, hsz, hP, hK, hD0⟩ := hv
  have hx := B.exec
  have hb := B.bytes
  have hr := B.returns
  have hts := atoms_spec (ws := w_X11_slotAt) B.pre
  have hall := fun (w : Cond) (h : w ∈ zAll) => hts w (List.mem_cons_of_mem _ h)
  have hown : s.vm.findClass RX11 = some m.cls := findClass_of_methodNamed B.named
  have hlocks := B.notSynchronized
  subst hsz
  have hA : ∀ q : Nat, s.heap.size ≤ q → zN s.heap.size q := fun q h => h
  have hS : va_S (zN s.heap.size) s.heap s.heap [] := va_S.rf
  have hD := hD0
  have hl := lv_entry ([.ref h0, .int x]) (n := 2) (Nat.le_of_ble_eq_true rfl)
  rw [lg_entry_eq]
  generalize (lg_sl ([.ref h0, .int x]) ++ List.replicate (2 - (lg_sl ([.ref h0, .int x])).length) Slot.unset).toArray = ls at hl ⊢
  have hl : lv_has ls 2 [(0, .ref h0), (1, .int x)] := hl
  refine lv_iload_n hx hb dX11_slotAt_0 rfl (lv_at hl 1 rfl) ?_
  refine lv_if_lt (tgt := 19) hx hb dX11_slotAt_1 (by decide) (fun c_1_b5138 => ?_) (fun c_1_b5138 => ?_)
  · refine lv_null hx hb dX11_slotAt_19 ?_
    rw [← hQ]
    exact W.aret (v := .null) hx hb hr (Or.inl ⟨_, rfl⟩) (Or.inl rfl) (fun zt ht hW => ⟨⟨none, (), rfl, by simp [zslot, c_1_b5138], (show zt.heap.size = s.heap.size by rw [ht])⟩, hS.F ht⟩) hS.2.2 dX11_slotAt_20
  · refine lv_iload_n hx hb dX11_slotAt_4 rfl (lv_at hl 1 rfl) ?_
    refine lv_bipush (v := 12) hx hb dX11_slotAt_5 (by decide) ?_
    refine lv_icmp_ge (tgt := 19) hx hb dX11_slotAt_7 (by decide) (fun c_7_b5139 => ?_) (fun c_7_b5139 => ?_)
    · refine lv_null hx hb dX11_slotAt_19 ?_
      rw [← hQ]
      exact W.aret (v := .null) hx hb hr (Or.inl ⟨_, rfl⟩) (Or.inl rfl) (fun zt ht hW => ⟨⟨none, (), rfl, by simp [zslot, c_1_b5138, c_7_b5139], (show zt.heap.size = s.heap.size by rw [ht])⟩, hS.F ht⟩) hS.2.2 dX11_slotAt_20
    · refine lv_aload_n hx hb dX11_slotAt_10 rfl (lv_at hl 0 rfl) ?_
      refine va_get (D := (dC, dI)) (ci := 10) (v := .ref (b + 0)) (C := RX11) (T := TX11) (N := 13) hx hb hall zx_11 hown hK.1 hP 0 rfl rfl 0 (by decide) (hall _ zw_160) (fun _ h9 => h9) rfl dX11_slotAt_11 ?_
      show W p l e _ s m _ below meth c _ _ _ _ QQ (F0 m 14 ls [.ref (b + 0)])
      refine lv_iload_n hx hb dX11_slotAt_14 rfl (lv_at hl 1 rfl) ?_
      refine zaldr hx hb hK.1 hP 1 3 rfl rfl (zin c_1_b5138 c_7_b5139 (by decide)) (zrefs_in (zin c_1_b5138 c_7_b5139 (by decide))) dX11_slotAt_15 ?_
      refine lv_goto (tgt := 20) hx hb dX11_slotAt_16 (by decide) ?_
      rw [← hQ]
      exact W.aret (v := .ref (b + (1 + 6 * x.toNatClampNeg))) hx hb hr (Or.inl ⟨_, rfl⟩) (Or.inr ⟨_, rfl⟩) (fun zt ht hW => ⟨⟨(some (b + (1 + 6 * x.toNatClampNeg))), (), rfl, by simp [zslot, c_1_b5138, c_7_b5139], (show zt.heap.size = s.heap.size by rw [ht])⟩, hS.F ht⟩) hS.2.2 dX11_slotAt_20

set_option maxHeartbeats 4000000 in
set_option maxRecDepth 100000 in
theorem c_X11_isRatioOrTerm (l : Launch) (dC : Nat → ClassId) (dI : Nat → Nat → Nat) (aC : Nat → ClassId) (a : Nat) (sz : Nat) : Met l yX11_isRatioOrTerm w_X11_isRatioOrTerm ({ frames := 1, cells := 0, slots := 0, locals := 24 }) (zPre (dC, dI) aC [(a, .inr (5, [.int 0, .int 0, .int 0, .int 0, .int 0, .int 0, .int 0, .ref (a + 1), .ref (a + 2), .ref (a + 3), .ref (a + 4), .ref (a + 5)]))] sz [.ref a]) (va_Qi (fun (r : Int32) (_ : Unit) => r = 0) (fun _ zt => zt.heap.size = sz) (zN sz)) 0 0 (zN sz) := by
  refine Met.ofW (cc := cX11_isRatioOrTerm) (maxL := 1) (ret := (some .boolean)) (by decide) rfl ?_
  intro p e s m args below meth c s₁ B hml hv
  generalize hQ : MQ below _ _ s _ _ _ = QQ
  obtain ⟨rfl, hsz, hP, hK, hD0⟩ := hv
  have hx := B.exec
  have hb := B.bytes
  have hr := B.returns
  have hts := atoms_spec (ws := w_X11_isRatioOrTerm) B.pre
  have hall := fun (w : Cond) (h : w ∈ zAll) => hts w (List.mem_cons_of_mem _ h)
  have hown : s.vm.findClass RX11 = some m.cls := findClass_of_methodNamed B.named
  have hlocks := B.notSynchronized
  subst hsz
  have hA : ∀ q : Nat, s.heap.size ≤ q → zN s.heap.size q := fun q h => h
  have hS : va_S (zN s.heap.size) s.heap s.heap [] := va_S.rf
  have hD := hD0
  have hl := lv_entry ([.ref a]) (n := 1) (Nat.le_of_ble_eq_true rfl)
  rw [lg_entry_eq]
  generalize (lg_sl ([.ref a]) ++ List.replicate (1 - (lg_sl ([.ref a])).length) Slot.unset).toArray = ls at hl ⊢
  have hl : lv_has ls 1 [(0, .ref a)] := hl
  refine lv_aload_n hx hb dX11_isRatioOrTerm_0 rfl (lv_at hl 0 rfl) ?_
  refine va_get (D := (dC, dI)) (ci := 5) (v := .int 0) (C := RX6) (T := TX6) (N := 12) hx hb hall zx_6 hown hK.1 hP 0 rfl rfl 0 (by decide) (hall _ zw_212) (fun _ h9 => h9) rfl dX11_isRatioOrTerm_1 ?_
  refine lv_iconst (v := 1) hx hb dX11_isRatioOrTerm_4 (by decide) ?_
  refine lv_icmp_eq (tgt := 16) hx hb dX11_isRatioOrTerm_5 (by decide) (fun c_5_b5140 => absurd c_5_b5140 (by decide)) (fun _ => ?_)
  refine lv_aload_n hx hb dX11_isRatioOrTerm_8 rfl (lv_at hl 0 rfl) ?_
  show W p l e _ s m _ below meth c _ _ _ _ QQ (F0 m 9 ls [.ref a])
  refine va_get (D := (dC, dI)) (ci := 5) (v := .int 0) (C := RX6) (T := TX6) (N := 12) hx hb hall zx_6 hown hK.1 hP 0 rfl rfl 0 (by decide) (hall _ zw_212) (fun _ h9 => h9) rfl dX11_isRatioOrTerm_9 ?_
  refine lv_iconst (v := 2) hx hb dX11_isRatioOrTerm_12 (by decide) ?_
  refine lv_icmp_ne (tgt := 20) hx hb dX11_isRatioOrTerm_13 (by decide) (fun _ => ?_) (fun c_13_b5141 => absurd c_13_b5141 (by decide))
  refine lv_iconst (v := 0) hx hb dX11_isRatioOrTerm_20 (by decide) ?_
  rw [← hQ]
  exact W.zret (v := 0) hx hb hr (by rfl) (fun zt ht hW => ⟨⟨0, (), rfl, rfl, (show zt.heap.size = s.heap.size by rw [ht])⟩, hS.F ht⟩) hS.2.2 dX11_isRatioOrTerm_21

set_option maxHeartbeats 4000000 in
set_option maxRecDepth 100000 in
theorem c_X11_isPolynomial (l : Launch) (dC : Nat → ClassId) (dI : Nat → Nat → Nat) (aC : Nat → ClassId) (a : Nat) (sz : Nat) : Met l yX11_isPolynomial w_X11_isPolynomial ({ frames := 1, cells := 0, slots := 0, locals := 24 }) (zPre (dC, dI) aC [(a, .inr (5, [.int 0, .int 0, .int 0, .int 0, .int 0, .int 0, .int 0, .ref (a + 1), .ref (a + 2), .ref (a + 3), .ref (a + 4), .ref (a + 5)]))] sz [.ref a]) (va_Qi (fun (r : Int32) (_ : Unit) => r = 0) (fun _ zt => zt.heap.size = sz) (zN sz)) 0 0 (zN sz) := by
  refine Met.ofW (cc := cX11_isPolynomial) (maxL := 1) (ret := (some .boolean)) (by decide) rfl ?_
  intro p e s m args below meth c s₁ B hml hv
  generalize hQ : MQ below _ _ s _ _ _ = QQ
  obtain ⟨rfl, hsz, hP, hK, hD0⟩ := hv
  have hx := B.exec
  have hb := B.bytes
  have hr := B.returns
  have hts := atoms_spec (ws := w_X11_isPolynomial) B.pre
  have hall := fun (w : Cond) (h : w ∈ zAll) => hts w (List.mem_cons_of_mem _ h)
  have hown : s.vm.findClass RX11 = some m.cls := findClass_of_methodNamed B.named
  have hlocks := B.notSynchronized
  subst hsz
  have hA : ∀ q : Nat, s.heap.size ≤ q → zN s.heap.size q := fun q h => h
  have hS : va_S (zN s.heap.size) s.heap s.heap [] := va_S.rf
  have hD := hD0
  have hl := lv_entry ([.ref a]) (n := 1) (Nat.le_of_ble_eq_true rfl)
  rw [lg_entry_eq]
  generalize (lg_sl ([.ref a]) ++ List.replicate (1 - (lg_sl ([.ref a])).length) Slot.unset).toArray = ls at hl ⊢
  have hl : lv_has ls 1 [(0, .ref a)] := hl
  refine lv_aload_n hx hb dX11_isPolynomial_0 rfl (lv_at hl 0 rfl) ?_
  refine va_get (D := (dC, dI)) (ci := 5) (v := .int 0) (C := RX6) (T := TX6) (N := 12) hx hb hall zx_6 hown hK.1 hP 0 rfl rfl 0 (by decide) (hall _ zw_212) (fun _ h9 => h9) rfl dX11_isPolynomial_1 ?_
  refine lv_iconst (v := 1) hx hb dX11_isPolynomial_4 (by decide) ?_
  refine lv_icmp_ne (tgt := 19) hx hb dX11_isPolynomial_5 (by decide) (fun _ => ?_) (fun c_5_b5142 => absurd c_5_b5142 (by decide))
  refine lv_iconst (v := 0) hx hb dX11_isPolynomial_19 (by decide) ?_
  rw [← hQ]
  exact W.zret (v := 0) hx hb hr (by rfl) (fun zt ht hW => ⟨⟨0, (), rfl, rfl, (show zt.heap.size = s.heap.size by rw [ht])⟩, hS.F ht⟩) hS.2.2 dX11_isPolynomial_20

set_option maxHeartbeats 4000000 in
set_option maxRecDepth 100000 in
theorem c_X11_isFactor (l : Launch) (dC : Nat → ClassId) (dI : Nat → Nat → Nat) (aC : Nat → ClassId) (a : Nat) (sz : Nat) : Met l yX11_isFactor w_X11_isFactor ({ frames := 2, cells := 0, slots := 0, locals := 44 }) (zPre (dC, dI) aC [(a, .inr (5, [.int 0, .int 0, .int 0, .int 0, .int 0, .int 0, .int 0, .ref (a + 1), .ref (a + 2), .ref (a + 3), .ref (a + 4), .ref (a + 5)]))] sz [.ref a]) (va_Qi (fun (r : Int32) (_ : Unit) => r = 0) (fun _ zt => zt.heap.size = sz) (zN sz)) 0 0 (zN sz) := by
  refine Met.ofW (cc := cX11_isFactor) (maxL := 1) (ret := (some .boolean)) (by decide) rfl ?_
  intro p e s m args below meth c s₁ B hml hv
  generalize hQ : MQ below _ _ s _ _ _ = QQ
  obtain ⟨rfl, hsz, hP, hK, hD0⟩ := hv
  have hx := B.exec
  have hb := B.bytes
  have hr := B.returns
  have hts := atoms_spec (ws := w_X11_isFactor) B.pre
  have hall := fun (w : Cond) (h : w ∈ zAll) => hts w (List.mem_cons_of_mem _ h)
  have hown : s.vm.findClass RX11 = some m.cls := findClass_of_methodNamed B.named
  have hlocks := B.notSynchronized
  subst hsz
  have hA : ∀ q : Nat, s.heap.size ≤ q → zN s.heap.size q := fun q h => h
  have hS : va_S (zN s.heap.size) s.heap s.heap [] := va_S.rf
  have hD := hD0
  have hl := lv_entry ([.ref a]) (n := 1) (Nat.le_of_ble_eq_true rfl)
  rw [lg_entry_eq]
  generalize (lg_sl ([.ref a]) ++ List.replicate (1 - (lg_sl ([.ref a])).length) Slot.unset).toArray = ls at hl ⊢
  have hl : lv_has ls 1 [(0, .ref a)] := hl
  refine lv_aload_n hx hb dX11_isFactor_0 rfl (lv_at hl 0 rfl) ?_
  refine zro_i hS hA (va_runS (As := [.ref a]) (rest := []) ⟨hx, hb, hml, hown, hall⟩ (c_X11_isPolynomial l dC dI aC a s.heap.size) (va_cwS 1 hall (zgS zw_213 zw_215 zw_802 g_X11_isPolynomial) rfl rfl rfl (by decide +kernel) ⟨Nat.le_of_ble_eq_true rfl, Nat.le_of_ble_eq_true rfl⟩) (zPre_S (As := [.ref a]) hK hP hD [0] rfl (by decide +kernel)) rfl rfl hl.1 rfl (lv_room (Nat.le_of_ble_eq_true rfl)) dX11_isFactor_1 ⟨Nat.le_of_ble_eq_true rfl, Nat.le_of_ble_eq_true rfl⟩) (fun r5143 L5144 hw hS' => ?_)
  clear hS
  have hS := hS'
  clear hS'
  obtain rfl : r5143 = 0 := hw
  try clear hw
  refine lv_if_eq (tgt := 25) hx hb dX11_isFactor_4 (by decide) (fun _ => ?_) (fun c_4_b5145 => absurd (by decide) c_4_b5145)
  refine lv_iconst (v := 0) hx hb dX11_isFactor_25 (by decide) ?_
  rw [← hQ]
  exact W.zret (v := 0) hx hb hr (by rfl) (fun zt ht hW => ⟨⟨0, (), rfl, rfl, (show zt.heap.size = s.heap.size by rw [ht])⟩, hS.F ht⟩) hS.2.2 dX11_isFactor_26

def zface1 (y : Int32) (u v : Int32) : Int32 := if zok y then u else v
def zwork (y z : Int32) : Int32 := if zok y then (if zok z then -3 else -1) else -1
def zfive (x : Int32) : Int32 := if x < 0 then -1 else if 4 < x then -1 else -3
def zjoin (op y z : Int32) : Int32 := if op < 0 then (if op = 5 then zwork y z else zface1 z (-3) (-1)) else if 2 < op then (if op = 5 then zwork y z else zface1 z (-3) (-1)) else zwork y z

set_option maxHeartbeats 4000000 in
set_option maxRecDepth 100000 in
theorem c_X11_write_out (l : Launch) (dC : Nat → ClassId) (dI : Nat → Nat → Nat) (aC : Nat → ClassId) (h0 b : Nat) (x : Int32) (sz : Nat) (hxm : zslot b x = none) : Met l yX11_write w_X11_write ({ frames := 2, cells := 0, slots := 0, locals := 45 }) (zPre (dC, dI) aC [(h0, .inr (10, [.ref (b + 0), .ref (b + 73), .ref (b + 75), .ref (b + 76), .ref (b + 80), .ref (b + 81), .ref (b + 88), .ref (b + 95), .ref (b + 100), .ref (b + 106), .int 0, .ref (b + 107), .int 0])), (b + 0, .inl (aC 3, 12, .inr (.inr (.inr (.inr (zrefs (fun i => b + (1 + 6 * i)) 12))))))] sz [.ref h0, .int x]) (va_Qi (fun (r : Int32) (_ : Unit) => r = -1) (fun _ zt => zt.heap.size = sz) (zN sz)) 0 0 (zN sz) := by
  refine Met.ofW (cc := cX11_write) (maxL := 3) (ret := (some .int)) (by decide) rfl ?_
  intro p e s m args below meth c s₁ B hml hv
  generalize hQ : MQ below _ _ s _ _ _ = QQ
  obtain ⟨rfl, hsz, hP, hK, hD0⟩ := hv
  have hx := B.exec
  have hb := B.bytes
  have hr := B.returns
  have hts := atoms_spec (ws := w_X11_write) B.pre
  have hall := fun (w : Cond) (h : w ∈ zAll) => hts w (List.mem_cons_of_mem _ h)
  have hown : s.vm.findClass RX11 = some m.cls := findClass_of_methodNamed B.named
  have hlocks := B.notSynchronized
  subst hsz
  have hA : ∀ q : Nat, s.heap.size ≤ q → zN s.heap.size q := fun q h => h
  have hS : va_S (zN s.heap.size) s.heap s.heap [] := va_S.rf
  have hD := hD0
  have hl := lv_entry ([.ref h0, .int x]) (n := 3) (Nat.le_of_ble_eq_true rfl)
  rw [lg_entry_eq]
  generalize (lg_sl ([.ref h0, .int x]) ++ List.replicate (3 - (lg_sl ([.ref h0, .int x])).length) Slot.unset).toArray = ls at hl ⊢
  have hl : lv_has ls 3 [(0, .ref h0), (1, .int x)] := hl
  refine lv_aload_n hx hb dX11_write_0 rfl (lv_at hl 0 rfl) ?_
  refine lv_iload_n hx hb dX11_write_1 rfl (lv_at hl 1 rfl) ?_
  refine zro_q hS hA (va_runV (As := [.int x]) (rest := []) ⟨hx, hb, hml, hown, hall⟩ (c_X11_slotAt l dC dI aC h0 b x s.heap.size) (cwV 1 hall (zgV zw_225 zw_227 zw_228 zw_802 g_X11_slotAt rfl) rfl rfl rfl (by decide +kernel) ⟨Nat.le_of_ble_eq_true rfl, Nat.le_of_ble_eq_true rfl⟩) (zPre_V (As := [.int x]) hK hP hD [0, 1] rfl (by decide +kernel) (ci := 10) (q0 := 0) rfl rfl) rfl rfl hl.1 rfl (lv_room (Nat.le_of_ble_eq_true rfl)) dX11_write_2 ⟨Nat.le_of_ble_eq_true rfl, Nat.le_of_ble_eq_true rfl⟩) (fun r5146 L5147 hw hS' => ?_)
  clear hS
  have hS := hS'
  clear hS'
  obtain rfl : r5146 = none := hw.trans hxm
  try clear hw
  refine lv_astore_nN (lv' := [(2, .null), (0, .ref h0), (1, .int x)]) hx hb dX11_write_5 rfl hl (by decide) rfl (fun ls5148 hl' => ?_)
  clear hl
  have hl : lv_has ls5148 3 [(2, .null), (0, .ref h0), (1, .int x)] := hl'
  clear hl'
  refine lv_aload_nN hx hb dX11_write_6 rfl (lv_at hl 0 rfl) ?_
  refine lv_ifnonnullN hx hb dX11_write_7 ?_
  show W p l e _ s m _ below meth c _ _ _ _ QQ (F0 m 10 ls5148 [])
  refine lv_iconst (v := (-1)) hx hb dX11_write_10 (by decide) ?_
  rw [← hQ]
  exact W.iret (v := (-1)) hx hb hr (fun zt ht hW => ⟨⟨(-1), (), rfl, rfl, (show zt.heap.size = s.heap.size by rw [ht])⟩, hS.F ht⟩) hS.2.2 dX11_write_11

set_option maxHeartbeats 4000000 in
set_option maxRecDepth 100000 in
theorem c_X11_write_in (l : Launch) (dC : Nat → ClassId) (dI : Nat → Nat → Nat) (aC : Nat → ClassId) (h0 b a : Nat) (x : Int32) (sz : Nat) (hxm : zslot b x = some a) : Met l yX11_write w_X11_write ({ frames := 2, cells := 0, slots := 0, locals := 45 }) (zPre (dC, dI) aC [(h0, .inr (10, [.ref (b + 0), .ref (b + 73), .ref (b + 75), .ref (b + 76), .ref (b + 80), .ref (b + 81), .ref (b + 88), .ref (b + 95), .ref (b + 100), .ref (b + 106), .int 0, .ref (b + 107), .int 0])), (b + 0, .inl (aC 3, 12, .inr (.inr (.inr (.inr (zrefs (fun i => b + (1 + 6 * i)) 12)))))), (a, .inr (5, [.int 0, .int 0, .int 0, .int 0, .int 0, .int 0, .int 0, .ref (a + 1), .ref (a + 2), .ref (a + 3), .ref (a + 4), .ref (a + 5)]))] sz [.ref h0, .int x]) (va_Qi (fun (r : Int32) (_ : Unit) => r = -3) (fun _ zt => zt.heap.size = sz) (zN sz)) 0 0 (zN sz) := by
  refine Met.ofW (cc := cX11_write) (maxL := 3) (ret := (some .int)) (by decide) rfl ?_
  intro p e s m args below meth c s₁ B hml hv
  generalize hQ : MQ below _ _ s _ _ _ = QQ
  obtain ⟨rfl, hsz, hP, hK, hD0⟩ := hv
  have hx := B.exec
  have hb := B.bytes
  have hr := B.returns
  have hts := atoms_spec (ws := w_X11_write) B.pre
  have hall := fun (w : Cond) (h : w ∈ zAll) => hts w (List.mem_cons_of_mem _ h)
  have hown : s.vm.findClass RX11 = some m.cls := findClass_of_methodNamed B.named
  have hlocks := B.notSynchronized
  subst hsz
  have hA : ∀ q : Nat, s.heap.size ≤ q → zN s.heap.size q := fun q h => h
  have hS : va_S (zN s.heap.size) s.heap s.heap [] := va_S.rf
  have hD := hD0
  have hl := lv_entry ([.ref h0, .int x]) (n := 3) (Nat.le_of_ble_eq_true rfl)
  rw [lg_entry_eq]
  generalize (lg_sl ([.ref h0, .int x]) ++ List.replicate (3 - (lg_sl ([.ref h0, .int x])).length) Slot.unset).toArray = ls at hl ⊢
  have hl : lv_has ls 3 [(0, .ref h0), (1, .int x)] := hl
  refine lv_aload_n hx hb dX11_write_0 rfl (lv_at hl 0 rfl) ?_
  refine lv_iload_n hx hb dX11_write_1 rfl (lv_at hl 1 rfl) ?_
  refine zro_q hS hA (va_runV (As := [.int x]) (rest := []) ⟨hx, hb, hml, hown, hall⟩ (c_X11_slotAt l dC dI aC h0 b x s.heap.size) (cwV 1 hall (zgV zw_225 zw_227 zw_228 zw_802 g_X11_slotAt rfl) rfl rfl rfl (by decide +kernel) ⟨Nat.le_of_ble_eq_true rfl, Nat.le_of_ble_eq_true rfl⟩) (zPre_V (As := [.int x]) hK hP hD [0, 1] rfl (by decide +kernel) (ci := 10) (q0 := 0) rfl rfl) rfl rfl hl.1 rfl (lv_room (Nat.le_of_ble_eq_true rfl)) dX11_write_2 ⟨Nat.le_of_ble_eq_true rfl, Nat.le_of_ble_eq_true rfl⟩) (fun r5149 L5150 hw hS' => ?_)
  clear hS
  have hS := hS'
  clear hS'
  obtain rfl : r5149 = some a := hw.trans hxm
  try clear hw
  refine lv_astore_n (lv' := [(2, .ref a), (0, .ref h0), (1, .int x)]) hx hb dX11_write_5 rfl hl (by decide) rfl (fun ls5151 hl' => ?_)
  clear hl
  have hl : lv_has ls5151 3 [(2, .ref a), (0, .ref h0), (1, .int x)] := hl'
  clear hl'
  refine lv_aload_n hx hb dX11_write_6 rfl (lv_at hl 0 rfl) ?_
  refine lv_ifnonnull (tgt := 12) hx hb dX11_write_7 (by decide) ?_
  show W p l e _ s m _ below meth c _ _ _ _ QQ (F0 m 12 ls5151 [])
  refine lv_aload_n hx hb dX11_write_12 rfl (lv_at hl 0 rfl) ?_
  refine zro_i hS hA (va_runS (As := [.ref a]) (rest := []) ⟨hx, hb, hml, hown, hall⟩ (c_X11_isRatioOrTerm l dC dI aC a s.heap.size) (va_cwS 1 hall (zgS zw_248 zw_250 zw_802 g_X11_isRatioOrTerm) rfl rfl rfl (by decide +kernel) ⟨Nat.le_of_ble_eq_true rfl, Nat.le_of_ble_eq_true rfl⟩) (zPre_S (As := [.ref a]) hK hP hD [2] rfl (by decide +kernel)) rfl rfl hl.1 rfl (lv_room (Nat.le_of_ble_eq_true rfl)) dX11_write_13 ⟨Nat.le_of_ble_eq_true rfl, Nat.le_of_ble_eq_true rfl⟩) (fun r5152 L5153 hw hS' => ?_)
  clear hS
  have hS := hS'
  clear hS'
  obtain rfl : r5152 = 0 := hw
  try clear hw
  refine lv_if_eq (tgt := 30) hx hb dX11_write_16 (by decide) (fun _ => ?_) (fun c_16_b5154 => absurd (by decide) c_16_b5154)
  refine lv_bipush (v := (-3)) hx hb dX11_write_30 (by decide) ?_
  rw [← hQ]
  exact W.iret (v := (-3)) hx hb hr (fun zt ht hW => ⟨⟨(-3), (), rfl, rfl, (show zt.heap.size = s.heap.size by rw [ht])⟩, hS.F ht⟩) hS.2.2 dX11_write_32

set_option maxHeartbeats 4000000 in
set_option maxRecDepth 100000 in
theorem c_X11_kind_out (l : Launch) (dC : Nat → ClassId) (dI : Nat → Nat → Nat) (aC : Nat → ClassId) (h0 b : Nat) (x : Int32) (sz : Nat) (hxm : zslot b x = none) : Met l yX11_kind w_X11_kind ({ frames := 2, cells := 0, slots := 0, locals := 45 }) (zPre (dC, dI) aC [(h0, .inr (10, [.ref (b + 0), .ref (b + 73), .ref (b + 75), .ref (b + 76), .ref (b + 80), .ref (b + 81), .ref (b + 88), .ref (b + 95), .ref (b + 100), .ref (b + 106), .int 0, .ref (b + 107), .int 0])), (b + 0, .inl (aC 3, 12, .inr (.inr (.inr (.inr (zrefs (fun i => b + (1 + 6 * i)) 12))))))] sz [.ref h0, .int x]) (va_Qi (fun (r : Int32) (_ : Unit) => r = -1) (fun _ zt => zt.heap.size = sz) (zN sz)) 0 0 (zN sz) := by
  refine Met.ofW (cc := cX11_kind) (maxL := 3) (ret := (some .int)) (by decide) rfl ?_
  intro p e s m args below meth c s₁ B hml hv
  generalize hQ : MQ below _ _ s _ _ _ = QQ
  obtain ⟨rfl, hsz, hP, hK, hD0⟩ := hv
  have hx := B.exec
  have hb := B.bytes
  have hr := B.returns
  have hts := atoms_spec (ws := w_X11_kind) B.pre
  have hall := fun (w : Cond) (h : w ∈ zAll) => hts w (List.mem_cons_of_mem _ h)
  have hown : s.vm.findClass RX11 = some m.cls := findClass_of_methodNamed B.named
  have hlocks := B.notSynchronized
  subst hsz
  have hA : ∀ q : Nat, s.heap.size ≤ q → zN s.heap.size q := fun q h => h
  have hS : va_S (zN s.heap.size) s.heap s.heap [] := va_S.rf
  have hD := hD0
  have hl := lv_entry ([.ref h0, .int x]) (n := 3) (Nat.le_of_ble_eq_true rfl)
  rw [lg_entry_eq]
  generalize (lg_sl ([.ref h0, .int x]) ++ List.replicate (3 - (lg_sl ([.ref h0, .int x])).length) Slot.unset).toArray = ls at hl ⊢
  have hl : lv_has ls 3 [(0, .ref h0), (1, .int x)] := hl
  refine lv_aload_n hx hb dX11_kind_0 rfl (lv_at hl 0 rfl) ?_
  refine lv_iload_n hx hb dX11_kind_1 rfl (lv_at hl 1 rfl) ?_
  refine zro_q hS hA (va_runV (As := [.int x]) (rest := []) ⟨hx, hb, hml, hown, hall⟩ (c_X11_slotAt l dC dI aC h0 b x s.heap.size) (cwV 1 hall (zgV zw_225 zw_227 zw_228 zw_802 g_X11_slotAt rfl) rfl rfl rfl (by decide +kernel) ⟨Nat.le_of_ble_eq_true rfl, Nat.le_of_ble_eq_true rfl⟩) (zPre_V (As := [.int x]) hK hP hD [0, 1] rfl (by decide +kernel) (ci := 10) (q0 := 0) rfl rfl) rfl rfl hl.1 rfl (lv_room (Nat.le_of_ble_eq_true rfl)) dX11_kind_2 ⟨Nat.le_of_ble_eq_true rfl, Nat.le_of_ble_eq_true rfl⟩) (fun r5155 L5156 hw hS' => ?_)
  clear hS
  have hS := hS'
  clear hS'
  obtain rfl : r5155 = none := hw.trans hxm
  try clear hw
  refine lv_astore_nN (lv' := [(2, .null), (0, .ref h0), (1, .int x)]) hx hb dX11_kind_5 rfl hl (by decide) rfl (fun ls5157 hl' => ?_)
  clear hl
  have hl : lv_has ls5157 3 [(2, .null), (0, .ref h0), (1, .int x)] := hl'
  clear hl'
  refine lv_aload_nN hx hb dX11_kind_6 rfl (lv_at hl 0 rfl) ?_
  refine lv_ifnonnullN hx hb dX11_kind_7 ?_
  show W p l e _ s m _ below meth c _ _ _ _ QQ (F0 m 10 ls5157 [])
  refine lv_iconst (v := (-1)) hx hb dX11_kind_10 (by decide) ?_
  refine lv_goto (tgt := 18) hx hb dX11_kind_11 (by decide) ?_
  rw [← hQ]
  exact W.iret (v := (-1)) hx hb hr (fun zt ht hW => ⟨⟨(-1), (), rfl, rfl, (show zt.heap.size = s.heap.size by rw [ht])⟩, hS.F ht⟩) hS.2.2 dX11_kind_18

set_option maxHeartbeats 4000000 in
set_option maxRecDepth 100000 in
theorem c_X11_kind_in (l : Launch) (dC : Nat → ClassId) (dI : Nat → Nat → Nat) (aC : Nat → ClassId) (h0 b a : Nat) (x : Int32) (sz : Nat) (hxm : zslot b x = some a) : Met l yX11_kind w_X11_kind ({ frames := 2, cells := 0, slots := 0, locals := 45 }) (zPre (dC, dI) aC [(h0, .inr (10, [.ref (b + 0), .ref (b + 73), .ref (b + 75), .ref (b + 76), .ref (b + 80), .ref (b + 81), .ref (b + 88), .ref (b + 95), .ref (b + 100), .ref (b + 106), .int 0, .ref (b + 107), .int 0])), (b + 0, .inl (aC 3, 12, .inr (.inr (.inr (.inr (zrefs (fun i => b + (1 + 6 * i)) 12)))))), (a, .inr (5, [.int 0, .int 0, .int 0, .int 0, .int 0, .int 0, .int 0, .ref (a + 1), .ref (a + 2), .ref (a + 3), .ref (a + 4), .ref (a + 5)]))] sz [.ref h0, .int x]) (va_Qi (fun (r : Int32) (_ : Unit) => r = 0) (fun _ zt => zt.heap.size = sz) (zN sz)) 0 0 (zN sz) := by
  refine Met.ofW (cc := cX11_kind) (maxL := 3) (ret := (some .int)) (by decide) rfl ?_
  intro p e s m args below meth c s₁ B hml hv
  generalize hQ : MQ below _ _ s _ _ _ = QQ
  obtain ⟨rfl, hsz, hP, hK, hD0⟩ := hv
  have hx := B.exec
  have hb := B.bytes
  have hr := B.returns
  have hts := atoms_spec (ws := w_X11_kind) B.pre
  have hall := fun (w : Cond) (h : w ∈ zAll) => hts w (List.mem_cons_of_mem _ h)
  have hown : s.vm.findClass RX11 = some m.cls := findClass_of_methodNamed B.named
  have hlocks := B.notSynchronized
  subst hsz
  have hA : ∀ q : Nat, s.heap.size ≤ q → zN s.heap.size q := fun q h => h
  have hS : va_S (zN s.heap.size) s.heap s.heap [] := va_S.rf
  have hD := hD0
  have hl := lv_entry ([.ref h0, .int x]) (n := 3) (Nat.le_of_ble_eq_true rfl)
  rw [lg_entry_eq]
  generalize (lg_sl ([.ref h0, .int x]) ++ List.replicate (3 - (lg_sl ([.ref h0, .int x])).length) Slot.unset).toArray = ls at hl ⊢
  have hl : lv_has ls 3 [(0, .ref h0), (1, .int x)] := hl
  refine lv_aload_n hx hb dX11_kind_0 rfl (lv_at hl 0 rfl) ?_
  refine lv_iload_n hx hb dX11_kind_1 rfl (lv_at hl 1 rfl) ?_
  refine zro_q hS hA (va_runV (As := [.int x]) (rest := []) ⟨hx, hb, hml, hown, hall⟩ (c_X11_slotAt l dC dI aC h0 b x s.heap.size) (cwV 1 hall (zgV zw_225 zw_227 zw_228 zw_802 g_X11_slotAt rfl) rfl rfl rfl (by decide +kernel) ⟨Nat.le_of_ble_eq_true rfl, Nat.le_of_ble_eq_true rfl⟩) (zPre_V (As := [.int x]) hK hP hD [0, 1] rfl (by decide +kernel) (ci := 10) (q0 := 0) rfl rfl) rfl rfl hl.1 rfl (lv_room (Nat.le_of_ble_eq_true rfl)) dX11_kind_2 ⟨Nat.le_of_ble_eq_true rfl, Nat.le_of_ble_eq_true rfl⟩) (fun r5158 L5159 hw hS' => ?_)
  clear hS
  have hS := hS'
  clear hS'
  obtain rfl : r5158 = some a := hw.trans hxm
  try clear hw
  refine lv_astore_n (lv' := [(2, .ref a), (0, .ref h0), (1, .int x)]) hx hb dX11_kind_5 rfl hl (by decide) rfl (fun ls5160 hl' => ?_)
  clear hl
  have hl : lv_has ls5160 3 [(2, .ref a), (0, .ref h0), (1, .int x)] := hl'
  clear hl'
  refine lv_aload_n hx hb dX11_kind_6 rfl (lv_at hl 0 rfl) ?_
  refine lv_ifnonnull (tgt := 14) hx hb dX11_kind_7 (by decide) ?_
  show W p l e _ s m _ below meth c _ _ _ _ QQ (F0 m 14 ls5160 [])
  refine lv_aload_n hx hb dX11_kind_14 rfl (lv_at hl 0 rfl) ?_
  refine va_get (D := (dC, dI)) (ci := 5) (v := .int 0) (C := RX6) (T := TX6) (N := 12) hx hb hall zx_6 hown hK.1 hP 2 rfl rfl 0 (by decide) (hall _ zw_212) (fun _ h9 => h9) rfl dX11_kind_15 ?_
  rw [← hQ]
  exact W.iret (v := 0) hx hb hr (fun zt ht hW => ⟨⟨0, (), rfl, rfl, (show zt.heap.size = s.heap.size by rw [ht])⟩, hS.F ht⟩) hS.2.2 dX11_kind_18

set_option maxHeartbeats 4000000 in
set_option maxRecDepth 100000 in
theorem c_X11_degree_out (l : Launch) (dC : Nat → ClassId) (dI : Nat → Nat → Nat) (aC : Nat → ClassId) (h0 b : Nat) (x y z : Int32) (sz : Nat) (hxm : zslot b x = none) : Met l yX11_degree w_X11_degree ({ frames := 2, cells := 0, slots := 0, locals := 45 }) (zPre (dC, dI) aC [(h0, .inr (10, [.ref (b + 0), .ref (b + 73), .ref (b + 75), .ref (b + 76), .ref (b + 80), .ref (b + 81), .ref (b + 88), .ref (b + 95), .ref (b + 100), .ref (b + 106), .int 0, .ref (b + 107), .int 0])), (b + 0, .inl (aC 3, 12, .inr (.inr (.inr (.inr (zrefs (fun i => b + (1 + 6 * i)) 12))))))] sz [.ref h0, .int x, .int y, .int z]) (va_Qi (fun (r : Int32) (_ : Unit) => r = -1) (fun _ zt => zt.heap.size = sz) (zN sz)) 0 0 (zN sz) := by
  refine Met.ofW (cc := cX11_degree) (maxL := 5) (ret := (some .int)) (by decide) rfl ?_
  intro p e s m args below meth c s₁ B hml hv
  generalize hQ : MQ below _ _ s _ _ _ = QQ
  obtain ⟨rfl, hsz, hP, hK, hD0⟩ := hv
  have hx := B.exec
  have hb := B.bytes
  have hr := B.returns
  have hts := atoms_spec (ws := w_X11_degree) B.pre
  have hall := fun (w : Cond) (h : w ∈ zAll) => hts w (List.mem_cons_of_mem _ h)
  have hown : s.vm.findClass RX11 = some m.cls := findClass_of_methodNamed B.named
  have hlocks := B.notSynchronized
  subst hsz
  have hA : ∀ q : Nat, s.heap.size ≤ q → zN s.heap.size q := fun q h => h
  have hS : va_S (zN s.heap.size) s.heap s.heap [] := va_S.rf
  have hD := hD0
  have hl := lv_entry ([.ref h0, .int x, .int y, .int z]) (n := 5) (Nat.le_of_ble_eq_true rfl)
  rw [lg_entry_eq]
  generalize (lg_sl ([.ref h0, .int x, .int y, .int z]) ++ List.replicate (5 - (lg_sl ([.ref h0, .int x, .int y, .int z])).length) Slot.unset).toArray = ls at hl ⊢
  have hl : lv_has ls 5 [(0, .ref h0), (1, .int x), (2, .int y), (3, .int z)] := hl
  refine lv_aload_n hx hb dX11_degree_0 rfl (lv_at hl 0 rfl) ?_
  refine lv_iload_n hx hb dX11_degree_1 rfl (lv_at hl 1 rfl) ?_
  refine zro_q hS hA (va_runV (As := [.int x]) (rest := []) ⟨hx, hb, hml, hown, hall⟩ (c_X11_slotAt l dC dI aC h0 b x s.heap.size) (cwV 1 hall (zgV zw_225 zw_227 zw_228 zw_802 g_X11_slotAt rfl) rfl rfl rfl (by decide +kernel) ⟨Nat.le_of_ble_eq_true rfl, Nat.le_of_ble_eq_true rfl⟩) (zPre_V (As := [.int x]) hK hP hD [0, 1] rfl (by decide +kernel) (ci := 10) (q0 := 0) rfl rfl) rfl rfl hl.1 rfl (lv_room (Nat.le_of_ble_eq_true rfl)) dX11_degree_2 ⟨Nat.le_of_ble_eq_true rfl, Nat.le_of_ble_eq_true rfl⟩) (fun r5161 L5162 hw hS' => ?_)
  clear hS
  have hS := hS'
  clear hS'
  obtain rfl : r5161 = none := hw.trans hxm
  try clear hw
  refine lv_astoreN (lv' := [(4, .null), (0, .ref h0), (1, .int x), (2, .int y), (3, .int z)]) hx hb dX11_degree_5 hl (by decide) rfl (fun ls5163 hl' => ?_)
  clear hl
  have hl : lv_has ls5163 5 [(4, .null), (0, .ref h0), (1, .int x), (2, .int y), (3, .int z)] := hl'
  clear hl'
  refine lv_aloadN hx hb dX11_degree_7 (lv_at hl 0 rfl) ?_
  refine lv_ifnonnullN hx hb dX11_degree_9 ?_
  show W p l e _ s m _ below meth c _ _ _ _ QQ (F0 m 12 ls5163 [])
  refine lv_iconst (v := (-1)) hx hb dX11_degree_12 (by decide) ?_
  rw [← hQ]
  exact W.iret (v := (-1)) hx hb hr (fun zt ht hW => ⟨⟨(-1), (), rfl, rfl, (show zt.heap.size = s.heap.size by rw [ht])⟩, hS.F ht⟩) hS.2.2 dX11_degree_13

set_option maxHeartbeats 4000000 in
set_option maxRecDepth 100000 in
theorem c_X11_degree_in (l : Launch) (dC : Nat → ClassId) (dI : Nat → Nat → Nat) (aC : Nat → ClassId) (h0 b a : Nat) (x y z : Int32) (sz : Nat) (hxm : zslot b x = some a) : Met l yX11_degree w_X11_degree ({ frames := 2, cells := 0, slots := 0, locals := 45 }) (zPre (dC, dI) aC [(h0, .inr (10, [.ref (b + 0), .ref (b + 73), .ref (b + 75), .ref (b + 76), .ref (b + 80), .ref (b + 81), .ref (b + 88), .ref (b + 95), .ref (b + 100), .ref (b + 106), .int 0, .ref (b + 107), .int 0])), (b + 0, .inl (aC 3, 12, .inr (.inr (.inr (.inr (zrefs (fun i => b + (1 + 6 * i)) 12)))))), (a, .inr (5, [.int 0, .int 0, .int 0, .int 0, .int 0, .int 0, .int 0, .ref (a + 1), .ref (a + 2), .ref (a + 3), .ref (a + 4), .ref (a + 5)]))] sz [.ref h0, .int x, .int y, .int z]) (va_Qi (fun (r : Int32) (_ : Unit) => r = -3) (fun _ zt => zt.heap.size = sz) (zN sz)) 0 0 (zN sz) := by
  refine Met.ofW (cc := cX11_degree) (maxL := 5) (ret := (some .int)) (by decide) rfl ?_
  intro p e s m args below meth c s₁ B hml hv
  generalize hQ : MQ below _ _ s _ _ _ = QQ
  obtain ⟨rfl, hsz, hP, hK, hD0⟩ := hv
  have hx := B.exec
  have hb := B.bytes
  have hr := B.returns
  have hts := atoms_spec (ws := w_X11_degree) B.pre
  have hall := fun (w : Cond) (h : w ∈ zAll) => hts w (List.mem_cons_of_mem _ h)
  have hown : s.vm.findClass RX11 = some m.cls := findClass_of_methodNamed B.named
  have hlocks := B.notSynchronized
  subst hsz
  have hA : ∀ q : Nat, s.heap.size ≤ q → zN s.heap.size q := fun q h => h
  have hS : va_S (zN s.heap.size) s.heap s.heap [] := va_S.rf
  have hD := hD0
  have hl := lv_entry ([.ref h0, .int x, .int y, .int z]) (n := 5) (Nat.le_of_ble_eq_true rfl)
  rw [lg_entry_eq]
  generalize (lg_sl ([.ref h0, .int x, .int y, .int z]) ++ List.replicate (5 - (lg_sl ([.ref h0, .int x, .int y, .int z])).length) Slot.unset).toArray = ls at hl ⊢
  have hl : lv_has ls 5 [(0, .ref h0), (1, .int x), (2, .int y), (3, .int z)] := hl
  refine lv_aload_n hx hb dX11_degree_0 rfl (lv_at hl 0 rfl) ?_
  refine lv_iload_n hx hb dX11_degree_1 rfl (lv_at hl 1 rfl) ?_
  refine zro_q hS hA (va_runV (As := [.int x]) (rest := []) ⟨hx, hb, hml, hown, hall⟩ (c_X11_slotAt l dC dI aC h0 b x s.heap.size) (cwV 1 hall (zgV zw_225 zw_227 zw_228 zw_802 g_X11_slotAt rfl) rfl rfl rfl (by decide +kernel) ⟨Nat.le_of_ble_eq_true rfl, Nat.le_of_ble_eq_true rfl⟩) (zPre_V (As := [.int x]) hK hP hD [0, 1] rfl (by decide +kernel) (ci := 10) (q0 := 0) rfl rfl) rfl rfl hl.1 rfl (lv_room (Nat.le_of_ble_eq_true rfl)) dX11_degree_2 ⟨Nat.le_of_ble_eq_true rfl, Nat.le_of_ble_eq_true rfl⟩) (fun r5164 L5165 hw hS' => ?_)
  clear hS
  have hS := hS'
  clear hS'
  obtain rfl : r5164 = some a := hw.trans hxm
  try clear hw
  refine lv_astore (lv' := [(4, .ref a), (0, .ref h0), (1, .int x), (2, .int y), (3, .int z)]) hx hb dX11_degree_5 hl (by decide) rfl (fun ls5166 hl' => ?_)
  clear hl
  have hl : lv_has ls5166 5 [(4, .ref a), (0, .ref h0), (1, .int x), (2, .int y), (3, .int z)] := hl'
  clear hl'
  refine lv_aload hx hb dX11_degree_7 (lv_at hl 0 rfl) ?_
  refine lv_ifnonnull (tgt := 14) hx hb dX11_degree_9 (by decide) ?_
  show W p l e _ s m _ below meth c _ _ _ _ QQ (F0 m 14 ls5166 [])
  refine lv_aload hx hb dX11_degree_14 (lv_at hl 0 rfl) ?_
  refine va_get (D := (dC, dI)) (ci := 5) (v := .int 0) (C := RX6) (T := TX6) (N := 12) hx hb hall zx_6 hown hK.1 hP 2 rfl rfl 0 (by decide) (hall _ zw_212) (fun _ h9 => h9) rfl dX11_degree_16 ?_
  refine lv_iconst (v := 1) hx hb dX11_degree_19 (by decide) ?_
  refine lv_icmp_eq (tgt := 44) hx hb dX11_degree_20 (by decide) (fun c_20_b5167 => absurd c_20_b5167 (by decide)) (fun _ => ?_)
  refine lv_aload hx hb dX11_degree_23 (lv_at hl 0 rfl) ?_
  show W p l e _ s m _ below meth c _ _ _ _ QQ (F0 m 25 ls5166 [.ref a])
  refine va_get (D := (dC, dI)) (ci := 5) (v := .int 0) (C := RX6) (T := TX6) (N := 12) hx hb hall zx_6 hown hK.1 hP 2 rfl rfl 0 (by decide) (hall _ zw_212) (fun _ h9 => h9) rfl dX11_degree_25 ?_
  refine lv_iconst (v := 2) hx hb dX11_degree_28 (by decide) ?_
  refine lv_icmp_eq (tgt := 44) hx hb dX11_degree_29 (by decide) (fun c_29_b5168 => absurd c_29_b5168 (by decide)) (fun _ => ?_)
  refine lv_aload hx hb dX11_degree_32 (lv_at hl 0 rfl) ?_
  refine va_get (D := (dC, dI)) (ci := 5) (v := .int 0) (C := RX6) (T := TX6) (N := 12) hx hb hall zx_6 hown hK.1 hP 2 rfl rfl 0 (by decide) (hall _ zw_212) (fun _ h9 => h9) rfl dX11_degree_34 ?_
  show W p l e _ s m _ below meth c _ _ _ _ QQ (F0 m 37 ls5166 [.int 0])
  refine lv_iconst (v := 3) hx hb dX11_degree_37 (by decide) ?_
  refine lv_icmp_eq (tgt := 44) hx hb dX11_degree_38 (by decide) (fun c_38_b5169 => absurd c_38_b5169 (by decide)) (fun _ => ?_)
  refine lv_bipush (v := (-3)) hx hb dX11_degree_41 (by decide) ?_
  rw [← hQ]
  exact W.iret (v := (-3)) hx hb hr (fun zt ht hW => ⟨⟨(-3), (), rfl, rfl, (show zt.heap.size = s.heap.size by rw [ht])⟩, hS.F ht⟩) hS.2.2 dX11_degree_43

set_option maxHeartbeats 4000000 in
set_option maxRecDepth 100000 in
theorem c_X11_number_out (l : Launch) (dC : Nat → ClassId) (dI : Nat → Nat → Nat) (aC : Nat → ClassId) (h0 b : Nat) (x y z v : Int32) (sz : Nat) (hxm : zslot b x = none) : Met l yX11_number w_X11_number ({ frames := 2, cells := 0, slots := 0, locals := 45 }) (zPre (dC, dI) aC [(h0, .inr (10, [.ref (b + 0), .ref (b + 73), .ref (b + 75), .ref (b + 76), .ref (b + 80), .ref (b + 81), .ref (b + 88), .ref (b + 95), .ref (b + 100), .ref (b + 106), .int 0, .ref (b + 107), .int 0])), (b + 0, .inl (aC 3, 12, .inr (.inr (.inr (.inr (zrefs (fun i => b + (1 + 6 * i)) 12))))))] sz [.ref h0, .int x, .int y, .int z, .int v]) (va_Qi (fun (r : Int32) (_ : Unit) => r = -1) (fun _ zt => zt.heap.size = sz) (zN sz)) 0 0 (zN sz) := by
  refine Met.ofW (cc := cX11_number) (maxL := 6) (ret := (some .int)) (by decide) rfl ?_
  intro p e s m args below meth c s₁ B hml hv
  generalize hQ : MQ below _ _ s _ _ _ = QQ
  obtain ⟨rfl, hsz, hP, hK, hD0⟩ := hv
  have hx := B.exec
  have hb := B.bytes
  have hr := B.returns
  have hts := atoms_spec (ws := w_X11_number) B.pre
  have hall := fun (w : Cond) (h : w ∈ zAll) => hts w (List.mem_cons_of_mem _ h)
  have hown : s.vm.findClass RX11 = some m.cls := findClass_of_methodNamed B.named
  have hlocks := B.notSynchronized
  subst hsz
  have hA : ∀ q : Nat, s.heap.size ≤ q → zN s.heap.size q := fun q h => h
  have hS : va_S (zN s.heap.size) s.heap s.heap [] := va_S.rf
  have hD := hD0
  have hl := lv_entry ([.ref h0, .int x, .int y, .int z, .int v]) (n := 6) (Nat.le_of_ble_eq_true rfl)
  rw [lg_entry_eq]
  generalize (lg_sl ([.ref h0, .int x, .int y, .int z, .int v]) ++ List.replicate (6 - (lg_sl ([.ref h0, .int x, .int y, .int z, .int v])).length) Slot.unset).toArray = ls at hl ⊢
  have hl : lv_has ls 6 [(0, .ref h0), (1, .int x), (2, .int y), (3, .int z), (4, .int v)] := hl
  refine lv_aload_n hx hb dX11_number_0 rfl (lv_at hl 0 rfl) ?_
  refine lv_iload_n hx hb dX11_number_1 rfl (lv_at hl 1 rfl) ?_
  refine zro_q hS hA (va_runV (As := [.int x]) (rest := []) ⟨hx, hb, hml, hown, hall⟩ (c_X11_slotAt l dC dI aC h0 b x s.heap.size) (cwV 1 hall (zgV zw_225 zw_227 zw_228 zw_802 g_X11_slotAt rfl) rfl rfl rfl (by decide +kernel) ⟨Nat.le_of_ble_eq_true rfl, Nat.le_of_ble_eq_true rfl⟩) (zPre_V (As := [.int x]) hK hP hD [0, 1] rfl (by decide +kernel) (ci := 10) (q0 := 0) rfl rfl) rfl rfl hl.1 rfl (lv_room (Nat.le_of_ble_eq_true rfl)) dX11_number_2 ⟨Nat.le_of_ble_eq_true rfl, Nat.le_of_ble_eq_true rfl⟩) (fun r5170 L5171 hw hS' => ?_)
  clear hS
  have hS := hS'
  clear hS'
  obtain rfl : r5170 = none := hw.trans hxm
  try clear hw
  refine lv_astoreN (lv' := [(5, .null), (0, .ref h0), (1, .int x), (2, .int y), (3, .int z), (4, .int v)]) hx hb dX11_number_5 hl (by decide) rfl (fun ls5172 hl' => ?_)
  clear hl
  have hl : lv_has ls5172 6 [(5, .null), (0, .ref h0), (1, .int x), (2, .int y), (3, .int z), (4, .int v)] := hl'
  clear hl'
  refine lv_aloadN hx hb dX11_number_7 (lv_at hl 0 rfl) ?_
  refine lv_ifnonnullN hx hb dX11_number_9 ?_
  show W p l e _ s m _ below meth c _ _ _ _ QQ (F0 m 12 ls5172 [])
  refine lv_iconst (v := (-1)) hx hb dX11_number_12 (by decide) ?_
  rw [← hQ]
  exact W.iret (v := (-1)) hx hb hr (fun zt ht hW => ⟨⟨(-1), (), rfl, rfl, (show zt.heap.size = s.heap.size by rw [ht])⟩, hS.F ht⟩) hS.2.2 dX11_number_13

set_option maxHeartbeats 4000000 in
set_option maxRecDepth 100000 in
theorem c_X11_number_in (l : Launch) (dC : Nat → ClassId) (dI : Nat → Nat → Nat) (aC : Nat → ClassId) (h0 b a : Nat) (x y z v : Int32) (sz : Nat) (hxm : zslot b x = some a) : Met l yX11_number w_X11_number ({ frames := 2, cells := 0, slots := 0, locals := 45 }) (zPre (dC, dI) aC [(h0, .inr (10, [.ref (b + 0), .ref (b + 73), .ref (b + 75), .ref (b + 76), .ref (b + 80), .ref (b + 81), .ref (b + 88), .ref (b + 95), .ref (b + 100), .ref (b + 106), .int 0, .ref (b + 107), .int 0])), (b + 0, .inl (aC 3, 12, .inr (.inr (.inr (.inr (zrefs (fun i => b + (1 + 6 * i)) 12)))))), (a, .inr (5, [.int 0, .int 0, .int 0, .int 0, .int 0, .int 0, .int 0, .ref (a + 1), .ref (a + 2), .ref (a + 3), .ref (a + 4), .ref (a + 5)]))] sz [.ref h0, .int x, .int y, .int z, .int v]) (va_Qi (fun (r : Int32) (_ : Unit) => r = -3) (fun _ zt => zt.heap.size = sz) (zN sz)) 0 0 (zN sz) := by
  refine Met.ofW (cc := cX11_number) (maxL := 6) (ret := (some .int)) (by decide) rfl ?_
  intro p e s m args below meth c s₁ B hml hv
  generalize hQ : MQ below _ _ s _ _ _ = QQ
  obtain ⟨rfl, hsz, hP, hK, hD0⟩ := hv
  have hx := B.exec
  have hb := B.bytes
  have hr := B.returns
  have hts := atoms_spec (ws := w_X11_number) B.pre
  have hall := fun (w : Cond) (h : w ∈ zAll) => hts w (List.mem_cons_of_mem _ h)
  have hown : s.vm.findClass RX11 = some m.cls := findClass_of_methodNamed B.named
  have hlocks := B.notSynchronized
  subst hsz
  have hA : ∀ q : Nat, s.heap.size ≤ q → zN s.heap.size q := fun q h => h
  have hS : va_S (zN s.heap.size) s.heap s.heap [] := va_S.rf
  have hD := hD0
  have hl := lv_entry ([.ref h0, .int x, .int y, .int z, .int v]) (n := 6) (Nat.le_of_ble_eq_true rfl)
  rw [lg_entry_eq]
  generalize (lg_sl ([.ref h0, .int x, .int y, .int z, .int v]) ++ List.replicate (6 - (lg_sl ([.ref h0, .int x, .int y, .int z, .int v])).length) Slot.unset).toArray = ls at hl ⊢
  have hl : lv_has ls 6 [(0, .ref h0), (1, .int x), (2, .int y), (3, .int z), (4, .int v)] := hl
  refine lv_aload_n hx hb dX11_number_0 rfl (lv_at hl 0 rfl) ?_
  refine lv_iload_n hx hb dX11_number_1 rfl (lv_at hl 1 rfl) ?_
  refine zro_q hS hA (va_runV (As := [.int x]) (rest := []) ⟨hx, hb, hml, hown, hall⟩ (c_X11_slotAt l dC dI aC h0 b x s.heap.size) (cwV 1 hall (zgV zw_225 zw_227 zw_228 zw_802 g_X11_slotAt rfl) rfl rfl rfl (by decide +kernel) ⟨Nat.le_of_ble_eq_true rfl, Nat.le_of_ble_eq_true rfl⟩) (zPre_V (As := [.int x]) hK hP hD [0, 1] rfl (by decide +kernel) (ci := 10) (q0 := 0) rfl rfl) rfl rfl hl.1 rfl (lv_room (Nat.le_of_ble_eq_true rfl)) dX11_number_2 ⟨Nat.le_of_ble_eq_true rfl, Nat.le_of_ble_eq_true rfl⟩) (fun r5173 L5174 hw hS' => ?_)
  clear hS
  have hS := hS'
  clear hS'
  obtain rfl : r5173 = some a := hw.trans hxm
  try clear hw
  refine lv_astore (lv' := [(5, .ref a), (0, .ref h0), (1, .int x), (2, .int y), (3, .int z), (4, .int v)]) hx hb dX11_number_5 hl (by decide) rfl (fun ls5175 hl' => ?_)
  clear hl
  have hl : lv_has ls5175 6 [(5, .ref a), (0, .ref h0), (1, .int x), (2, .int y), (3, .int z), (4, .int v)] := hl'
  clear hl'
  refine lv_aload hx hb dX11_number_7 (lv_at hl 0 rfl) ?_
  refine lv_ifnonnull (tgt := 14) hx hb dX11_number_9 (by decide) ?_
  show W p l e _ s m _ below meth c _ _ _ _ QQ (F0 m 14 ls5175 [])
  refine lv_aload hx hb dX11_number_14 (lv_at hl 0 rfl) ?_
  refine va_get (D := (dC, dI)) (ci := 5) (v := .int 0) (C := RX6) (T := TX6) (N := 12) hx hb hall zx_6 hown hK.1 hP 2 rfl rfl 0 (by decide) (hall _ zw_212) (fun _ h9 => h9) rfl dX11_number_16 ?_
  refine lv_if_ne (tgt := 25) hx hb dX11_number_19 (by decide) (fun c_19_b5176 => absurd (by decide) c_19_b5176) (fun _ => ?_)
  refine lv_bipush (v := (-3)) hx hb dX11_number_22 (by decide) ?_
  rw [← hQ]
  exact W.iret (v := (-3)) hx hb hr (fun zt ht hW => ⟨⟨(-3), (), rfl, rfl, (show zt.heap.size = s.heap.size by rw [ht])⟩, hS.F ht⟩) hS.2.2 dX11_number_24

set_option maxHeartbeats 4000000 in
set_option maxRecDepth 100000 in
theorem c_X11_told_out (l : Launch) (dC : Nat → ClassId) (dI : Nat → Nat → Nat) (aC : Nat → ClassId) (h0 b : Nat) (x y : Int32) (sz : Nat) (hxm : zslot b x = none) : Met l yX11_told w_X11_told ({ frames := 2, cells := 0, slots := 0, locals := 45 }) (zPre (dC, dI) aC [(h0, .inr (10, [.ref (b + 0), .ref (b + 73), .ref (b + 75), .ref (b + 76), .ref (b + 80), .ref (b + 81), .ref (b + 88), .ref (b + 95), .ref (b + 100), .ref (b + 106), .int 0, .ref (b + 107), .int 0])), (b + 0, .inl (aC 3, 12, .inr (.inr (.inr (.inr (zrefs (fun i => b + (1 + 6 * i)) 12))))))] sz [.ref h0, .int x, .int y]) (va_Qi (fun (r : Int32) (_ : Unit) => r = -1) (fun _ zt => zt.heap.size = sz) (zN sz)) 0 0 (zN sz) := by
  refine Met.ofW (cc := cX11_told) (maxL := 4) (ret := (some .int)) (by decide) rfl ?_
  intro p e s m args below meth c s₁ B hml hv
  generalize hQ : MQ below _ _ s _ _ _ = QQ
  obtain ⟨rfl, hsz, hP, hK, hD0⟩ := hv
  have hx := B.exec
  have hb := B.bytes
  have hr := B.returns
  have hts := atoms_spec (ws := w_X11_told) B.pre
  have hall := fun (w : Cond) (h : w ∈ zAll) => hts w (List.mem_cons_of_mem _ h)
  have hown : s.vm.findClass RX11 = some m.cls := findClass_of_methodNamed B.named
  have hlocks := B.notSynchronized
  subst hsz
  have hA : ∀ q : Nat, s.heap.size ≤ q → zN s.heap.size q := fun q h => h
  have hS : va_S (zN s.heap.size) s.heap s.heap [] := va_S.rf
  have hD := hD0
  have hl := lv_entry ([.ref h0, .int x, .int y]) (n := 4) (Nat.le_of_ble_eq_true rfl)
  rw [lg_entry_eq]
  generalize (lg_sl ([.ref h0, .int x, .int y]) ++ List.replicate (4 - (lg_sl ([.ref h0, .int x, .int y])).length) Slot.unset).toArray = ls at hl ⊢
  have hl : lv_has ls 4 [(0, .ref h0), (1, .int x), (2, .int y)] := hl
  refine lv_aload_n hx hb dX11_told_0 rfl (lv_at hl 0 rfl) ?_
  refine lv_iload_n hx hb dX11_told_1 rfl (lv_at hl 1 rfl) ?_
  refine zro_q hS hA (va_runV (As := [.int x]) (rest := []) ⟨hx, hb, hml, hown, hall⟩ (c_X11_slotAt l dC dI aC h0 b x s.heap.size) (cwV 1 hall (zgV zw_225 zw_227 zw_228 zw_802 g_X11_slotAt rfl) rfl rfl rfl (by decide +kernel) ⟨Nat.le_of_ble_eq_true rfl, Nat.le_of_ble_eq_true rfl⟩) (zPre_V (As := [.int x]) hK hP hD [0, 1] rfl (by decide +kernel) (ci := 10) (q0 := 0) rfl rfl) rfl rfl hl.1 rfl (lv_room (Nat.le_of_ble_eq_true rfl)) dX11_told_2 ⟨Nat.le_of_ble_eq_true rfl, Nat.le_of_ble_eq_true rfl⟩) (fun r5177 L5178 hw hS' => ?_)
  clear hS
  have hS := hS'
  clear hS'
  obtain rfl : r5177 = none := hw.trans hxm
  try clear hw
  refine lv_astore_nN (lv' := [(3, .null), (0, .ref h0), (1, .int x), (2, .int y)]) hx hb dX11_told_5 rfl hl (by decide) rfl (fun ls5179 hl' => ?_)
  clear hl
  have hl : lv_has ls5179 4 [(3, .null), (0, .ref h0), (1, .int x), (2, .int y)] := hl'
  clear hl'
  refine lv_aload_nN hx hb dX11_told_6 rfl (lv_at hl 0 rfl) ?_
  refine lv_ifnullN (tgt := 19) hx hb dX11_told_7 (by decide) ?_
  show W p l e _ s m _ below meth c _ _ _ _ QQ (F0 m 19 ls5179 [])
  refine lv_iconst (v := (-1)) hx hb dX11_told_19 (by decide) ?_
  rw [← hQ]
  exact W.iret (v := (-1)) hx hb hr (fun zt ht hW => ⟨⟨(-1), (), rfl, rfl, (show zt.heap.size = s.heap.size by rw [ht])⟩, hS.F ht⟩) hS.2.2 dX11_told_20

set_option maxHeartbeats 4000000 in
set_option maxRecDepth 100000 in
theorem c_X11_told_in (l : Launch) (dC : Nat → ClassId) (dI : Nat → Nat → Nat) (aC : Nat → ClassId) (h0 b a : Nat) (x y : Int32) (sz : Nat) (hxm : zslot b x = some a) : Met l yX11_told w_X11_told ({ frames := 2, cells := 0, slots := 0, locals := 45 }) (zPre (dC, dI) aC [(h0, .inr (10, [.ref (b + 0), .ref (b + 73), .ref (b + 75), .ref (b + 76), .ref (b + 80), .ref (b + 81), .ref (b + 88), .ref (b + 95), .ref (b + 100), .ref (b + 106), .int 0, .ref (b + 107), .int 0])), (b + 0, .inl (aC 3, 12, .inr (.inr (.inr (.inr (zrefs (fun i => b + (1 + 6 * i)) 12)))))), (a, .inr (5, [.int 0, .int 0, .int 0, .int 0, .int 0, .int 0, .int 0, .ref (a + 1), .ref (a + 2), .ref (a + 3), .ref (a + 4), .ref (a + 5)]))] sz [.ref h0, .int x, .int y]) (va_Qi (fun (r : Int32) (_ : Unit) => r = zfive y) (fun _ zt => zt.heap.size = sz) (zN sz)) 0 0 (zN sz) := by
  refine Met.ofW (cc := cX11_told) (maxL := 4) (ret := (some .int)) (by decide) rfl ?_
  intro p e s m args below meth c s₁ B hml hv
  generalize hQ : MQ below _ _ s _ _ _ = QQ
  obtain ⟨rfl, hsz, hP, hK, hD0⟩ := hv
  have hx := B.exec
  have hb := B.bytes
  have hr := B.returns
  have hts := atoms_spec (ws := w_X11_told) B.pre
  have hall := fun (w : Cond) (h : w ∈ zAll) => hts w (List.mem_cons_of_mem _ h)
  have hown : s.vm.findClass RX11 = some m.cls := findClass_of_methodNamed B.named
  have hlocks := B.notSynchronized
  subst hsz
  have hA : ∀ q : Nat, s.heap.size ≤ q → zN s.heap.size q := fun q h => h
  have hS : va_S (zN s.heap.size) s.heap s.heap [] := va_S.rf
  have hD := hD0
  have hl := lv_entry ([.ref h0, .int x, .int y]) (n := 4) (Nat.le_of_ble_eq_true rfl)
  rw [lg_entry_eq]
  generalize (lg_sl ([.ref h0, .int x, .int y]) ++ List.replicate (4 - (lg_sl ([.ref h0, .int x, .int y])).length) Slot.unset).toArray = ls at hl ⊢
  have hl : lv_has ls 4 [(0, .ref h0), (1, .int x), (2, .int y)] := hl
  refine lv_aload_n hx hb dX11_told_0 rfl (lv_at hl 0 rfl) ?_
  refine lv_iload_n hx hb dX11_told_1 rfl (lv_at hl 1 rfl) ?_
  refine zro_q hS hA (va_runV (As := [.int x]) (rest := []) ⟨hx, hb, hml, hown, hall⟩ (c_X11_slotAt l dC dI aC h0 b x s.heap.size) (cwV 1 hall (zgV zw_225 zw_227 zw_228 zw_802 g_X11_slotAt rfl) rfl rfl rfl (by decide +kernel) ⟨Nat.le_of_ble_eq_true rfl, Nat.le_of_ble_eq_true rfl⟩) (zPre_V (As := [.int x]) hK hP hD [0, 1] rfl (by decide +kernel) (ci := 10) (q0 := 0) rfl rfl) rfl rfl hl.1 rfl (lv_room (Nat.le_of_ble_eq_true rfl)) dX11_told_2 ⟨Nat.le_of_ble_eq_true rfl, Nat.le_of_ble_eq_true rfl⟩) (fun r5180 L5181 hw hS' => ?_)
  clear hS
  have hS := hS'
  clear hS'
  obtain rfl : r5180 = some a := hw.trans hxm
  try clear hw
  refine lv_astore_n (lv' := [(3, .ref a), (0, .ref h0), (1, .int x), (2, .int y)]) hx hb dX11_told_5 rfl hl (by decide) rfl (fun ls5182 hl' => ?_)
  clear hl
  have hl : lv_has ls5182 4 [(3, .ref a), (0, .ref h0), (1, .int x), (2, .int y)] := hl'
  clear hl'
  refine lv_aload_n hx hb dX11_told_6 rfl (lv_at hl 0 rfl) ?_
  refine lv_ifnull hx hb dX11_told_7 ?_
  show W p l e _ s m _ below meth c _ _ _ _ QQ (F0 m 10 ls5182 [])
  refine lv_iload_n hx hb dX11_told_10 rfl (lv_at hl 3 rfl) ?_
  refine lv_if_lt (tgt := 19) hx hb dX11_told_11 (by decide) (fun c_11_b5183 => ?_) (fun c_11_b5183 => ?_)
  · refine lv_iconst (v := (-1)) hx hb dX11_told_19 (by decide) ?_
    rw [← hQ]
    exact W.iret (v := (-1)) hx hb hr (fun zt ht hW => ⟨⟨(-1), (), rfl, by simp [zfive, c_11_b5183], (show zt.heap.size = s.heap.size by rw [ht])⟩, hS.F ht⟩) hS.2.2 dX11_told_20
  · refine lv_iload_n hx hb dX11_told_14 rfl (lv_at hl 3 rfl) ?_
    refine lv_iconst (v := 4) hx hb dX11_told_15 (by decide) ?_
    refine lv_icmp_le (tgt := 21) hx hb dX11_told_16 (by decide) (fun c_16_b5184 => ?_) (fun c_16_b5184 => ?_)
    · refine lv_iload_n hx hb dX11_told_21 rfl (lv_at hl 3 rfl) ?_
      refine lv_iconst (v := 2) hx hb dX11_told_22 (by decide) ?_
      refine lv_icmp_gt (tgt := 67) hx hb dX11_told_23 (by decide) (fun c_23_b5185 => ?_) (fun c_23_b5185 => ?_)
      · refine lv_iload_n hx hb dX11_told_67 rfl (lv_at hl 3 rfl) ?_
        show W p l e _ s m _ below meth c _ _ _ _ QQ (F0 m 68 ls5182 [.int y])
        refine lv_iconst (v := 3) hx hb dX11_told_68 (by decide) ?_
        refine lv_icmp_ne (tgt := 98) hx hb dX11_told_69 (by decide) (fun c_69_b5186 => ?_) (fun c_69_b5186 => ?_)
        · refine lv_aload_n hx hb dX11_told_98 rfl (lv_at hl 0 rfl) ?_
          refine va_get (D := (dC, dI)) (ci := 5) (v := .int 0) (C := RX6) (T := TX6) (N := 12) hx hb hall zx_6 hown hK.1 hP 2 rfl rfl 0 (by decide) (hall _ zw_212) (fun _ h9 => h9) rfl dX11_told_99 ?_
          refine lv_iconst (v := 4) hx hb dX11_told_102 (by decide) ?_
          refine lv_icmp_ne (tgt := 113) hx hb dX11_told_103 (by decide) (fun _ => ?_) (fun c_103_b5187 => absurd c_103_b5187 (by decide))
          show W p l e _ s m _ below meth c _ _ _ _ QQ (F0 m 113 ls5182 [])
          refine lv_bipush (v := (-3)) hx hb dX11_told_113 (by decide) ?_
          rw [← hQ]
          exact W.iret (v := (-3)) hx hb hr (fun zt ht hW => ⟨⟨(-3), (), rfl, by simp [zfive, c_11_b5183, c_16_b5184, c_23_b5185, c_69_b5186], (show zt.heap.size = s.heap.size by rw [ht])⟩, hS.F ht⟩) hS.2.2 dX11_told_115
        · refine lv_aload_n hx hb dX11_told_72 rfl (lv_at hl 0 rfl) ?_
          refine va_get (D := (dC, dI)) (ci := 5) (v := .int 0) (C := RX6) (T := TX6) (N := 12) hx hb hall zx_6 hown hK.1 hP 2 rfl rfl 0 (by decide) (hall _ zw_212) (fun _ h9 => h9) rfl dX11_told_73 ?_
          refine lv_iconst (v := 3) hx hb dX11_told_76 (by decide) ?_
          refine lv_icmp_eq (tgt := 88) hx hb dX11_told_77 (by decide) (fun c_77_b5188 => absurd c_77_b5188 (by decide)) (fun _ => ?_)
          show W p l e _ s m _ below meth c _ _ _ _ QQ (F0 m 80 ls5182 [])
          refine lv_aload_n hx hb dX11_told_80 rfl (lv_at hl 0 rfl) ?_
          refine va_get (D := (dC, dI)) (ci := 5) (v := .int 0) (C := RX6) (T := TX6) (N := 12) hx hb hall zx_6 hown hK.1 hP 2 rfl rfl 0 (by decide) (hall _ zw_212) (fun _ h9 => h9) rfl dX11_told_81 ?_
          refine lv_iconst (v := 4) hx hb dX11_told_84 (by decide) ?_
          refine lv_icmp_ne (tgt := 95) hx hb dX11_told_85 (by decide) (fun _ => ?_) (fun c_85_b5189 => absurd c_85_b5189 (by decide))
          refine lv_bipush (v := (-3)) hx hb dX11_told_95 (by decide) ?_
          rw [← hQ]
          exact W.iret (v := (-3)) hx hb hr (fun zt ht hW => ⟨⟨(-3), (), rfl, by simp [zfive, c_11_b5183, c_16_b5184, c_23_b5185, c_69_b5186], (show zt.heap.size = s.heap.size by rw [ht])⟩, hS.F ht⟩) hS.2.2 dX11_told_97
      · refine lv_aload_n hx hb dX11_told_26 rfl (lv_at hl 0 rfl) ?_
        show W p l e _ s m _ below meth c _ _ _ _ QQ (F0 m 27 ls5182 [.ref a])
        refine va_get (D := (dC, dI)) (ci := 5) (v := .int 0) (C := RX6) (T := TX6) (N := 12) hx hb hall zx_6 hown hK.1 hP 2 rfl rfl 0 (by decide) (hall _ zw_212) (fun _ h9 => h9) rfl dX11_told_27 ?_
        refine lv_iconst (v := 2) hx hb dX11_told_30 (by decide) ?_
        refine lv_icmp_eq (tgt := 39) hx hb dX11_told_31 (by decide) (fun c_31_b5190 => absurd c_31_b5190 (by decide)) (fun _ => ?_)
        refine lv_bipush (v := (-3)) hx hb dX11_told_34 (by decide) ?_
        refine lv_goto (tgt := 66) hx hb dX11_told_36 (by decide) ?_
        rw [← hQ]
        exact W.iret (v := (-3)) hx hb hr (fun zt ht hW => ⟨⟨(-3), (), rfl, by simp [zfive, c_11_b5183, c_16_b5184, c_23_b5185], (show zt.heap.size = s.heap.size by rw [ht])⟩, hS.F ht⟩) hS.2.2 dX11_told_66
    · refine lv_iconst (v := (-1)) hx hb dX11_told_19 (by decide) ?_
      rw [← hQ]
      exact W.iret (v := (-1)) hx hb hr (fun zt ht hW => ⟨⟨(-1), (), rfl, by simp [zfive, c_11_b5183, c_16_b5184], (show zt.heap.size = s.heap.size by rw [ht])⟩, hS.F ht⟩) hS.2.2 dX11_told_20

set_option maxHeartbeats 4000000 in
set_option maxRecDepth 100000 in
theorem c_X11_factorial_out (l : Launch) (dC : Nat → ClassId) (dI : Nat → Nat → Nat) (aC : Nat → ClassId) (h0 b : Nat) (x y z : Int32) (sz : Nat) (hxm : zslot b x = none) : Met l yX11_factorial w_X11_factorial ({ frames := 2, cells := 0, slots := 0, locals := 45 }) (zPre (dC, dI) aC [(h0, .inr (10, [.ref (b + 0), .ref (b + 73), .ref (b + 75), .ref (b + 76), .ref (b + 80), .ref (b + 81), .ref (b + 88), .ref (b + 95), .ref (b + 100), .ref (b + 106), .int 0, .ref (b + 107), .int 0])), (b + 0, .inl (aC 3, 12, .inr (.inr (.inr (.inr (zrefs (fun i => b + (1 + 6 * i)) 12))))))] sz [.ref h0, .int x, .int y, .int z]) (va_Qi (fun (r : Int32) (_ : Unit) => r = -1) (fun _ zt => zt.heap.size = sz) (zN sz)) 0 0 (zN sz) := by
  refine Met.ofW (cc := cX11_factorial) (maxL := 5) (ret := (some .int)) (by decide) rfl ?_
  intro p e s m args below meth c s₁ B hml hv
  generalize hQ : MQ below _ _ s _ _ _ = QQ
  obtain ⟨rfl, hsz, hP, hK, hD0⟩ := hv
  have hx := B.exec
  have hb := B.bytes
  have hr := B.returns
  have hts := atoms_spec (ws := w_X11_factorial) B.pre
  have hall := fun (w : Cond) (h : w ∈ zAll) => hts w (List.mem_cons_of_mem _ h)
  have hown : s.vm.findClass RX11 = some m.cls := findClass_of_methodNamed B.named
  have hlocks := B.notSynchronized
  subst hsz
  have hA : ∀ q : Nat, s.heap.size ≤ q → zN s.heap.size q := fun q h => h
  have hS : va_S (zN s.heap.size) s.heap s.heap [] := va_S.rf
  have hD := hD0
  have hl := lv_entry ([.ref h0, .int x, .int y, .int z]) (n := 5) (Nat.le_of_ble_eq_true rfl)
  rw [lg_entry_eq]
  generalize (lg_sl ([.ref h0, .int x, .int y, .int z]) ++ List.replicate (5 - (lg_sl ([.ref h0, .int x, .int y, .int z])).length) Slot.unset).toArray = ls at hl ⊢
  have hl : lv_has ls 5 [(0, .ref h0), (1, .int x), (2, .int y), (3, .int z)] := hl
  refine lv_aload_n hx hb dX11_factorial_0 rfl (lv_at hl 0 rfl) ?_
  refine lv_iload_n hx hb dX11_factorial_1 rfl (lv_at hl 1 rfl) ?_
  refine zro_q hS hA (va_runV (As := [.int x]) (rest := []) ⟨hx, hb, hml, hown, hall⟩ (c_X11_slotAt l dC dI aC h0 b x s.heap.size) (cwV 1 hall (zgV zw_225 zw_227 zw_228 zw_802 g_X11_slotAt rfl) rfl rfl rfl (by decide +kernel) ⟨Nat.le_of_ble_eq_true rfl, Nat.le_of_ble_eq_true rfl⟩) (zPre_V (As := [.int x]) hK hP hD [0, 1] rfl (by decide +kernel) (ci := 10) (q0 := 0) rfl rfl) rfl rfl hl.1 rfl (lv_room (Nat.le_of_ble_eq_true rfl)) dX11_factorial_2 ⟨Nat.le_of_ble_eq_true rfl, Nat.le_of_ble_eq_true rfl⟩) (fun r5191 L5192 hw hS' => ?_)
  clear hS
  have hS := hS'
  clear hS'
  obtain rfl : r5191 = none := hw.trans hxm
  try clear hw
  refine lv_astoreN (lv' := [(4, .null), (0, .ref h0), (1, .int x), (2, .int y), (3, .int z)]) hx hb dX11_factorial_5 hl (by decide) rfl (fun ls5193 hl' => ?_)
  clear hl
  have hl : lv_has ls5193 5 [(4, .null), (0, .ref h0), (1, .int x), (2, .int y), (3, .int z)] := hl'
  clear hl'
  refine lv_aloadN hx hb dX11_factorial_7 (lv_at hl 0 rfl) ?_
  refine lv_ifnonnullN hx hb dX11_factorial_9 ?_
  show W p l e _ s m _ below meth c _ _ _ _ QQ (F0 m 12 ls5193 [])
  refine lv_iconst (v := (-1)) hx hb dX11_factorial_12 (by decide) ?_
  rw [← hQ]
  exact W.iret (v := (-1)) hx hb hr (fun zt ht hW => ⟨⟨(-1), (), rfl, rfl, (show zt.heap.size = s.heap.size by rw [ht])⟩, hS.F ht⟩) hS.2.2 dX11_factorial_13

set_option maxHeartbeats 4000000 in
set_option maxRecDepth 100000 in
theorem c_X11_factorial_in (l : Launch) (dC : Nat → ClassId) (dI : Nat → Nat → Nat) (aC : Nat → ClassId) (h0 b a : Nat) (x y z : Int32) (sz : Nat) (hxm : zslot b x = some a) : Met l yX11_factorial w_X11_factorial ({ frames := 2, cells := 0, slots := 0, locals := 45 }) (zPre (dC, dI) aC [(h0, .inr (10, [.ref (b + 0), .ref (b + 73), .ref (b + 75), .ref (b + 76), .ref (b + 80), .ref (b + 81), .ref (b + 88), .ref (b + 95), .ref (b + 100), .ref (b + 106), .int 0, .ref (b + 107), .int 0])), (b + 0, .inl (aC 3, 12, .inr (.inr (.inr (.inr (zrefs (fun i => b + (1 + 6 * i)) 12)))))), (a, .inr (5, [.int 0, .int 0, .int 0, .int 0, .int 0, .int 0, .int 0, .ref (a + 1), .ref (a + 2), .ref (a + 3), .ref (a + 4), .ref (a + 5)]))] sz [.ref h0, .int x, .int y, .int z]) (va_Qi (fun (r : Int32) (_ : Unit) => r = 0) (fun _ zt => zt.heap.size = sz) (zN sz)) 0 0 (zN sz) := by
  refine Met.ofW (cc := cX11_factorial) (maxL := 5) (ret := (some .int)) (by decide) rfl ?_
  intro p e s m args below meth c s₁ B hml hv
  generalize hQ : MQ below _ _ s _ _ _ = QQ
  obtain ⟨rfl, hsz, hP, hK, hD0⟩ := hv
  have hx := B.exec
  have hb := B.bytes
  have hr := B.returns
  have hts := atoms_spec (ws := w_X11_factorial) B.pre
  have hall := fun (w : Cond) (h : w ∈ zAll) => hts w (List.mem_cons_of_mem _ h)
  have hown : s.vm.findClass RX11 = some m.cls := findClass_of_methodNamed B.named
  have hlocks := B.notSynchronized
  subst hsz
  have hA : ∀ q : Nat, s.heap.size ≤ q → zN s.heap.size q := fun q h => h
  have hS : va_S (zN s.heap.size) s.heap s.heap [] := va_S.rf
  have hD := hD0
  have hl := lv_entry ([.ref h0, .int x, .int y, .int z]) (n := 5) (Nat.le_of_ble_eq_true rfl)
  rw [lg_entry_eq]
  generalize (lg_sl ([.ref h0, .int x, .int y, .int z]) ++ List.replicate (5 - (lg_sl ([.ref h0, .int x, .int y, .int z])).length) Slot.unset).toArray = ls at hl ⊢
  have hl : lv_has ls 5 [(0, .ref h0), (1, .int x), (2, .int y), (3, .int z)] := hl
  refine lv_aload_n hx hb dX11_factorial_0 rfl (lv_at hl 0 rfl) ?_
  refine lv_iload_n hx hb dX11_factorial_1 rfl (lv_at hl 1 rfl) ?_
  refine zro_q hS hA (va_runV (As := [.int x]) (rest := []) ⟨hx, hb, hml, hown, hall⟩ (c_X11_slotAt l dC dI aC h0 b x s.heap.size) (cwV 1 hall (zgV zw_225 zw_227 zw_228 zw_802 g_X11_slotAt rfl) rfl rfl rfl (by decide +kernel) ⟨Nat.le_of_ble_eq_true rfl, Nat.le_of_ble_eq_true rfl⟩) (zPre_V (As := [.int x]) hK hP hD [0, 1] rfl (by decide +kernel) (ci := 10) (q0 := 0) rfl rfl) rfl rfl hl.1 rfl (lv_room (Nat.le_of_ble_eq_true rfl)) dX11_factorial_2 ⟨Nat.le_of_ble_eq_true rfl, Nat.le_of_ble_eq_true rfl⟩) (fun r5194 L5195 hw hS' => ?_)
  clear hS
  have hS := hS'
  clear hS'
  obtain rfl : r5194 = some a := hw.trans hxm
  try clear hw
  refine lv_astore (lv' := [(4, .ref a), (0, .ref h0), (1, .int x), (2, .int y), (3, .int z)]) hx hb dX11_factorial_5 hl (by decide) rfl (fun ls5196 hl' => ?_)
  clear hl
  have hl : lv_has ls5196 5 [(4, .ref a), (0, .ref h0), (1, .int x), (2, .int y), (3, .int z)] := hl'
  clear hl'
  refine lv_aload hx hb dX11_factorial_7 (lv_at hl 0 rfl) ?_
  refine lv_ifnonnull (tgt := 14) hx hb dX11_factorial_9 (by decide) ?_
  show W p l e _ s m _ below meth c _ _ _ _ QQ (F0 m 14 ls5196 [])
  refine lv_aload hx hb dX11_factorial_14 (lv_at hl 0 rfl) ?_
  refine va_get (D := (dC, dI)) (ci := 5) (v := .int 0) (C := RX6) (T := TX6) (N := 12) hx hb hall zx_6 hown hK.1 hP 2 rfl rfl 0 (by decide) (hall _ zw_212) (fun _ h9 => h9) rfl dX11_factorial_16 ?_
  refine lv_iconst (v := 2) hx hb dX11_factorial_19 (by decide) ?_
  refine lv_icmp_ne (tgt := 45) hx hb dX11_factorial_20 (by decide) (fun _ => ?_) (fun c_20_b5197 => absurd c_20_b5197 (by decide))
  refine lv_iconst (v := 0) hx hb dX11_factorial_45 (by decide) ?_
  rw [← hQ]
  exact W.iret (v := 0) hx hb hr (fun zt ht hW => ⟨⟨0, (), rfl, rfl, (show zt.heap.size = s.heap.size by rw [ht])⟩, hS.F ht⟩) hS.2.2 dX11_factorial_46

set_option maxHeartbeats 4000000 in
set_option maxRecDepth 100000 in
theorem c_X11_work_out (l : Launch) (dC : Nat → ClassId) (dI : Nat → Nat → Nat) (aC : Nat → ClassId) (h0 b : Nat) (o x y z : Int32) (sz : Nat) (hxm : zslot b x = none) : Met l yX11_work w_X11_work ({ frames := 2, cells := 0, slots := 0, locals := 45 }) (zPre (dC, dI) aC [(h0, .inr (10, [.ref (b + 0), .ref (b + 73), .ref (b + 75), .ref (b + 76), .ref (b + 80), .ref (b + 81), .ref (b + 88), .ref (b + 95), .ref (b + 100), .ref (b + 106), .int 0, .ref (b + 107), .int 0])), (b + 0, .inl (aC 3, 12, .inr (.inr (.inr (.inr (zrefs (fun i => b + (1 + 6 * i)) 12))))))] sz [.ref h0, .int o, .int x, .int y, .int z]) (va_Qi (fun (r : Int32) (_ : Unit) => r = -1) (fun _ zt => zt.heap.size = sz) (zN sz)) 0 0 (zN sz) := by
  refine Met.ofW (cc := cX11_work) (maxL := 11) (ret := (some .int)) (by decide) rfl ?_
  intro p e s m args below meth c s₁ B hml hv
  generalize hQ : MQ below _ _ s _ _ _ = QQ
  obtain ⟨rfl, hsz, hP, hK, hD0⟩ := hv
  have hx := B.exec
  have hb := B.bytes
  have hr := B.returns
  have hts := atoms_spec (ws := w_X11_work) B.pre
  have hall := fun (w : Cond) (h : w ∈ zAll) => hts w (List.mem_cons_of_mem _ h)
  have hown : s.vm.findClass RX11 = some m.cls := findClass_of_methodNamed B.named
  have hlocks := B.notSynchronized
  subst hsz
  have hA : ∀ q : Nat, s.heap.size ≤ q → zN s.heap.size q := fun q h => h
  have hS : va_S (zN s.heap.size) s.heap s.heap [] := va_S.rf
  have hD := hD0
  have hl := lv_entry ([.ref h0, .int o, .int x, .int y, .int z]) (n := 11) (Nat.le_of_ble_eq_true rfl)
  rw [lg_entry_eq]
  generalize (lg_sl ([.ref h0, .int o, .int x, .int y, .int z]) ++ List.replicate (11 - (lg_sl ([.ref h0, .int o, .int x, .int y, .int z])).length) Slot.unset).toArray = ls at hl ⊢
  have hl : lv_has ls 11 [(0, .ref h0), (1, .int o), (2, .int x), (3, .int y), (4, .int z)] := hl
  refine lv_aload_n hx hb dX11_work_0 rfl (lv_at hl 0 rfl) ?_
  refine lv_iload_n hx hb dX11_work_1 rfl (lv_at hl 2 rfl) ?_
  refine zro_q hS hA (va_runV (As := [.int x]) (rest := []) ⟨hx, hb, hml, hown, hall⟩ (c_X11_slotAt l dC dI aC h0 b x s.heap.size) (cwV 1 hall (zgV zw_225 zw_227 zw_228 zw_802 g_X11_slotAt rfl) rfl rfl rfl (by decide +kernel) ⟨Nat.le_of_ble_eq_true rfl, Nat.le_of_ble_eq_true rfl⟩) (zPre_V (As := [.int x]) hK hP hD [0, 1] rfl (by decide +kernel) (ci := 10) (q0 := 0) rfl rfl) rfl rfl hl.1 rfl (lv_room (Nat.le_of_ble_eq_true rfl)) dX11_work_2 ⟨Nat.le_of_ble_eq_true rfl, Nat.le_of_ble_eq_true rfl⟩) (fun r5198 L5199 hw hS' => ?_)
  clear hS
  have hS := hS'
  clear hS'
  obtain rfl : r5198 = none := hw.trans hxm
  try clear hw
  refine lv_astoreN (lv' := [(5, .null), (0, .ref h0), (1, .int o), (2, .int x), (3, .int y), (4, .int z)]) hx hb dX11_work_5 hl (by decide) rfl (fun ls5200 hl' => ?_)
  clear hl
  have hl : lv_has ls5200 11 [(5, .null), (0, .ref h0), (1, .int o), (2, .int x), (3, .int y), (4, .int z)] := hl'
  clear hl'
  refine lv_aload_n hx hb dX11_work_7 rfl (lv_at hl 1 rfl) ?_
  show W p l e _ s m _ below meth c _ _ _ _ QQ (F0 m 8 ls5200 [.ref h0])
  refine lv_iload_n hx hb dX11_work_8 rfl (lv_at hl 4 rfl) ?_
  refine zro_q hS hA (va_runV (As := [.int y]) (rest := []) ⟨hx, hb, hml, hown, hall⟩ (c_X11_slotAt l dC dI aC h0 b y s.heap.size) (cwV 1 hall (zgV zw_225 zw_227 zw_228 zw_802 g_X11_slotAt rfl) rfl rfl rfl (by decide +kernel) ⟨Nat.le_of_ble_eq_true rfl, Nat.le_of_ble_eq_true rfl⟩) (zPre_V (As := [.int y]) hK hP hD [0, 1] rfl (by decide +kernel) (ci := 10) (q0 := 0) rfl rfl) rfl rfl hl.1 rfl (lv_room (Nat.le_of_ble_eq_true rfl)) dX11_work_9 ⟨Nat.le_of_ble_eq_true rfl, Nat.le_of_ble_eq_true rfl⟩) (fun r5201 L5202 hw hS' => ?_)
  clear hS
  have hS := hS'
  clear hS'
  rcases r5201 with _ | q5203
  · have z5204 : ¬ zok y = true := zslot_n hw
    clear hw
    show W p l e _ s m _ below meth c _ _ _ _ QQ (F0 m 12 ls5200 [.null])
    refine lv_astoreN (lv' := [(6, .null), (5, .null), (0, .ref h0), (1, .int o), (2, .int x), (3, .int y), (4, .int z)]) hx hb dX11_work_12 hl (by decide) rfl (fun ls5205 hl' => ?_)
    clear hl
    have hl : lv_has ls5205 11 [(6, .null), (5, .null), (0, .ref h0), (1, .int o), (2, .int x), (3, .int y), (4, .int z)] := hl'
    clear hl'
    refine lv_aload_n hx hb dX11_work_14 rfl (lv_at hl 2 rfl) ?_
    refine lv_iload hx hb dX11_work_15 (lv_at hl 6 rfl) ?_
    refine zro_q hS hA (va_runV (As := [.int z]) (rest := []) ⟨hx, hb, hml, hown, hall⟩ (c_X11_slotAt l dC dI aC h0 b z s.heap.size) (cwV 1 hall (zgV zw_225 zw_227 zw_228 zw_802 g_X11_slotAt rfl) rfl rfl rfl (by decide +kernel) ⟨Nat.le_of_ble_eq_true rfl, Nat.le_of_ble_eq_true rfl⟩) (zPre_V (As := [.int z]) hK hP hD [0, 1] rfl (by decide +kernel) (ci := 10) (q0 := 0) rfl rfl) rfl rfl hl.1 rfl (lv_room (Nat.le_of_ble_eq_true rfl)) dX11_work_17 ⟨Nat.le_of_ble_eq_true rfl, Nat.le_of_ble_eq_true rfl⟩) (fun r5206 L5207 hw hS' => ?_)
    clear hS
    have hS := hS'
    clear hS'
    rcases r5206 with _ | q5208
    · have z5209 : ¬ zok z = true := zslot_n hw
      clear hw
      show W p l e _ s m _ below meth c _ _ _ _ QQ (F0 m 20 ls5205 [.null])
      refine lv_astoreN (lv' := [(7, .null), (6, .null), (5, .null), (0, .ref h0), (1, .int o), (2, .int x), (3, .int y), (4, .int z)]) hx hb dX11_work_20 hl (by decide) rfl (fun ls5210 hl' => ?_)
      clear hl
      have hl : lv_has ls5210 11 [(7, .null), (6, .null), (5, .null), (0, .ref h0), (1, .int o), (2, .int x), (3, .int y), (4, .int z)] := hl'
      clear hl'
      refine lv_aloadN hx hb dX11_work_22 (lv_at hl 2 rfl) ?_
      refine lv_ifnullN (tgt := 37) hx hb dX11_work_24 (by decide) ?_
      refine lv_iconst (v := (-1)) hx hb dX11_work_37 (by decide) ?_
      rw [← hQ]
      exact W.iret (v := (-1)) hx hb hr (fun zt ht hW => ⟨⟨(-1), (), rfl, rfl, (show zt.heap.size = s.heap.size by rw [ht])⟩, hS.F ht⟩) hS.2.2 dX11_work_38
    · have z5209 : zok z = true := zslot_s hw
      clear hw
      show W p l e _ s m _ below meth c _ _ _ _ QQ (F0 m 20 ls5205 [.ref q5208])
      refine lv_astore (lv' := [(7, .ref q5208), (6, .null), (5, .null), (0, .ref h0), (1, .int o), (2, .int x), (3, .int y), (4, .int z)]) hx hb dX11_work_20 hl (by decide) rfl (fun ls5211 hl' => ?_)
      clear hl
      have hl : lv_has ls5211 11 [(7, .ref q5208), (6, .null), (5, .null), (0, .ref h0), (1, .int o), (2, .int x), (3, .int y), (4, .int z)] := hl'
      clear hl'
      refine lv_aloadN hx hb dX11_work_22 (lv_at hl 2 rfl) ?_
      refine lv_ifnullN (tgt := 37) hx hb dX11_work_24 (by decide) ?_
      refine lv_iconst (v := (-1)) hx hb dX11_work_37 (by decide) ?_
      rw [← hQ]
      exact W.iret (v := (-1)) hx hb hr (fun zt ht hW => ⟨⟨(-1), (), rfl, rfl, (show zt.heap.size = s.heap.size by rw [ht])⟩, hS.F ht⟩) hS.2.2 dX11_work_38
  · have z5204 : zok y = true := zslot_s hw
    clear hw
    show W p l e _ s m _ below meth c _ _ _ _ QQ (F0 m 12 ls5200 [.ref q5203])
    refine lv_astore (lv' := [(6, .ref q5203), (5, .null), (0, .ref h0), (1, .int o), (2, .int x), (3, .int y), (4, .int z)]) hx hb dX11_work_12 hl (by decide) rfl (fun ls5212 hl' => ?_)
    clear hl
    have hl : lv_has ls5212 11 [(6, .ref q5203), (5, .null), (0, .ref h0), (1, .int o), (2, .int x), (3, .int y), (4, .int z)] := hl'
    clear hl'
    refine lv_aload_n hx hb dX11_work_14 rfl (lv_at hl 2 rfl) ?_
    refine lv_iload hx hb dX11_work_15 (lv_at hl 6 rfl) ?_
    refine zro_q hS hA (va_runV (As := [.int z]) (rest := []) ⟨hx, hb, hml, hown, hall⟩ (c_X11_slotAt l dC dI aC h0 b z s.heap.size) (cwV 1 hall (zgV zw_225 zw_227 zw_228 zw_802 g_X11_slotAt rfl) rfl rfl rfl (by decide +kernel) ⟨Nat.le_of_ble_eq_true rfl, Nat.le_of_ble_eq_true rfl⟩) (zPre_V (As := [.int z]) hK hP hD [0, 1] rfl (by decide +kernel) (ci := 10) (q0 := 0) rfl rfl) rfl rfl hl.1 rfl (lv_room (Nat.le_of_ble_eq_true rfl)) dX11_work_17 ⟨Nat.le_of_ble_eq_true rfl, Nat.le_of_ble_eq_true rfl⟩) (fun r5213 L5214 hw hS' => ?_)
    clear hS
    have hS := hS'
    clear hS'
    rcases r5213 with _ | q5215
    · have z5216 : ¬ zok z = true := zslot_n hw
      clear hw
      show W p l e _ s m _ below meth c _ _ _ _ QQ (F0 m 20 ls5212 [.null])
      refine lv_astoreN (lv' := [(7, .null), (6, .ref q5203), (5, .null), (0, .ref h0), (1, .int o), (2, .int x), (3, .int y), (4, .int z)]) hx hb dX11_work_20 hl (by decide) rfl (fun ls5217 hl' => ?_)
      clear hl
      have hl : lv_has ls5217 11 [(7, .null), (6, .ref q5203), (5, .null), (0, .ref h0), (1, .int o), (2, .int x), (3, .int y), (4, .int z)] := hl'
      clear hl'
      refine lv_aloadN hx hb dX11_work_22 (lv_at hl 2 rfl) ?_
      refine lv_ifnullN (tgt := 37) hx hb dX11_work_24 (by decide) ?_
      refine lv_iconst (v := (-1)) hx hb dX11_work_37 (by decide) ?_
      rw [← hQ]
      exact W.iret (v := (-1)) hx hb hr (fun zt ht hW => ⟨⟨(-1), (), rfl, rfl, (show zt.heap.size = s.heap.size by rw [ht])⟩, hS.F ht⟩) hS.2.2 dX11_work_38
    · have z5216 : zok z = true := zslot_s hw
      clear hw
      show W p l e _ s m _ below meth c _ _ _ _ QQ (F0 m 20 ls5212 [.ref q5215])
      refine lv_astore (lv' := [(7, .ref q5215), (6, .ref q5203), (5, .null), (0, .ref h0), (1, .int o), (2, .int x), (3, .int y), (4, .int z)]) hx hb dX11_work_20 hl (by decide) rfl (fun ls5218 hl' => ?_)
      clear hl
      have hl : lv_has ls5218 11 [(7, .ref q5215), (6, .ref q5203), (5, .null), (0, .ref h0), (1, .int o), (2, .int x), (3, .int y), (4, .int z)] := hl'
      clear hl'
      refine lv_aloadN hx hb dX11_work_22 (lv_at hl 2 rfl) ?_
      refine lv_ifnullN (tgt := 37) hx hb dX11_work_24 (by decide) ?_
      refine lv_iconst (v := (-1)) hx hb dX11_work_37 (by decide) ?_
      rw [← hQ]
      exact W.iret (v := (-1)) hx hb hr (fun zt ht hW => ⟨⟨(-1), (), rfl, rfl, (show zt.heap.size = s.heap.size by rw [ht])⟩, hS.F ht⟩) hS.2.2 dX11_work_38

set_option maxHeartbeats 4000000 in
set_option maxRecDepth 100000 in
theorem c_X11_work_in (l : Launch) (dC : Nat → ClassId) (dI : Nat → Nat → Nat) (aC : Nat → ClassId) (h0 b a : Nat) (o x y z : Int32) (sz : Nat) (hxm : zslot b x = some a) : Met l yX11_work w_X11_work ({ frames := 2, cells := 0, slots := 0, locals := 45 }) (zPre (dC, dI) aC [(h0, .inr (10, [.ref (b + 0), .ref (b + 73), .ref (b + 75), .ref (b + 76), .ref (b + 80), .ref (b + 81), .ref (b + 88), .ref (b + 95), .ref (b + 100), .ref (b + 106), .int 0, .ref (b + 107), .int 0])), (b + 0, .inl (aC 3, 12, .inr (.inr (.inr (.inr (zrefs (fun i => b + (1 + 6 * i)) 12)))))), (a, .inr (5, [.int 0, .int 0, .int 0, .int 0, .int 0, .int 0, .int 0, .ref (a + 1), .ref (a + 2), .ref (a + 3), .ref (a + 4), .ref (a + 5)]))] sz [.ref h0, .int o, .int x, .int y, .int z]) (va_Qi (fun (r : Int32) (_ : Unit) => r = zwork y z) (fun _ zt => zt.heap.size = sz) (zN sz)) 0 0 (zN sz) := by
  refine Met.ofW (cc := cX11_work) (maxL := 11) (ret := (some .int)) (by decide) rfl ?_
  intro p e s m args below meth c s₁ B hml hv
  generalize hQ : MQ below _ _ s _ _ _ = QQ
  obtain ⟨rfl, hsz, hP, hK, hD0⟩ := hv
  have hx := B.exec
  have hb := B.bytes
  have hr := B.returns
  have hts := atoms_spec (ws := w_X11_work) B.pre
  have hall := fun (w : Cond) (h : w ∈ zAll) => hts w (List.mem_cons_of_mem _ h)
  have hown : s.vm.findClass RX11 = some m.cls := findClass_of_methodNamed B.named
  have hlocks := B.notSynchronized
  subst hsz
  have hA : ∀ q : Nat, s.heap.size ≤ q → zN s.heap.size q := fun q h => h
  have hS : va_S (zN s.heap.size) s.heap s.heap [] := va_S.rf
  have hD := hD0
  have hl := lv_entry ([.ref h0, .int o, .int x, .int y, .int z]) (n := 11) (Nat.le_of_ble_eq_true rfl)
  rw [lg_entry_eq]
  generalize (lg_sl ([.ref h0, .int o, .int x, .int y, .int z]) ++ List.replicate (11 - (lg_sl ([.ref h0, .int o, .int x, .int y, .int z])).length) Slot.unset).toArray = ls at hl ⊢
  have hl : lv_has ls 11 [(0, .ref h0), (1, .int o), (2, .int x), (3, .int y), (4, .int z)] := hl
  refine lv_aload_n hx hb dX11_work_0 rfl (lv_at hl 0 rfl) ?_
  refine lv_iload_n hx hb dX11_work_1 rfl (lv_at hl 2 rfl) ?_
  refine zro_q hS hA (va_runV (As := [.int x]) (rest := []) ⟨hx, hb, hml, hown, hall⟩ (c_X11_slotAt l dC dI aC h0 b x s.heap.size) (cwV 1 hall (zgV zw_225 zw_227 zw_228 zw_802 g_X11_slotAt rfl) rfl rfl rfl (by decide +kernel) ⟨Nat.le_of_ble_eq_true rfl, Nat.le_of_ble_eq_true rfl⟩) (zPre_V (As := [.int x]) hK hP hD [0, 1] rfl (by decide +kernel) (ci := 10) (q0 := 0) rfl rfl) rfl rfl hl.1 rfl (lv_room (Nat.le_of_ble_eq_true rfl)) dX11_work_2 ⟨Nat.le_of_ble_eq_true rfl, Nat.le_of_ble_eq_true rfl⟩) (fun r5219 L5220 hw hS' => ?_)
  clear hS
  have hS := hS'
  clear hS'
  obtain rfl : r5219 = some a := hw.trans hxm
  try clear hw
  refine lv_astore (lv' := [(5, .ref a), (0, .ref h0), (1, .int o), (2, .int x), (3, .int y), (4, .int z)]) hx hb dX11_work_5 hl (by decide) rfl (fun ls5221 hl' => ?_)
  clear hl
  have hl : lv_has ls5221 11 [(5, .ref a), (0, .ref h0), (1, .int o), (2, .int x), (3, .int y), (4, .int z)] := hl'
  clear hl'
  refine lv_aload_n hx hb dX11_work_7 rfl (lv_at hl 1 rfl) ?_
  show W p l e _ s m _ below meth c _ _ _ _ QQ (F0 m 8 ls5221 [.ref h0])
  refine lv_iload_n hx hb dX11_work_8 rfl (lv_at hl 4 rfl) ?_
  refine zro_q hS hA (va_runV (As := [.int y]) (rest := []) ⟨hx, hb, hml, hown, hall⟩ (c_X11_slotAt l dC dI aC h0 b y s.heap.size) (cwV 1 hall (zgV zw_225 zw_227 zw_228 zw_802 g_X11_slotAt rfl) rfl rfl rfl (by decide +kernel) ⟨Nat.le_of_ble_eq_true rfl, Nat.le_of_ble_eq_true rfl⟩) (zPre_V (As := [.int y]) hK hP hD [0, 1] rfl (by decide +kernel) (ci := 10) (q0 := 0) rfl rfl) rfl rfl hl.1 rfl (lv_room (Nat.le_of_ble_eq_true rfl)) dX11_work_9 ⟨Nat.le_of_ble_eq_true rfl, Nat.le_of_ble_eq_true rfl⟩) (fun r5222 L5223 hw hS' => ?_)
  clear hS
  have hS := hS'
  clear hS'
  rcases r5222 with _ | q5224
  · have z5225 : ¬ zok y = true := zslot_n hw
    clear hw
    show W p l e _ s m _ below meth c _ _ _ _ QQ (F0 m 12 ls5221 [.null])
    refine lv_astoreN (lv' := [(6, .null), (5, .ref a), (0, .ref h0), (1, .int o), (2, .int x), (3, .int y), (4, .int z)]) hx hb dX11_work_12 hl (by decide) rfl (fun ls5226 hl' => ?_)
    clear hl
    have hl : lv_has ls5226 11 [(6, .null), (5, .ref a), (0, .ref h0), (1, .int o), (2, .int x), (3, .int y), (4, .int z)] := hl'
    clear hl'
    refine lv_aload_n hx hb dX11_work_14 rfl (lv_at hl 2 rfl) ?_
    refine lv_iload hx hb dX11_work_15 (lv_at hl 6 rfl) ?_
    refine zro_q hS hA (va_runV (As := [.int z]) (rest := []) ⟨hx, hb, hml, hown, hall⟩ (c_X11_slotAt l dC dI aC h0 b z s.heap.size) (cwV 1 hall (zgV zw_225 zw_227 zw_228 zw_802 g_X11_slotAt rfl) rfl rfl rfl (by decide +kernel) ⟨Nat.le_of_ble_eq_true rfl, Nat.le_of_ble_eq_true rfl⟩) (zPre_V (As := [.int z]) hK hP hD [0, 1] rfl (by decide +kernel) (ci := 10) (q0 := 0) rfl rfl) rfl rfl hl.1 rfl (lv_room (Nat.le_of_ble_eq_true rfl)) dX11_work_17 ⟨Nat.le_of_ble_eq_true rfl, Nat.le_of_ble_eq_true rfl⟩) (fun r5227 L5228 hw hS' => ?_)
    clear hS
    have hS := hS'
    clear hS'
    rcases r5227 with _ | q5229
    · have z5230 : ¬ zok z = true := zslot_n hw
      clear hw
      show W p l e _ s m _ below meth c _ _ _ _ QQ (F0 m 20 ls5226 [.null])
      refine lv_astoreN (lv' := [(7, .null), (6, .null), (5, .ref a), (0, .ref h0), (1, .int o), (2, .int x), (3, .int y), (4, .int z)]) hx hb dX11_work_20 hl (by decide) rfl (fun ls5231 hl' => ?_)
      clear hl
      have hl : lv_has ls5231 11 [(7, .null), (6, .null), (5, .ref a), (0, .ref h0), (1, .int o), (2, .int x), (3, .int y), (4, .int z)] := hl'
      clear hl'
      refine lv_aload hx hb dX11_work_22 (lv_at hl 2 rfl) ?_
      refine lv_ifnull hx hb dX11_work_24 ?_
      refine lv_aloadN hx hb dX11_work_27 (lv_at hl 1 rfl) ?_
      refine lv_ifnullN (tgt := 37) hx hb dX11_work_29 (by decide) ?_
      show W p l e _ s m _ below meth c _ _ _ _ QQ (F0 m 37 ls5231 [])
      refine lv_iconst (v := (-1)) hx hb dX11_work_37 (by decide) ?_
      rw [← hQ]
      exact W.iret (v := (-1)) hx hb hr (fun zt ht hW => ⟨⟨(-1), (), rfl, by simp [zwork, z5225, z5230], (show zt.heap.size = s.heap.size by rw [ht])⟩, hS.F ht⟩) hS.2.2 dX11_work_38
    · have z5230 : zok z = true := zslot_s hw
      clear hw
      show W p l e _ s m _ below meth c _ _ _ _ QQ (F0 m 20 ls5226 [.ref q5229])
      refine lv_astore (lv' := [(7, .ref q5229), (6, .null), (5, .ref a), (0, .ref h0), (1, .int o), (2, .int x), (3, .int y), (4, .int z)]) hx hb dX11_work_20 hl (by decide) rfl (fun ls5232 hl' => ?_)
      clear hl
      have hl : lv_has ls5232 11 [(7, .ref q5229), (6, .null), (5, .ref a), (0, .ref h0), (1, .int o), (2, .int x), (3, .int y), (4, .int z)] := hl'
      clear hl'
      refine lv_aload hx hb dX11_work_22 (lv_at hl 2 rfl) ?_
      refine lv_ifnull hx hb dX11_work_24 ?_
      refine lv_aloadN hx hb dX11_work_27 (lv_at hl 1 rfl) ?_
      refine lv_ifnullN (tgt := 37) hx hb dX11_work_29 (by decide) ?_
      show W p l e _ s m _ below meth c _ _ _ _ QQ (F0 m 37 ls5232 [])
      refine lv_iconst (v := (-1)) hx hb dX11_work_37 (by decide) ?_
      rw [← hQ]
      exact W.iret (v := (-1)) hx hb hr (fun zt ht hW => ⟨⟨(-1), (), rfl, by simp [zwork, z5225, z5230], (show zt.heap.size = s.heap.size by rw [ht])⟩, hS.F ht⟩) hS.2.2 dX11_work_38
  · have z5225 : zok y = true := zslot_s hw
    clear hw
    show W p l e _ s m _ below meth c _ _ _ _ QQ (F0 m 12 ls5221 [.ref q5224])
    refine lv_astore (lv' := [(6, .ref q5224), (5, .ref a), (0, .ref h0), (1, .int o), (2, .int x), (3, .int y), (4, .int z)]) hx hb dX11_work_12 hl (by decide) rfl (fun ls5233 hl' => ?_)
    clear hl
    have hl : lv_has ls5233 11 [(6, .ref q5224), (5, .ref a), (0, .ref h0), (1, .int o), (2, .int x), (3, .int y), (4, .int z)] := hl'
    clear hl'
    refine lv_aload_n hx hb dX11_work_14 rfl (lv_at hl 2 rfl) ?_
    refine lv_iload hx hb dX11_work_15 (lv_at hl 6 rfl) ?_
    refine zro_q hS hA (va_runV (As := [.int z]) (rest := []) ⟨hx, hb, hml, hown, hall⟩ (c_X11_slotAt l dC dI aC h0 b z s.heap.size) (cwV 1 hall (zgV zw_225 zw_227 zw_228 zw_802 g_X11_slotAt rfl) rfl rfl rfl (by decide +kernel) ⟨Nat.le_of_ble_eq_true rfl, Nat.le_of_ble_eq_true rfl⟩) (zPre_V (As := [.int z]) hK hP hD [0, 1] rfl (by decide +kernel) (ci := 10) (q0 := 0) rfl rfl) rfl rfl hl.1 rfl (lv_room (Nat.le_of_ble_eq_true rfl)) dX11_work_17 ⟨Nat.le_of_ble_eq_true rfl, Nat.le_of_ble_eq_true rfl⟩) (fun r5234 L5235 hw hS' => ?_)
    clear hS
    have hS := hS'
    clear hS'
    rcases r5234 with _ | q5236
    · have z5237 : ¬ zok z = true := zslot_n hw
      clear hw
      show W p l e _ s m _ below meth c _ _ _ _ QQ (F0 m 20 ls5233 [.null])
      refine lv_astoreN (lv' := [(7, .null), (6, .ref q5224), (5, .ref a), (0, .ref h0), (1, .int o), (2, .int x), (3, .int y), (4, .int z)]) hx hb dX11_work_20 hl (by decide) rfl (fun ls5238 hl' => ?_)
      clear hl
      have hl : lv_has ls5238 11 [(7, .null), (6, .ref q5224), (5, .ref a), (0, .ref h0), (1, .int o), (2, .int x), (3, .int y), (4, .int z)] := hl'
      clear hl'
      refine lv_aload hx hb dX11_work_22 (lv_at hl 2 rfl) ?_
      refine lv_ifnull hx hb dX11_work_24 ?_
      refine lv_aload hx hb dX11_work_27 (lv_at hl 1 rfl) ?_
      refine lv_ifnull hx hb dX11_work_29 ?_
      show W p l e _ s m _ below meth c _ _ _ _ QQ (F0 m 32 ls5238 [])
      refine lv_aloadN hx hb dX11_work_32 (lv_at hl 0 rfl) ?_
      refine lv_ifnonnullN hx hb dX11_work_34 ?_
      refine lv_iconst (v := (-1)) hx hb dX11_work_37 (by decide) ?_
      rw [← hQ]
      exact W.iret (v := (-1)) hx hb hr (fun zt ht hW => ⟨⟨(-1), (), rfl, by simp [zwork, z5225, z5237], (show zt.heap.size = s.heap.size by rw [ht])⟩, hS.F ht⟩) hS.2.2 dX11_work_38
    · have z5237 : zok z = true := zslot_s hw
      clear hw
      show W p l e _ s m _ below meth c _ _ _ _ QQ (F0 m 20 ls5233 [.ref q5236])
      refine lv_astore (lv' := [(7, .ref q5236), (6, .ref q5224), (5, .ref a), (0, .ref h0), (1, .int o), (2, .int x), (3, .int y), (4, .int z)]) hx hb dX11_work_20 hl (by decide) rfl (fun ls5239 hl' => ?_)
      clear hl
      have hl : lv_has ls5239 11 [(7, .ref q5236), (6, .ref q5224), (5, .ref a), (0, .ref h0), (1, .int o), (2, .int x), (3, .int y), (4, .int z)] := hl'
      clear hl'
      refine lv_aload hx hb dX11_work_22 (lv_at hl 2 rfl) ?_
      refine lv_ifnull hx hb dX11_work_24 ?_
      refine lv_aload hx hb dX11_work_27 (lv_at hl 1 rfl) ?_
      refine lv_ifnull hx hb dX11_work_29 ?_
      show W p l e _ s m _ below meth c _ _ _ _ QQ (F0 m 32 ls5239 [])
      refine lv_aload hx hb dX11_work_32 (lv_at hl 0 rfl) ?_
      refine lv_ifnonnull (tgt := 39) hx hb dX11_work_34 (by decide) ?_
      refine lv_aload hx hb dX11_work_39 (lv_at hl 2 rfl) ?_
      refine zro_i hS hA (va_runS (As := [.ref a]) (rest := []) ⟨hx, hb, hml, hown, hall⟩ (c_X11_isRatioOrTerm l dC dI aC a s.heap.size) (va_cwS 1 hall (zgS zw_248 zw_250 zw_802 g_X11_isRatioOrTerm) rfl rfl rfl (by decide +kernel) ⟨Nat.le_of_ble_eq_true rfl, Nat.le_of_ble_eq_true rfl⟩) (zPre_S (As := [.ref a]) hK hP hD [2] rfl (by decide +kernel)) rfl rfl hl.1 rfl (lv_room (Nat.le_of_ble_eq_true rfl)) dX11_work_41 ⟨Nat.le_of_ble_eq_true rfl, Nat.le_of_ble_eq_true rfl⟩) (fun r5240 L5241 hw hS' => ?_)
      clear hS
      have hS := hS'
      clear hS'
      obtain rfl : r5240 = 0 := hw
      try clear hw
      refine lv_if_eq (tgt := 55) hx hb dX11_work_44 (by decide) (fun _ => ?_) (fun c_44_b5242 => absurd (by decide) c_44_b5242)
      show W p l e _ s m _ below meth c _ _ _ _ QQ (F0 m 55 ls5239 [])
      refine lv_bipush (v := (-3)) hx hb dX11_work_55 (by decide) ?_
      rw [← hQ]
      exact W.iret (v := (-3)) hx hb hr (fun zt ht hW => ⟨⟨(-3), (), rfl, by simp [zwork, z5225, z5237], (show zt.heap.size = s.heap.size by rw [ht])⟩, hS.F ht⟩) hS.2.2 dX11_work_57

set_option maxHeartbeats 4000000 in
set_option maxRecDepth 100000 in
theorem c_X11_value_out (l : Launch) (dC : Nat → ClassId) (dI : Nat → Nat → Nat) (aC : Nat → ClassId) (h0 b : Nat) (x y z : Int32) (sz : Nat) (hxm : zslot b x = none) : Met l yX11_value w_X11_value ({ frames := 2, cells := 0, slots := 0, locals := 45 }) (zPre (dC, dI) aC [(h0, .inr (10, [.ref (b + 0), .ref (b + 73), .ref (b + 75), .ref (b + 76), .ref (b + 80), .ref (b + 81), .ref (b + 88), .ref (b + 95), .ref (b + 100), .ref (b + 106), .int 0, .ref (b + 107), .int 0])), (b + 0, .inl (aC 3, 12, .inr (.inr (.inr (.inr (zrefs (fun i => b + (1 + 6 * i)) 12))))))] sz [.ref h0, .int x, .int y, .int z]) (va_Qi (fun (r : Int32) (_ : Unit) => r = -1) (fun _ zt => zt.heap.size = sz) (zN sz)) 0 0 (zN sz) := by
  refine Met.ofW (cc := cX11_value) (maxL := 5) (ret := (some .int)) (by decide) rfl ?_
  intro p e s m args below meth c s₁ B hml hv
  generalize hQ : MQ below _ _ s _ _ _ = QQ
  obtain ⟨rfl, hsz, hP, hK, hD0⟩ := hv
  have hx := B.exec
  have hb := B.bytes
  have hr := B.returns
  have hts := atoms_spec (ws := w_X11_value) B.pre
  have hall := fun (w : Cond) (h : w ∈ zAll) => hts w (List.mem_cons_of_mem _ h)
  have hown : s.vm.findClass RX11 = some m.cls := findClass_of_methodNamed B.named
  have hlocks := B.notSynchronized
  subst hsz
  have hA : ∀ q : Nat, s.heap.size ≤ q → zN s.heap.size q := fun q h => h
  have hS : va_S (zN s.heap.size) s.heap s.heap [] := va_S.rf
  have hD := hD0
  have hl := lv_entry ([.ref h0, .int x, .int y, .int z]) (n := 5) (Nat.le_of_ble_eq_true rfl)
  rw [lg_entry_eq]
  generalize (lg_sl ([.ref h0, .int x, .int y, .int z]) ++ List.replicate (5 - (lg_sl ([.ref h0, .int x, .int y, .int z])).length) Slot.unset).toArray = ls at hl ⊢
  have hl : lv_has ls 5 [(0, .ref h0), (1, .int x), (2, .int y), (3, .int z)] := hl
  refine lv_aload_n hx hb dX11_value_0 rfl (lv_at hl 0 rfl) ?_
  refine lv_iload_n hx hb dX11_value_1 rfl (lv_at hl 1 rfl) ?_
  refine zro_q hS hA (va_runV (As := [.int x]) (rest := []) ⟨hx, hb, hml, hown, hall⟩ (c_X11_slotAt l dC dI aC h0 b x s.heap.size) (cwV 1 hall (zgV zw_225 zw_227 zw_228 zw_802 g_X11_slotAt rfl) rfl rfl rfl (by decide +kernel) ⟨Nat.le_of_ble_eq_true rfl, Nat.le_of_ble_eq_true rfl⟩) (zPre_V (As := [.int x]) hK hP hD [0, 1] rfl (by decide +kernel) (ci := 10) (q0 := 0) rfl rfl) rfl rfl hl.1 rfl (lv_room (Nat.le_of_ble_eq_true rfl)) dX11_value_2 ⟨Nat.le_of_ble_eq_true rfl, Nat.le_of_ble_eq_true rfl⟩) (fun r5243 L5244 hw hS' => ?_)
  clear hS
  have hS := hS'
  clear hS'
  obtain rfl : r5243 = none := hw.trans hxm
  try clear hw
  refine lv_astoreN (lv' := [(4, .null), (0, .ref h0), (1, .int x), (2, .int y), (3, .int z)]) hx hb dX11_value_5 hl (by decide) rfl (fun ls5245 hl' => ?_)
  clear hl
  have hl : lv_has ls5245 5 [(4, .null), (0, .ref h0), (1, .int x), (2, .int y), (3, .int z)] := hl'
  clear hl'
  refine lv_aloadN hx hb dX11_value_7 (lv_at hl 0 rfl) ?_
  refine lv_ifnonnullN hx hb dX11_value_9 ?_
  show W p l e _ s m _ below meth c _ _ _ _ QQ (F0 m 12 ls5245 [])
  refine lv_iconst (v := (-1)) hx hb dX11_value_12 (by decide) ?_
  rw [← hQ]
  exact W.iret (v := (-1)) hx hb hr (fun zt ht hW => ⟨⟨(-1), (), rfl, rfl, (show zt.heap.size = s.heap.size by rw [ht])⟩, hS.F ht⟩) hS.2.2 dX11_value_13

set_option maxHeartbeats 4000000 in
set_option maxRecDepth 100000 in
theorem c_X11_value_in (l : Launch) (dC : Nat → ClassId) (dI : Nat → Nat → Nat) (aC : Nat → ClassId) (h0 b a : Nat) (x y z : Int32) (sz : Nat) (hxm : zslot b x = some a) : Met l yX11_value w_X11_value ({ frames := 2, cells := 0, slots := 0, locals := 45 }) (zPre (dC, dI) aC [(h0, .inr (10, [.ref (b + 0), .ref (b + 73), .ref (b + 75), .ref (b + 76), .ref (b + 80), .ref (b + 81), .ref (b + 88), .ref (b + 95), .ref (b + 100), .ref (b + 106), .int 0, .ref (b + 107), .int 0])), (b + 0, .inl (aC 3, 12, .inr (.inr (.inr (.inr (zrefs (fun i => b + (1 + 6 * i)) 12)))))), (a, .inr (5, [.int 0, .int 0, .int 0, .int 0, .int 0, .int 0, .int 0, .ref (a + 1), .ref (a + 2), .ref (a + 3), .ref (a + 4), .ref (a + 5)]))] sz [.ref h0, .int x, .int y, .int z]) (va_Qi (fun (r : Int32) (_ : Unit) => r = -3) (fun _ zt => zt.heap.size = sz) (zN sz)) 0 0 (zN sz) := by
  refine Met.ofW (cc := cX11_value) (maxL := 5) (ret := (some .int)) (by decide) rfl ?_
  intro p e s m args below meth c s₁ B hml hv
  generalize hQ : MQ below _ _ s _ _ _ = QQ
  obtain ⟨rfl, hsz, hP, hK, hD0⟩ := hv
  have hx := B.exec
  have hb := B.bytes
  have hr := B.returns
  have hts := atoms_spec (ws := w_X11_value) B.pre
  have hall := fun (w : Cond) (h : w ∈ zAll) => hts w (List.mem_cons_of_mem _ h)
  have hown : s.vm.findClass RX11 = some m.cls := findClass_of_methodNamed B.named
  have hlocks := B.notSynchronized
  subst hsz
  have hA : ∀ q : Nat, s.heap.size ≤ q → zN s.heap.size q := fun q h => h
  have hS : va_S (zN s.heap.size) s.heap s.heap [] := va_S.rf
  have hD := hD0
  have hl := lv_entry ([.ref h0, .int x, .int y, .int z]) (n := 5) (Nat.le_of_ble_eq_true rfl)
  rw [lg_entry_eq]
  generalize (lg_sl ([.ref h0, .int x, .int y, .int z]) ++ List.replicate (5 - (lg_sl ([.ref h0, .int x, .int y, .int z])).length) Slot.unset).toArray = ls at hl ⊢
  have hl : lv_has ls 5 [(0, .ref h0), (1, .int x), (2, .int y), (3, .int z)] := hl
  refine lv_aload_n hx hb dX11_value_0 rfl (lv_at hl 0 rfl) ?_
  refine lv_iload_n hx hb dX11_value_1 rfl (lv_at hl 1 rfl) ?_
  refine zro_q hS hA (va_runV (As := [.int x]) (rest := []) ⟨hx, hb, hml, hown, hall⟩ (c_X11_slotAt l dC dI aC h0 b x s.heap.size) (cwV 1 hall (zgV zw_225 zw_227 zw_228 zw_802 g_X11_slotAt rfl) rfl rfl rfl (by decide +kernel) ⟨Nat.le_of_ble_eq_true rfl, Nat.le_of_ble_eq_true rfl⟩) (zPre_V (As := [.int x]) hK hP hD [0, 1] rfl (by decide +kernel) (ci := 10) (q0 := 0) rfl rfl) rfl rfl hl.1 rfl (lv_room (Nat.le_of_ble_eq_true rfl)) dX11_value_2 ⟨Nat.le_of_ble_eq_true rfl, Nat.le_of_ble_eq_true rfl⟩) (fun r5246 L5247 hw hS' => ?_)
  clear hS
  have hS := hS'
  clear hS'
  obtain rfl : r5246 = some a := hw.trans hxm
  try clear hw
  refine lv_astore (lv' := [(4, .ref a), (0, .ref h0), (1, .int x), (2, .int y), (3, .int z)]) hx hb dX11_value_5 hl (by decide) rfl (fun ls5248 hl' => ?_)
  clear hl
  have hl : lv_has ls5248 5 [(4, .ref a), (0, .ref h0), (1, .int x), (2, .int y), (3, .int z)] := hl'
  clear hl'
  refine lv_aload hx hb dX11_value_7 (lv_at hl 0 rfl) ?_
  refine lv_ifnonnull (tgt := 14) hx hb dX11_value_9 (by decide) ?_
  show W p l e _ s m _ below meth c _ _ _ _ QQ (F0 m 14 ls5248 [])
  refine lv_aload hx hb dX11_value_14 (lv_at hl 0 rfl) ?_
  refine zro_i hS hA (va_runS (As := [.ref a]) (rest := []) ⟨hx, hb, hml, hown, hall⟩ (c_X11_isRatioOrTerm l dC dI aC a s.heap.size) (va_cwS 1 hall (zgS zw_248 zw_250 zw_802 g_X11_isRatioOrTerm) rfl rfl rfl (by decide +kernel) ⟨Nat.le_of_ble_eq_true rfl, Nat.le_of_ble_eq_true rfl⟩) (zPre_S (As := [.ref a]) hK hP hD [2] rfl (by decide +kernel)) rfl rfl hl.1 rfl (lv_room (Nat.le_of_ble_eq_true rfl)) dX11_value_16 ⟨Nat.le_of_ble_eq_true rfl, Nat.le_of_ble_eq_true rfl⟩) (fun r5249 L5250 hw hS' => ?_)
  clear hS
  have hS := hS'
  clear hS'
  obtain rfl : r5249 = 0 := hw
  try clear hw
  refine lv_if_eq (tgt := 36) hx hb dX11_value_19 (by decide) (fun _ => ?_) (fun c_19_b5251 => absurd (by decide) c_19_b5251)
  refine lv_bipush (v := (-3)) hx hb dX11_value_36 (by decide) ?_
  rw [← hQ]
  exact W.iret (v := (-3)) hx hb hr (fun zt ht hW => ⟨⟨(-3), (), rfl, rfl, (show zt.heap.size = s.heap.size by rw [ht])⟩, hS.F ht⟩) hS.2.2 dX11_value_38

set_option maxHeartbeats 4000000 in
set_option maxRecDepth 100000 in
theorem c_X11_sum_out (l : Launch) (dC : Nat → ClassId) (dI : Nat → Nat → Nat) (aC : Nat → ClassId) (h0 b : Nat) (x y z v : Int32) (sz : Nat) (hxm : zslot b x = none) : Met l yX11_sum w_X11_sum ({ frames := 2, cells := 0, slots := 0, locals := 45 }) (zPre (dC, dI) aC [(h0, .inr (10, [.ref (b + 0), .ref (b + 73), .ref (b + 75), .ref (b + 76), .ref (b + 80), .ref (b + 81), .ref (b + 88), .ref (b + 95), .ref (b + 100), .ref (b + 106), .int 0, .ref (b + 107), .int 0])), (b + 0, .inl (aC 3, 12, .inr (.inr (.inr (.inr (zrefs (fun i => b + (1 + 6 * i)) 12))))))] sz [.ref h0, .int x, .int y, .int z, .int v]) (va_Qi (fun (r : Int32) (_ : Unit) => r = -1) (fun _ zt => zt.heap.size = sz) (zN sz)) 0 0 (zN sz) := by
  refine Met.ofW (cc := cX11_sum) (maxL := 6) (ret := (some .int)) (by decide) rfl ?_
  intro p e s m args below meth c s₁ B hml hv
  generalize hQ : MQ below _ _ s _ _ _ = QQ
  obtain ⟨rfl, hsz, hP, hK, hD0⟩ := hv
  have hx := B.exec
  have hb := B.bytes
  have hr := B.returns
  have hts := atoms_spec (ws := w_X11_sum) B.pre
  have hall := fun (w : Cond) (h : w ∈ zAll) => hts w (List.mem_cons_of_mem _ h)
  have hown : s.vm.findClass RX11 = some m.cls := findClass_of_methodNamed B.named
  have hlocks := B.notSynchronized
  subst hsz
  have hA : ∀ q : Nat, s.heap.size ≤ q → zN s.heap.size q := fun q h => h
  have hS : va_S (zN s.heap.size) s.heap s.heap [] := va_S.rf
  have hD := hD0
  have hl := lv_entry ([.ref h0, .int x, .int y, .int z, .int v]) (n := 6) (Nat.le_of_ble_eq_true rfl)
  rw [lg_entry_eq]
  generalize (lg_sl ([.ref h0, .int x, .int y, .int z, .int v]) ++ List.replicate (6 - (lg_sl ([.ref h0, .int x, .int y, .int z, .int v])).length) Slot.unset).toArray = ls at hl ⊢
  have hl : lv_has ls 6 [(0, .ref h0), (1, .int x), (2, .int y), (3, .int z), (4, .int v)] := hl
  refine lv_aload_n hx hb dX11_sum_0 rfl (lv_at hl 0 rfl) ?_
  refine lv_iload_n hx hb dX11_sum_1 rfl (lv_at hl 1 rfl) ?_
  refine zro_q hS hA (va_runV (As := [.int x]) (rest := []) ⟨hx, hb, hml, hown, hall⟩ (c_X11_slotAt l dC dI aC h0 b x s.heap.size) (cwV 1 hall (zgV zw_225 zw_227 zw_228 zw_802 g_X11_slotAt rfl) rfl rfl rfl (by decide +kernel) ⟨Nat.le_of_ble_eq_true rfl, Nat.le_of_ble_eq_true rfl⟩) (zPre_V (As := [.int x]) hK hP hD [0, 1] rfl (by decide +kernel) (ci := 10) (q0 := 0) rfl rfl) rfl rfl hl.1 rfl (lv_room (Nat.le_of_ble_eq_true rfl)) dX11_sum_2 ⟨Nat.le_of_ble_eq_true rfl, Nat.le_of_ble_eq_true rfl⟩) (fun r5252 L5253 hw hS' => ?_)
  clear hS
  have hS := hS'
  clear hS'
  obtain rfl : r5252 = none := hw.trans hxm
  try clear hw
  refine lv_astoreN (lv' := [(5, .null), (0, .ref h0), (1, .int x), (2, .int y), (3, .int z), (4, .int v)]) hx hb dX11_sum_5 hl (by decide) rfl (fun ls5254 hl' => ?_)
  clear hl
  have hl : lv_has ls5254 6 [(5, .null), (0, .ref h0), (1, .int x), (2, .int y), (3, .int z), (4, .int v)] := hl'
  clear hl'
  refine lv_aloadN hx hb dX11_sum_7 (lv_at hl 0 rfl) ?_
  refine lv_ifnonnullN hx hb dX11_sum_9 ?_
  show W p l e _ s m _ below meth c _ _ _ _ QQ (F0 m 12 ls5254 [])
  refine lv_iconst (v := (-1)) hx hb dX11_sum_12 (by decide) ?_
  rw [← hQ]
  exact W.iret (v := (-1)) hx hb hr (fun zt ht hW => ⟨⟨(-1), (), rfl, rfl, (show zt.heap.size = s.heap.size by rw [ht])⟩, hS.F ht⟩) hS.2.2 dX11_sum_13

set_option maxHeartbeats 4000000 in
set_option maxRecDepth 100000 in
theorem c_X11_sum_in (l : Launch) (dC : Nat → ClassId) (dI : Nat → Nat → Nat) (aC : Nat → ClassId) (h0 b a : Nat) (x y z v : Int32) (sz : Nat) (hxm : zslot b x = some a) : Met l yX11_sum w_X11_sum ({ frames := 2, cells := 0, slots := 0, locals := 45 }) (zPre (dC, dI) aC [(h0, .inr (10, [.ref (b + 0), .ref (b + 73), .ref (b + 75), .ref (b + 76), .ref (b + 80), .ref (b + 81), .ref (b + 88), .ref (b + 95), .ref (b + 100), .ref (b + 106), .int 0, .ref (b + 107), .int 0])), (b + 0, .inl (aC 3, 12, .inr (.inr (.inr (.inr (zrefs (fun i => b + (1 + 6 * i)) 12)))))), (a, .inr (5, [.int 0, .int 0, .int 0, .int 0, .int 0, .int 0, .int 0, .ref (a + 1), .ref (a + 2), .ref (a + 3), .ref (a + 4), .ref (a + 5)]))] sz [.ref h0, .int x, .int y, .int z, .int v]) (va_Qi (fun (r : Int32) (_ : Unit) => r = -3) (fun _ zt => zt.heap.size = sz) (zN sz)) 0 0 (zN sz) := by
  refine Met.ofW (cc := cX11_sum) (maxL := 6) (ret := (some .int)) (by decide) rfl ?_
  intro p e s m args below meth c s₁ B hml hv
  generalize hQ : MQ below _ _ s _ _ _ = QQ
  obtain ⟨rfl, hsz, hP, hK, hD0⟩ := hv
  have hx := B.exec
  have hb := B.bytes
  have hr := B.returns
  have hts := atoms_spec (ws := w_X11_sum) B.pre
  have hall := fun (w : Cond) (h : w ∈ zAll) => hts w (List.mem_cons_of_mem _ h)
  have hown : s.vm.findClass RX11 = some m.cls := findClass_of_methodNamed B.named
  have hlocks := B.notSynchronized
  subst hsz
  have hA : ∀ q : Nat, s.heap.size ≤ q → zN s.heap.size q := fun q h => h
  have hS : va_S (zN s.heap.size) s.heap s.heap [] := va_S.rf
  have hD := hD0
  have hl := lv_entry ([.ref h0, .int x, .int y, .int z, .int v]) (n := 6) (Nat.le_of_ble_eq_true rfl)
  rw [lg_entry_eq]
  generalize (lg_sl ([.ref h0, .int x, .int y, .int z, .int v]) ++ List.replicate (6 - (lg_sl ([.ref h0, .int x, .int y, .int z, .int v])).length) Slot.unset).toArray = ls at hl ⊢
  have hl : lv_has ls 6 [(0, .ref h0), (1, .int x), (2, .int y), (3, .int z), (4, .int v)] := hl
  refine lv_aload_n hx hb dX11_sum_0 rfl (lv_at hl 0 rfl) ?_
  refine lv_iload_n hx hb dX11_sum_1 rfl (lv_at hl 1 rfl) ?_
  refine zro_q hS hA (va_runV (As := [.int x]) (rest := []) ⟨hx, hb, hml, hown, hall⟩ (c_X11_slotAt l dC dI aC h0 b x s.heap.size) (cwV 1 hall (zgV zw_225 zw_227 zw_228 zw_802 g_X11_slotAt rfl) rfl rfl rfl (by decide +kernel) ⟨Nat.le_of_ble_eq_true rfl, Nat.le_of_ble_eq_true rfl⟩) (zPre_V (As := [.int x]) hK hP hD [0, 1] rfl (by decide +kernel) (ci := 10) (q0 := 0) rfl rfl) rfl rfl hl.1 rfl (lv_room (Nat.le_of_ble_eq_true rfl)) dX11_sum_2 ⟨Nat.le_of_ble_eq_true rfl, Nat.le_of_ble_eq_true rfl⟩) (fun r5255 L5256 hw hS' => ?_)
  clear hS
  have hS := hS'
  clear hS'
  obtain rfl : r5255 = some a := hw.trans hxm
  try clear hw
  refine lv_astore (lv' := [(5, .ref a), (0, .ref h0), (1, .int x), (2, .int y), (3, .int z), (4, .int v)]) hx hb dX11_sum_5 hl (by decide) rfl (fun ls5257 hl' => ?_)
  clear hl
  have hl : lv_has ls5257 6 [(5, .ref a), (0, .ref h0), (1, .int x), (2, .int y), (3, .int z), (4, .int v)] := hl'
  clear hl'
  refine lv_aload hx hb dX11_sum_7 (lv_at hl 0 rfl) ?_
  refine lv_ifnonnull (tgt := 14) hx hb dX11_sum_9 (by decide) ?_
  show W p l e _ s m _ below meth c _ _ _ _ QQ (F0 m 14 ls5257 [])
  refine lv_aload hx hb dX11_sum_14 (lv_at hl 0 rfl) ?_
  refine zro_i hS hA (va_runS (As := [.ref a]) (rest := []) ⟨hx, hb, hml, hown, hall⟩ (c_X11_isRatioOrTerm l dC dI aC a s.heap.size) (va_cwS 1 hall (zgS zw_248 zw_250 zw_802 g_X11_isRatioOrTerm) rfl rfl rfl (by decide +kernel) ⟨Nat.le_of_ble_eq_true rfl, Nat.le_of_ble_eq_true rfl⟩) (zPre_S (As := [.ref a]) hK hP hD [2] rfl (by decide +kernel)) rfl rfl hl.1 rfl (lv_room (Nat.le_of_ble_eq_true rfl)) dX11_sum_16 ⟨Nat.le_of_ble_eq_true rfl, Nat.le_of_ble_eq_true rfl⟩) (fun r5258 L5259 hw hS' => ?_)
  clear hS
  have hS := hS'
  clear hS'
  obtain rfl : r5258 = 0 := hw
  try clear hw
  refine lv_if_ne (tgt := 25) hx hb dX11_sum_19 (by decide) (fun c_19_b5260 => absurd (by decide) c_19_b5260) (fun _ => ?_)
  refine lv_bipush (v := (-3)) hx hb dX11_sum_22 (by decide) ?_
  rw [← hQ]
  exact W.iret (v := (-3)) hx hb hr (fun zt ht hW => ⟨⟨(-3), (), rfl, rfl, (show zt.heap.size = s.heap.size by rw [ht])⟩, hS.F ht⟩) hS.2.2 dX11_sum_24

set_option maxHeartbeats 4000000 in
set_option maxRecDepth 100000 in
theorem c_X11_quotient_out (l : Launch) (dC : Nat → ClassId) (dI : Nat → Nat → Nat) (aC : Nat → ClassId) (h0 b : Nat) (x z y : Int32) (sz : Nat) (hxm : zslot b x = none) : Met l yX11_quotient w_X11_quotient ({ frames := 2, cells := 0, slots := 0, locals := 45 }) (zPre (dC, dI) aC [(h0, .inr (10, [.ref (b + 0), .ref (b + 73), .ref (b + 75), .ref (b + 76), .ref (b + 80), .ref (b + 81), .ref (b + 88), .ref (b + 95), .ref (b + 100), .ref (b + 106), .int 0, .ref (b + 107), .int 0])), (b + 0, .inl (aC 3, 12, .inr (.inr (.inr (.inr (zrefs (fun i => b + (1 + 6 * i)) 12))))))] sz [.ref h0, .int x, .int z, .int y]) (va_Qi (fun (r : Int32) (_ : Unit) => r = -1) (fun _ zt => zt.heap.size = sz) (zN sz)) 0 0 (zN sz) := by
  refine Met.ofW (cc := cX11_quotient) (maxL := 9) (ret := (some .int)) (by decide) rfl ?_
  intro p e s m args below meth c s₁ B hml hv
  generalize hQ : MQ below _ _ s _ _ _ = QQ
  obtain ⟨rfl, hsz, hP, hK, hD0⟩ := hv
  have hx := B.exec
  have hb := B.bytes
  have hr := B.returns
  have hts := atoms_spec (ws := w_X11_quotient) B.pre
  have hall := fun (w : Cond) (h : w ∈ zAll) => hts w (List.mem_cons_of_mem _ h)
  have hown : s.vm.findClass RX11 = some m.cls := findClass_of_methodNamed B.named
  have hlocks := B.notSynchronized
  subst hsz
  have hA : ∀ q : Nat, s.heap.size ≤ q → zN s.heap.size q := fun q h => h
  have hS : va_S (zN s.heap.size) s.heap s.heap [] := va_S.rf
  have hD := hD0
  have hl := lv_entry ([.ref h0, .int x, .int z, .int y]) (n := 9) (Nat.le_of_ble_eq_true rfl)
  rw [lg_entry_eq]
  generalize (lg_sl ([.ref h0, .int x, .int z, .int y]) ++ List.replicate (9 - (lg_sl ([.ref h0, .int x, .int z, .int y])).length) Slot.unset).toArray = ls at hl ⊢
  have hl : lv_has ls 9 [(0, .ref h0), (1, .int x), (2, .int z), (3, .int y)] := hl
  refine lv_aload_n hx hb dX11_quotient_0 rfl (lv_at hl 0 rfl) ?_
  refine lv_iload_n hx hb dX11_quotient_1 rfl (lv_at hl 1 rfl) ?_
  refine zro_q hS hA (va_runV (As := [.int x]) (rest := []) ⟨hx, hb, hml, hown, hall⟩ (c_X11_slotAt l dC dI aC h0 b x s.heap.size) (cwV 1 hall (zgV zw_225 zw_227 zw_228 zw_802 g_X11_slotAt rfl) rfl rfl rfl (by decide +kernel) ⟨Nat.le_of_ble_eq_true rfl, Nat.le_of_ble_eq_true rfl⟩) (zPre_V (As := [.int x]) hK hP hD [0, 1] rfl (by decide +kernel) (ci := 10) (q0 := 0) rfl rfl) rfl rfl hl.1 rfl (lv_room (Nat.le_of_ble_eq_true rfl)) dX11_quotient_2 ⟨Nat.le_of_ble_eq_true rfl, Nat.le_of_ble_eq_true rfl⟩) (fun r5261 L5262 hw hS' => ?_)
  clear hS
  have hS := hS'
  clear hS'
  obtain rfl : r5261 = none := hw.trans hxm
  try clear hw
  refine lv_astoreN (lv' := [(4, .null), (0, .ref h0), (1, .int x), (2, .int z), (3, .int y)]) hx hb dX11_quotient_5 hl (by decide) rfl (fun ls5263 hl' => ?_)
  clear hl
  have hl : lv_has ls5263 9 [(4, .null), (0, .ref h0), (1, .int x), (2, .int z), (3, .int y)] := hl'
  clear hl'
  refine lv_aload_n hx hb dX11_quotient_7 rfl (lv_at hl 1 rfl) ?_
  show W p l e _ s m _ below meth c _ _ _ _ QQ (F0 m 8 ls5263 [.ref h0])
  refine lv_iload_n hx hb dX11_quotient_8 rfl (lv_at hl 4 rfl) ?_
  refine zro_q hS hA (va_runV (As := [.int y]) (rest := []) ⟨hx, hb, hml, hown, hall⟩ (c_X11_slotAt l dC dI aC h0 b y s.heap.size) (cwV 1 hall (zgV zw_225 zw_227 zw_228 zw_802 g_X11_slotAt rfl) rfl rfl rfl (by decide +kernel) ⟨Nat.le_of_ble_eq_true rfl, Nat.le_of_ble_eq_true rfl⟩) (zPre_V (As := [.int y]) hK hP hD [0, 1] rfl (by decide +kernel) (ci := 10) (q0 := 0) rfl rfl) rfl rfl hl.1 rfl (lv_room (Nat.le_of_ble_eq_true rfl)) dX11_quotient_9 ⟨Nat.le_of_ble_eq_true rfl, Nat.le_of_ble_eq_true rfl⟩) (fun r5264 L5265 hw hS' => ?_)
  clear hS
  have hS := hS'
  clear hS'
  rcases r5264 with _ | q5266
  · have z5267 : ¬ zok y = true := zslot_n hw
    clear hw
    show W p l e _ s m _ below meth c _ _ _ _ QQ (F0 m 12 ls5263 [.null])
    refine lv_astoreN (lv' := [(5, .null), (4, .null), (0, .ref h0), (1, .int x), (2, .int z), (3, .int y)]) hx hb dX11_quotient_12 hl (by decide) rfl (fun ls5268 hl' => ?_)
    clear hl
    have hl : lv_has ls5268 9 [(5, .null), (4, .null), (0, .ref h0), (1, .int x), (2, .int z), (3, .int y)] := hl'
    clear hl'
    refine lv_aloadN hx hb dX11_quotient_14 (lv_at hl 1 rfl) ?_
    refine lv_ifnullN (tgt := 24) hx hb dX11_quotient_16 (by decide) ?_
    refine lv_iconst (v := (-1)) hx hb dX11_quotient_24 (by decide) ?_
    rw [← hQ]
    exact W.iret (v := (-1)) hx hb hr (fun zt ht hW => ⟨⟨(-1), (), rfl, rfl, (show zt.heap.size = s.heap.size by rw [ht])⟩, hS.F ht⟩) hS.2.2 dX11_quotient_25
  · have z5267 : zok y = true := zslot_s hw
    clear hw
    show W p l e _ s m _ below meth c _ _ _ _ QQ (F0 m 12 ls5263 [.ref q5266])
    refine lv_astore (lv' := [(5, .ref q5266), (4, .null), (0, .ref h0), (1, .int x), (2, .int z), (3, .int y)]) hx hb dX11_quotient_12 hl (by decide) rfl (fun ls5269 hl' => ?_)
    clear hl
    have hl : lv_has ls5269 9 [(5, .ref q5266), (4, .null), (0, .ref h0), (1, .int x), (2, .int z), (3, .int y)] := hl'
    clear hl'
    refine lv_aloadN hx hb dX11_quotient_14 (lv_at hl 1 rfl) ?_
    refine lv_ifnullN (tgt := 24) hx hb dX11_quotient_16 (by decide) ?_
    refine lv_iconst (v := (-1)) hx hb dX11_quotient_24 (by decide) ?_
    rw [← hQ]
    exact W.iret (v := (-1)) hx hb hr (fun zt ht hW => ⟨⟨(-1), (), rfl, rfl, (show zt.heap.size = s.heap.size by rw [ht])⟩, hS.F ht⟩) hS.2.2 dX11_quotient_25

set_option maxHeartbeats 4000000 in
set_option maxRecDepth 100000 in
theorem c_X11_quotient_in (l : Launch) (dC : Nat → ClassId) (dI : Nat → Nat → Nat) (aC : Nat → ClassId) (h0 b a : Nat) (x z y : Int32) (sz : Nat) (hxm : zslot b x = some a) : Met l yX11_quotient w_X11_quotient ({ frames := 2, cells := 0, slots := 0, locals := 45 }) (zPre (dC, dI) aC [(h0, .inr (10, [.ref (b + 0), .ref (b + 73), .ref (b + 75), .ref (b + 76), .ref (b + 80), .ref (b + 81), .ref (b + 88), .ref (b + 95), .ref (b + 100), .ref (b + 106), .int 0, .ref (b + 107), .int 0])), (b + 0, .inl (aC 3, 12, .inr (.inr (.inr (.inr (zrefs (fun i => b + (1 + 6 * i)) 12)))))), (a, .inr (5, [.int 0, .int 0, .int 0, .int 0, .int 0, .int 0, .int 0, .ref (a + 1), .ref (a + 2), .ref (a + 3), .ref (a + 4), .ref (a + 5)]))] sz [.ref h0, .int x, .int z, .int y]) (va_Qi (fun (r : Int32) (_ : Unit) => r = zface1 y (-3) (-1)) (fun _ zt => zt.heap.size = sz) (zN sz)) 0 0 (zN sz) := by
  refine Met.ofW (cc := cX11_quotient) (maxL := 9) (ret := (some .int)) (by decide) rfl ?_
  intro p e s m args below meth c s₁ B hml hv
  generalize hQ : MQ below _ _ s _ _ _ = QQ
  obtain ⟨rfl, hsz, hP, hK, hD0⟩ := hv
  have hx := B.exec
  have hb := B.bytes
  have hr := B.returns
  have hts := atoms_spec (ws := w_X11_quotient) B.pre
  have hall := fun (w : Cond) (h : w ∈ zAll) => hts w (List.mem_cons_of_mem _ h)
  have hown : s.vm.findClass RX11 = some m.cls := findClass_of_methodNamed B.named
  have hlocks := B.notSynchronized
  subst hsz
  have hA : ∀ q : Nat, s.heap.size ≤ q → zN s.heap.size q := fun q h => h
  have hS : va_S (zN s.heap.size) s.heap s.heap [] := va_S.rf
  have hD := hD0
  have hl := lv_entry ([.ref h0, .int x, .int z, .int y]) (n := 9) (Nat.le_of_ble_eq_true rfl)
  rw [lg_entry_eq]
  generalize (lg_sl ([.ref h0, .int x, .int z, .int y]) ++ List.replicate (9 - (lg_sl ([.ref h0, .int x, .int z, .int y])).length) Slot.unset).toArray = ls at hl ⊢
  have hl : lv_has ls 9 [(0, .ref h0), (1, .int x), (2, .int z), (3, .int y)] := hl
  refine lv_aload_n hx hb dX11_quotient_0 rfl (lv_at hl 0 rfl) ?_
  refine lv_iload_n hx hb dX11_quotient_1 rfl (lv_at hl 1 rfl) ?_
  refine zro_q hS hA (va_runV (As := [.int x]) (rest := []) ⟨hx, hb, hml, hown, hall⟩ (c_X11_slotAt l dC dI aC h0 b x s.heap.size) (cwV 1 hall (zgV zw_225 zw_227 zw_228 zw_802 g_X11_slotAt rfl) rfl rfl rfl (by decide +kernel) ⟨Nat.le_of_ble_eq_true rfl, Nat.le_of_ble_eq_true rfl⟩) (zPre_V (As := [.int x]) hK hP hD [0, 1] rfl (by decide +kernel) (ci := 10) (q0 := 0) rfl rfl) rfl rfl hl.1 rfl (lv_room (Nat.le_of_ble_eq_true rfl)) dX11_quotient_2 ⟨Nat.le_of_ble_eq_true rfl, Nat.le_of_ble_eq_true rfl⟩) (fun r5270 L5271 hw hS' => ?_)
  clear hS
  have hS := hS'
  clear hS'
  obtain rfl : r5270 = some a := hw.trans hxm
  try clear hw
  refine lv_astore (lv' := [(4, .ref a), (0, .ref h0), (1, .int x), (2, .int z), (3, .int y)]) hx hb dX11_quotient_5 hl (by decide) rfl (fun ls5272 hl' => ?_)
  clear hl
  have hl : lv_has ls5272 9 [(4, .ref a), (0, .ref h0), (1, .int x), (2, .int z), (3, .int y)] := hl'
  clear hl'
  refine lv_aload_n hx hb dX11_quotient_7 rfl (lv_at hl 1 rfl) ?_
  show W p l e _ s m _ below meth c _ _ _ _ QQ (F0 m 8 ls5272 [.ref h0])
  refine lv_iload_n hx hb dX11_quotient_8 rfl (lv_at hl 4 rfl) ?_
  refine zro_q hS hA (va_runV (As := [.int y]) (rest := []) ⟨hx, hb, hml, hown, hall⟩ (c_X11_slotAt l dC dI aC h0 b y s.heap.size) (cwV 1 hall (zgV zw_225 zw_227 zw_228 zw_802 g_X11_slotAt rfl) rfl rfl rfl (by decide +kernel) ⟨Nat.le_of_ble_eq_true rfl, Nat.le_of_ble_eq_true rfl⟩) (zPre_V (As := [.int y]) hK hP hD [0, 1] rfl (by decide +kernel) (ci := 10) (q0 := 0) rfl rfl) rfl rfl hl.1 rfl (lv_room (Nat.le_of_ble_eq_true rfl)) dX11_quotient_9 ⟨Nat.le_of_ble_eq_true rfl, Nat.le_of_ble_eq_true rfl⟩) (fun r5273 L5274 hw hS' => ?_)
  clear hS
  have hS := hS'
  clear hS'
  rcases r5273 with _ | q5275
  · have z5276 : ¬ zok y = true := zslot_n hw
    clear hw
    show W p l e _ s m _ below meth c _ _ _ _ QQ (F0 m 12 ls5272 [.null])
    refine lv_astoreN (lv' := [(5, .null), (4, .ref a), (0, .ref h0), (1, .int x), (2, .int z), (3, .int y)]) hx hb dX11_quotient_12 hl (by decide) rfl (fun ls5277 hl' => ?_)
    clear hl
    have hl : lv_has ls5277 9 [(5, .null), (4, .ref a), (0, .ref h0), (1, .int x), (2, .int z), (3, .int y)] := hl'
    clear hl'
    refine lv_aload hx hb dX11_quotient_14 (lv_at hl 1 rfl) ?_
    refine lv_ifnull hx hb dX11_quotient_16 ?_
    refine lv_aloadN hx hb dX11_quotient_19 (lv_at hl 0 rfl) ?_
    refine lv_ifnonnullN hx hb dX11_quotient_21 ?_
    show W p l e _ s m _ below meth c _ _ _ _ QQ (F0 m 24 ls5277 [])
    refine lv_iconst (v := (-1)) hx hb dX11_quotient_24 (by decide) ?_
    rw [← hQ]
    exact W.iret (v := (-1)) hx hb hr (fun zt ht hW => ⟨⟨(-1), (), rfl, by simp [zface1, z5276], (show zt.heap.size = s.heap.size by rw [ht])⟩, hS.F ht⟩) hS.2.2 dX11_quotient_25
  · have z5276 : zok y = true := zslot_s hw
    clear hw
    show W p l e _ s m _ below meth c _ _ _ _ QQ (F0 m 12 ls5272 [.ref q5275])
    refine lv_astore (lv' := [(5, .ref q5275), (4, .ref a), (0, .ref h0), (1, .int x), (2, .int z), (3, .int y)]) hx hb dX11_quotient_12 hl (by decide) rfl (fun ls5278 hl' => ?_)
    clear hl
    have hl : lv_has ls5278 9 [(5, .ref q5275), (4, .ref a), (0, .ref h0), (1, .int x), (2, .int z), (3, .int y)] := hl'
    clear hl'
    refine lv_aload hx hb dX11_quotient_14 (lv_at hl 1 rfl) ?_
    refine lv_ifnull hx hb dX11_quotient_16 ?_
    refine lv_aload hx hb dX11_quotient_19 (lv_at hl 0 rfl) ?_
    refine lv_ifnonnull (tgt := 26) hx hb dX11_quotient_21 (by decide) ?_
    show W p l e _ s m _ below meth c _ _ _ _ QQ (F0 m 26 ls5278 [])
    refine lv_aload hx hb dX11_quotient_26 (lv_at hl 1 rfl) ?_
    refine zro_i hS hA (va_runS (As := [.ref a]) (rest := []) ⟨hx, hb, hml, hown, hall⟩ (c_X11_isRatioOrTerm l dC dI aC a s.heap.size) (va_cwS 1 hall (zgS zw_248 zw_250 zw_802 g_X11_isRatioOrTerm) rfl rfl rfl (by decide +kernel) ⟨Nat.le_of_ble_eq_true rfl, Nat.le_of_ble_eq_true rfl⟩) (zPre_S (As := [.ref a]) hK hP hD [2] rfl (by decide +kernel)) rfl rfl hl.1 rfl (lv_room (Nat.le_of_ble_eq_true rfl)) dX11_quotient_28 ⟨Nat.le_of_ble_eq_true rfl, Nat.le_of_ble_eq_true rfl⟩) (fun r5279 L5280 hw hS' => ?_)
    clear hS
    have hS := hS'
    clear hS'
    obtain rfl : r5279 = 0 := hw
    try clear hw
    refine lv_if_ne (tgt := 37) hx hb dX11_quotient_31 (by decide) (fun c_31_b5281 => absurd (by decide) c_31_b5281) (fun _ => ?_)
    refine lv_bipush (v := (-3)) hx hb dX11_quotient_34 (by decide) ?_
    rw [← hQ]
    exact W.iret (v := (-3)) hx hb hr (fun zt ht hW => ⟨⟨(-3), (), rfl, by simp [zface1, z5276], (show zt.heap.size = s.heap.size by rw [ht])⟩, hS.F ht⟩) hS.2.2 dX11_quotient_36

set_option maxHeartbeats 4000000 in
set_option maxRecDepth 100000 in
theorem c_X11_form_out (l : Launch) (dC : Nat → ClassId) (dI : Nat → Nat → Nat) (aC : Nat → ClassId) (h0 b : Nat) (x z y : Int32) (sz : Nat) (hxm : zslot b x = none) : Met l yX11_form w_X11_form ({ frames := 2, cells := 0, slots := 0, locals := 45 }) (zPre (dC, dI) aC [(h0, .inr (10, [.ref (b + 0), .ref (b + 73), .ref (b + 75), .ref (b + 76), .ref (b + 80), .ref (b + 81), .ref (b + 88), .ref (b + 95), .ref (b + 100), .ref (b + 106), .int 0, .ref (b + 107), .int 0])), (b + 0, .inl (aC 3, 12, .inr (.inr (.inr (.inr (zrefs (fun i => b + (1 + 6 * i)) 12))))))] sz [.ref h0, .int x, .int z, .int y]) (va_Qi (fun (r : Int32) (_ : Unit) => r = -1) (fun _ zt => zt.heap.size = sz) (zN sz)) 0 0 (zN sz) := by
  refine Met.ofW (cc := cX11_form) (maxL := 7) (ret := (some .int)) (by decide) rfl ?_
  intro p e s m args below meth c s₁ B hml hv
  generalize hQ : MQ below _ _ s _ _ _ = QQ
  obtain ⟨rfl, hsz, hP, hK, hD0⟩ := hv
  have hx := B.exec
  have hb := B.bytes
  have hr := B.returns
  have hts := atoms_spec (ws := w_X11_form) B.pre
  have hall := fun (w : Cond) (h : w ∈ zAll) => hts w (List.mem_cons_of_mem _ h)
  have hown : s.vm.findClass RX11 = some m.cls := findClass_of_methodNamed B.named
  have hlocks := B.notSynchronized
  subst hsz
  have hA : ∀ q : Nat, s.heap.size ≤ q → zN s.heap.size q := fun q h => h
  have hS : va_S (zN s.heap.size) s.heap s.heap [] := va_S.rf
  have hD := hD0
  have hl := lv_entry ([.ref h0, .int x, .int z, .int y]) (n := 7) (Nat.le_of_ble_eq_true rfl)
  rw [lg_entry_eq]
  generalize (lg_sl ([.ref h0, .int x, .int z, .int y]) ++ List.replicate (7 - (lg_sl ([.ref h0, .int x, .int z, .int y])).length) Slot.unset).toArray = ls at hl ⊢
  have hl : lv_has ls 7 [(0, .ref h0), (1, .int x), (2, .int z), (3, .int y)] := hl
  refine lv_aload_n hx hb dX11_form_0 rfl (lv_at hl 0 rfl) ?_
  refine lv_iload_n hx hb dX11_form_1 rfl (lv_at hl 1 rfl) ?_
  refine zro_q hS hA (va_runV (As := [.int x]) (rest := []) ⟨hx, hb, hml, hown, hall⟩ (c_X11_slotAt l dC dI aC h0 b x s.heap.size) (cwV 1 hall (zgV zw_225 zw_227 zw_228 zw_802 g_X11_slotAt rfl) rfl rfl rfl (by decide +kernel) ⟨Nat.le_of_ble_eq_true rfl, Nat.le_of_ble_eq_true rfl⟩) (zPre_V (As := [.int x]) hK hP hD [0, 1] rfl (by decide +kernel) (ci := 10) (q0 := 0) rfl rfl) rfl rfl hl.1 rfl (lv_room (Nat.le_of_ble_eq_true rfl)) dX11_form_2 ⟨Nat.le_of_ble_eq_true rfl, Nat.le_of_ble_eq_true rfl⟩) (fun r5282 L5283 hw hS' => ?_)
  clear hS
  have hS := hS'
  clear hS'
  obtain rfl : r5282 = none := hw.trans hxm
  try clear hw
  refine lv_astoreN (lv' := [(4, .null), (0, .ref h0), (1, .int x), (2, .int z), (3, .int y)]) hx hb dX11_form_5 hl (by decide) rfl (fun ls5284 hl' => ?_)
  clear hl
  have hl : lv_has ls5284 7 [(4, .null), (0, .ref h0), (1, .int x), (2, .int z), (3, .int y)] := hl'
  clear hl'
  refine lv_aload_n hx hb dX11_form_7 rfl (lv_at hl 1 rfl) ?_
  show W p l e _ s m _ below meth c _ _ _ _ QQ (F0 m 8 ls5284 [.ref h0])
  refine lv_iload_n hx hb dX11_form_8 rfl (lv_at hl 4 rfl) ?_
  refine zro_q hS hA (va_runV (As := [.int y]) (rest := []) ⟨hx, hb, hml, hown, hall⟩ (c_X11_slotAt l dC dI aC h0 b y s.heap.size) (cwV 1 hall (zgV zw_225 zw_227 zw_228 zw_802 g_X11_slotAt rfl) rfl rfl rfl (by decide +kernel) ⟨Nat.le_of_ble_eq_true rfl, Nat.le_of_ble_eq_true rfl⟩) (zPre_V (As := [.int y]) hK hP hD [0, 1] rfl (by decide +kernel) (ci := 10) (q0 := 0) rfl rfl) rfl rfl hl.1 rfl (lv_room (Nat.le_of_ble_eq_true rfl)) dX11_form_9 ⟨Nat.le_of_ble_eq_true rfl, Nat.le_of_ble_eq_true rfl⟩) (fun r5285 L5286 hw hS' => ?_)
  clear hS
  have hS := hS'
  clear hS'
  rcases r5285 with _ | q5287
  · have z5288 : ¬ zok y = true := zslot_n hw
    clear hw
    show W p l e _ s m _ below meth c _ _ _ _ QQ (F0 m 12 ls5284 [.null])
    refine lv_astoreN (lv' := [(5, .null), (4, .null), (0, .ref h0), (1, .int x), (2, .int z), (3, .int y)]) hx hb dX11_form_12 hl (by decide) rfl (fun ls5289 hl' => ?_)
    clear hl
    have hl : lv_has ls5289 7 [(5, .null), (4, .null), (0, .ref h0), (1, .int x), (2, .int z), (3, .int y)] := hl'
    clear hl'
    refine lv_aloadN hx hb dX11_form_14 (lv_at hl 1 rfl) ?_
    refine lv_ifnullN (tgt := 24) hx hb dX11_form_16 (by decide) ?_
    refine lv_iconst (v := (-1)) hx hb dX11_form_24 (by decide) ?_
    rw [← hQ]
    exact W.iret (v := (-1)) hx hb hr (fun zt ht hW => ⟨⟨(-1), (), rfl, rfl, (show zt.heap.size = s.heap.size by rw [ht])⟩, hS.F ht⟩) hS.2.2 dX11_form_25
  · have z5288 : zok y = true := zslot_s hw
    clear hw
    show W p l e _ s m _ below meth c _ _ _ _ QQ (F0 m 12 ls5284 [.ref q5287])
    refine lv_astore (lv' := [(5, .ref q5287), (4, .null), (0, .ref h0), (1, .int x), (2, .int z), (3, .int y)]) hx hb dX11_form_12 hl (by decide) rfl (fun ls5290 hl' => ?_)
    clear hl
    have hl : lv_has ls5290 7 [(5, .ref q5287), (4, .null), (0, .ref h0), (1, .int x), (2, .int z), (3, .int y)] := hl'
    clear hl'
    refine lv_aloadN hx hb dX11_form_14 (lv_at hl 1 rfl) ?_
    refine lv_ifnullN (tgt := 24) hx hb dX11_form_16 (by decide) ?_
    refine lv_iconst (v := (-1)) hx hb dX11_form_24 (by decide) ?_
    rw [← hQ]
    exact W.iret (v := (-1)) hx hb hr (fun zt ht hW => ⟨⟨(-1), (), rfl, rfl, (show zt.heap.size = s.heap.size by rw [ht])⟩, hS.F ht⟩) hS.2.2 dX11_form_25

set_option maxHeartbeats 4000000 in
set_option maxRecDepth 100000 in
theorem c_X11_form_in (l : Launch) (dC : Nat → ClassId) (dI : Nat → Nat → Nat) (aC : Nat → ClassId) (h0 b a : Nat) (x z y : Int32) (sz : Nat) (hxm : zslot b x = some a) : Met l yX11_form w_X11_form ({ frames := 2, cells := 0, slots := 0, locals := 45 }) (zPre (dC, dI) aC [(h0, .inr (10, [.ref (b + 0), .ref (b + 73), .ref (b + 75), .ref (b + 76), .ref (b + 80), .ref (b + 81), .ref (b + 88), .ref (b + 95), .ref (b + 100), .ref (b + 106), .int 0, .ref (b + 107), .int 0])), (b + 0, .inl (aC 3, 12, .inr (.inr (.inr (.inr (zrefs (fun i => b + (1 + 6 * i)) 12)))))), (a, .inr (5, [.int 0, .int 0, .int 0, .int 0, .int 0, .int 0, .int 0, .ref (a + 1), .ref (a + 2), .ref (a + 3), .ref (a + 4), .ref (a + 5)]))] sz [.ref h0, .int x, .int z, .int y]) (va_Qi (fun (r : Int32) (_ : Unit) => r = zface1 y (-3) (-1)) (fun _ zt => zt.heap.size = sz) (zN sz)) 0 0 (zN sz) := by
  refine Met.ofW (cc := cX11_form) (maxL := 7) (ret := (some .int)) (by decide) rfl ?_
  intro p e s m args below meth c s₁ B hml hv
  generalize hQ : MQ below _ _ s _ _ _ = QQ
  obtain ⟨rfl, hsz, hP, hK, hD0⟩ := hv
  have hx := B.exec
  have hb := B.bytes
  have hr := B.returns
  have hts := atoms_spec (ws := w_X11_form) B.pre
  have hall := fun (w : Cond) (h : w ∈ zAll) => hts w (List.mem_cons_of_mem _ h)
  have hown : s.vm.findClass RX11 = some m.cls := findClass_of_methodNamed B.named
  have hlocks := B.notSynchronized
  subst hsz
  have hA : ∀ q : Nat, s.heap.size ≤ q → zN s.heap.size q := fun q h => h
  have hS : va_S (zN s.heap.size) s.heap s.heap [] := va_S.rf
  have hD := hD0
  have hl := lv_entry ([.ref h0, .int x, .int z, .int y]) (n := 7) (Nat.le_of_ble_eq_true rfl)
  rw [lg_entry_eq]
  generalize (lg_sl ([.ref h0, .int x, .int z, .int y]) ++ List.replicate (7 - (lg_sl ([.ref h0, .int x, .int z, .int y])).length) Slot.unset).toArray = ls at hl ⊢
  have hl : lv_has ls 7 [(0, .ref h0), (1, .int x), (2, .int z), (3, .int y)] := hl
  refine lv_aload_n hx hb dX11_form_0 rfl (lv_at hl 0 rfl) ?_
  refine lv_iload_n hx hb dX11_form_1 rfl (lv_at hl 1 rfl) ?_
  refine zro_q hS hA (va_runV (As := [.int x]) (rest := []) ⟨hx, hb, hml, hown, hall⟩ (c_X11_slotAt l dC dI aC h0 b x s.heap.size) (cwV 1 hall (zgV zw_225 zw_227 zw_228 zw_802 g_X11_slotAt rfl) rfl rfl rfl (by decide +kernel) ⟨Nat.le_of_ble_eq_true rfl, Nat.le_of_ble_eq_true rfl⟩) (zPre_V (As := [.int x]) hK hP hD [0, 1] rfl (by decide +kernel) (ci := 10) (q0 := 0) rfl rfl) rfl rfl hl.1 rfl (lv_room (Nat.le_of_ble_eq_true rfl)) dX11_form_2 ⟨Nat.le_of_ble_eq_true rfl, Nat.le_of_ble_eq_true rfl⟩) (fun r5291 L5292 hw hS' => ?_)
  clear hS
  have hS := hS'
  clear hS'
  obtain rfl : r5291 = some a := hw.trans hxm
  try clear hw
  refine lv_astore (lv' := [(4, .ref a), (0, .ref h0), (1, .int x), (2, .int z), (3, .int y)]) hx hb dX11_form_5 hl (by decide) rfl (fun ls5293 hl' => ?_)
  clear hl
  have hl : lv_has ls5293 7 [(4, .ref a), (0, .ref h0), (1, .int x), (2, .int z), (3, .int y)] := hl'
  clear hl'
  refine lv_aload_n hx hb dX11_form_7 rfl (lv_at hl 1 rfl) ?_
  show W p l e _ s m _ below meth c _ _ _ _ QQ (F0 m 8 ls5293 [.ref h0])
  refine lv_iload_n hx hb dX11_form_8 rfl (lv_at hl 4 rfl) ?_
  refine zro_q hS hA (va_runV (As := [.int y]) (rest := []) ⟨hx, hb, hml, hown, hall⟩ (c_X11_slotAt l dC dI aC h0 b y s.heap.size) (cwV 1 hall (zgV zw_225 zw_227 zw_228 zw_802 g_X11_slotAt rfl) rfl rfl rfl (by decide +kernel) ⟨Nat.le_of_ble_eq_true rfl, Nat.le_of_ble_eq_true rfl⟩) (zPre_V (As := [.int y]) hK hP hD [0, 1] rfl (by decide +kernel) (ci := 10) (q0 := 0) rfl rfl) rfl rfl hl.1 rfl (lv_room (Nat.le_of_ble_eq_true rfl)) dX11_form_9 ⟨Nat.le_of_ble_eq_true rfl, Nat.le_of_ble_eq_true rfl⟩) (fun r5294 L5295 hw hS' => ?_)
  clear hS
  have hS := hS'
  clear hS'
  rcases r5294 with _ | q5296
  · have z5297 : ¬ zok y = true := zslot_n hw
    clear hw
    show W p l e _ s m _ below meth c _ _ _ _ QQ (F0 m 12 ls5293 [.null])
    refine lv_astoreN (lv' := [(5, .null), (4, .ref a), (0, .ref h0), (1, .int x), (2, .int z), (3, .int y)]) hx hb dX11_form_12 hl (by decide) rfl (fun ls5298 hl' => ?_)
    clear hl
    have hl : lv_has ls5298 7 [(5, .null), (4, .ref a), (0, .ref h0), (1, .int x), (2, .int z), (3, .int y)] := hl'
    clear hl'
    refine lv_aload hx hb dX11_form_14 (lv_at hl 1 rfl) ?_
    refine lv_ifnull hx hb dX11_form_16 ?_
    refine lv_aloadN hx hb dX11_form_19 (lv_at hl 0 rfl) ?_
    refine lv_ifnonnullN hx hb dX11_form_21 ?_
    show W p l e _ s m _ below meth c _ _ _ _ QQ (F0 m 24 ls5298 [])
    refine lv_iconst (v := (-1)) hx hb dX11_form_24 (by decide) ?_
    rw [← hQ]
    exact W.iret (v := (-1)) hx hb hr (fun zt ht hW => ⟨⟨(-1), (), rfl, by simp [zface1, z5297], (show zt.heap.size = s.heap.size by rw [ht])⟩, hS.F ht⟩) hS.2.2 dX11_form_25
  · have z5297 : zok y = true := zslot_s hw
    clear hw
    show W p l e _ s m _ below meth c _ _ _ _ QQ (F0 m 12 ls5293 [.ref q5296])
    refine lv_astore (lv' := [(5, .ref q5296), (4, .ref a), (0, .ref h0), (1, .int x), (2, .int z), (3, .int y)]) hx hb dX11_form_12 hl (by decide) rfl (fun ls5299 hl' => ?_)
    clear hl
    have hl : lv_has ls5299 7 [(5, .ref q5296), (4, .ref a), (0, .ref h0), (1, .int x), (2, .int z), (3, .int y)] := hl'
    clear hl'
    refine lv_aload hx hb dX11_form_14 (lv_at hl 1 rfl) ?_
    refine lv_ifnull hx hb dX11_form_16 ?_
    refine lv_aload hx hb dX11_form_19 (lv_at hl 0 rfl) ?_
    refine lv_ifnonnull (tgt := 26) hx hb dX11_form_21 (by decide) ?_
    show W p l e _ s m _ below meth c _ _ _ _ QQ (F0 m 26 ls5299 [])
    refine lv_aload hx hb dX11_form_26 (lv_at hl 1 rfl) ?_
    refine va_get (D := (dC, dI)) (ci := 5) (v := .int 0) (C := RX6) (T := TX6) (N := 12) hx hb hall zx_6 hown hK.1 hP 2 rfl rfl 0 (by decide) (hall _ zw_212) (fun _ h9 => h9) rfl dX11_form_28 ?_
    refine lv_iconst (v := 1) hx hb dX11_form_31 (by decide) ?_
    refine lv_icmp_eq (tgt := 38) hx hb dX11_form_32 (by decide) (fun c_32_b5300 => absurd c_32_b5300 (by decide)) (fun _ => ?_)
    refine lv_bipush (v := (-3)) hx hb dX11_form_35 (by decide) ?_
    rw [← hQ]
    exact W.iret (v := (-3)) hx hb hr (fun zt ht hW => ⟨⟨(-3), (), rfl, by simp [zface1, z5297], (show zt.heap.size = s.heap.size by rw [ht])⟩, hS.F ht⟩) hS.2.2 dX11_form_37

set_option maxHeartbeats 4000000 in
set_option maxRecDepth 100000 in
theorem c_X11_close_out (l : Launch) (dC : Nat → ClassId) (dI : Nat → Nat → Nat) (aC : Nat → ClassId) (h0 b : Nat) (x y : Int32) (sz : Nat) (hxm : zslot b x = none) : Met l yX11_close w_X11_close ({ frames := 2, cells := 0, slots := 0, locals := 45 }) (zPre (dC, dI) aC [(h0, .inr (10, [.ref (b + 0), .ref (b + 73), .ref (b + 75), .ref (b + 76), .ref (b + 80), .ref (b + 81), .ref (b + 88), .ref (b + 95), .ref (b + 100), .ref (b + 106), .int 0, .ref (b + 107), .int 0])), (b + 0, .inl (aC 3, 12, .inr (.inr (.inr (.inr (zrefs (fun i => b + (1 + 6 * i)) 12))))))] sz [.ref h0, .int x, .int y]) (va_Qi (fun (r : Int32) (_ : Unit) => r = -1) (fun _ zt => zt.heap.size = sz) (zN sz)) 0 0 (zN sz) := by
  refine Met.ofW (cc := cX11_close) (maxL := 6) (ret := (some .int)) (by decide) rfl ?_
  intro p e s m args below meth c s₁ B hml hv
  generalize hQ : MQ below _ _ s _ _ _ = QQ
  obtain ⟨rfl, hsz, hP, hK, hD0⟩ := hv
  have hx := B.exec
  have hb := B.bytes
  have hr := B.returns
  have hts := atoms_spec (ws := w_X11_close) B.pre
  have hall := fun (w : Cond) (h : w ∈ zAll) => hts w (List.mem_cons_of_mem _ h)
  have hown : s.vm.findClass RX11 = some m.cls := findClass_of_methodNamed B.named
  have hlocks := B.notSynchronized
  subst hsz
  have hA : ∀ q : Nat, s.heap.size ≤ q → zN s.heap.size q := fun q h => h
  have hS : va_S (zN s.heap.size) s.heap s.heap [] := va_S.rf
  have hD := hD0
  have hl := lv_entry ([.ref h0, .int x, .int y]) (n := 6) (Nat.le_of_ble_eq_true rfl)
  rw [lg_entry_eq]
  generalize (lg_sl ([.ref h0, .int x, .int y]) ++ List.replicate (6 - (lg_sl ([.ref h0, .int x, .int y])).length) Slot.unset).toArray = ls at hl ⊢
  have hl : lv_has ls 6 [(0, .ref h0), (1, .int x), (2, .int y)] := hl
  refine lv_aload_n hx hb dX11_close_0 rfl (lv_at hl 0 rfl) ?_
  refine lv_iload_n hx hb dX11_close_1 rfl (lv_at hl 1 rfl) ?_
  refine zro_q hS hA (va_runV (As := [.int x]) (rest := []) ⟨hx, hb, hml, hown, hall⟩ (c_X11_slotAt l dC dI aC h0 b x s.heap.size) (cwV 1 hall (zgV zw_225 zw_227 zw_228 zw_802 g_X11_slotAt rfl) rfl rfl rfl (by decide +kernel) ⟨Nat.le_of_ble_eq_true rfl, Nat.le_of_ble_eq_true rfl⟩) (zPre_V (As := [.int x]) hK hP hD [0, 1] rfl (by decide +kernel) (ci := 10) (q0 := 0) rfl rfl) rfl rfl hl.1 rfl (lv_room (Nat.le_of_ble_eq_true rfl)) dX11_close_2 ⟨Nat.le_of_ble_eq_true rfl, Nat.le_of_ble_eq_true rfl⟩) (fun r5301 L5302 hw hS' => ?_)
  clear hS
  have hS := hS'
  clear hS'
  obtain rfl : r5301 = none := hw.trans hxm
  try clear hw
  refine lv_astore_nN (lv' := [(3, .null), (0, .ref h0), (1, .int x), (2, .int y)]) hx hb dX11_close_5 rfl hl (by decide) rfl (fun ls5303 hl' => ?_)
  clear hl
  have hl : lv_has ls5303 6 [(3, .null), (0, .ref h0), (1, .int x), (2, .int y)] := hl'
  clear hl'
  refine lv_aload_n hx hb dX11_close_6 rfl (lv_at hl 1 rfl) ?_
  show W p l e _ s m _ below meth c _ _ _ _ QQ (F0 m 7 ls5303 [.ref h0])
  refine lv_iload_n hx hb dX11_close_7 rfl (lv_at hl 3 rfl) ?_
  refine zro_q hS hA (va_runV (As := [.int y]) (rest := []) ⟨hx, hb, hml, hown, hall⟩ (c_X11_slotAt l dC dI aC h0 b y s.heap.size) (cwV 1 hall (zgV zw_225 zw_227 zw_228 zw_802 g_X11_slotAt rfl) rfl rfl rfl (by decide +kernel) ⟨Nat.le_of_ble_eq_true rfl, Nat.le_of_ble_eq_true rfl⟩) (zPre_V (As := [.int y]) hK hP hD [0, 1] rfl (by decide +kernel) (ci := 10) (q0 := 0) rfl rfl) rfl rfl hl.1 rfl (lv_room (Nat.le_of_ble_eq_true rfl)) dX11_close_8 ⟨Nat.le_of_ble_eq_true rfl, Nat.le_of_ble_eq_true rfl⟩) (fun r5304 L5305 hw hS' => ?_)
  clear hS
  have hS := hS'
  clear hS'
  rcases r5304 with _ | q5306
  · have z5307 : ¬ zok y = true := zslot_n hw
    clear hw
    show W p l e _ s m _ below meth c _ _ _ _ QQ (F0 m 11 ls5303 [.null])
    refine lv_astoreN (lv' := [(4, .null), (3, .null), (0, .ref h0), (1, .int x), (2, .int y)]) hx hb dX11_close_11 hl (by decide) rfl (fun ls5308 hl' => ?_)
    clear hl
    have hl : lv_has ls5308 6 [(4, .null), (3, .null), (0, .ref h0), (1, .int x), (2, .int y)] := hl'
    clear hl'
    refine lv_aload_nN hx hb dX11_close_13 rfl (lv_at hl 1 rfl) ?_
    refine lv_ifnullN (tgt := 22) hx hb dX11_close_14 (by decide) ?_
    refine lv_iconst (v := (-1)) hx hb dX11_close_22 (by decide) ?_
    rw [← hQ]
    exact W.iret (v := (-1)) hx hb hr (fun zt ht hW => ⟨⟨(-1), (), rfl, rfl, (show zt.heap.size = s.heap.size by rw [ht])⟩, hS.F ht⟩) hS.2.2 dX11_close_23
  · have z5307 : zok y = true := zslot_s hw
    clear hw
    show W p l e _ s m _ below meth c _ _ _ _ QQ (F0 m 11 ls5303 [.ref q5306])
    refine lv_astore (lv' := [(4, .ref q5306), (3, .null), (0, .ref h0), (1, .int x), (2, .int y)]) hx hb dX11_close_11 hl (by decide) rfl (fun ls5309 hl' => ?_)
    clear hl
    have hl : lv_has ls5309 6 [(4, .ref q5306), (3, .null), (0, .ref h0), (1, .int x), (2, .int y)] := hl'
    clear hl'
    refine lv_aload_nN hx hb dX11_close_13 rfl (lv_at hl 1 rfl) ?_
    refine lv_ifnullN (tgt := 22) hx hb dX11_close_14 (by decide) ?_
    refine lv_iconst (v := (-1)) hx hb dX11_close_22 (by decide) ?_
    rw [← hQ]
    exact W.iret (v := (-1)) hx hb hr (fun zt ht hW => ⟨⟨(-1), (), rfl, rfl, (show zt.heap.size = s.heap.size by rw [ht])⟩, hS.F ht⟩) hS.2.2 dX11_close_23

set_option maxHeartbeats 4000000 in
set_option maxRecDepth 100000 in
theorem c_X11_close_in (l : Launch) (dC : Nat → ClassId) (dI : Nat → Nat → Nat) (aC : Nat → ClassId) (h0 b a : Nat) (x y : Int32) (sz : Nat) (hxm : zslot b x = some a) : Met l yX11_close w_X11_close ({ frames := 2, cells := 0, slots := 0, locals := 45 }) (zPre (dC, dI) aC [(h0, .inr (10, [.ref (b + 0), .ref (b + 73), .ref (b + 75), .ref (b + 76), .ref (b + 80), .ref (b + 81), .ref (b + 88), .ref (b + 95), .ref (b + 100), .ref (b + 106), .int 0, .ref (b + 107), .int 0])), (b + 0, .inl (aC 3, 12, .inr (.inr (.inr (.inr (zrefs (fun i => b + (1 + 6 * i)) 12)))))), (a, .inr (5, [.int 0, .int 0, .int 0, .int 0, .int 0, .int 0, .int 0, .ref (a + 1), .ref (a + 2), .ref (a + 3), .ref (a + 4), .ref (a + 5)]))] sz [.ref h0, .int x, .int y]) (va_Qi (fun (r : Int32) (_ : Unit) => r = zface1 y (-3) (-1)) (fun _ zt => zt.heap.size = sz) (zN sz)) 0 0 (zN sz) := by
  refine Met.ofW (cc := cX11_close) (maxL := 6) (ret := (some .int)) (by decide) rfl ?_
  intro p e s m args below meth c s₁ B hml hv
  generalize hQ : MQ below _ _ s _ _ _ = QQ
  obtain ⟨rfl, hsz, hP, hK, hD0⟩ := hv
  have hx := B.exec
  have hb := B.bytes
  have hr := B.returns
  have hts := atoms_spec (ws := w_X11_close) B.pre
  have hall := fun (w : Cond) (h : w ∈ zAll) => hts w (List.mem_cons_of_mem _ h)
  have hown : s.vm.findClass RX11 = some m.cls := findClass_of_methodNamed B.named
  have hlocks := B.notSynchronized
  subst hsz
  have hA : ∀ q : Nat, s.heap.size ≤ q → zN s.heap.size q := fun q h => h
  have hS : va_S (zN s.heap.size) s.heap s.heap [] := va_S.rf
  have hD := hD0
  have hl := lv_entry ([.ref h0, .int x, .int y]) (n := 6) (Nat.le_of_ble_eq_true rfl)
  rw [lg_entry_eq]
  generalize (lg_sl ([.ref h0, .int x, .int y]) ++ List.replicate (6 - (lg_sl ([.ref h0, .int x, .int y])).length) Slot.unset).toArray = ls at hl ⊢
  have hl : lv_has ls 6 [(0, .ref h0), (1, .int x), (2, .int y)] := hl
  refine lv_aload_n hx hb dX11_close_0 rfl (lv_at hl 0 rfl) ?_
  refine lv_iload_n hx hb dX11_close_1 rfl (lv_at hl 1 rfl) ?_
  refine zro_q hS hA (va_runV (As := [.int x]) (rest := []) ⟨hx, hb, hml, hown, hall⟩ (c_X11_slotAt l dC dI aC h0 b x s.heap.size) (cwV 1 hall (zgV zw_225 zw_227 zw_228 zw_802 g_X11_slotAt rfl) rfl rfl rfl (by decide +kernel) ⟨Nat.le_of_ble_eq_true rfl, Nat.le_of_ble_eq_true rfl⟩) (zPre_V (As := [.int x]) hK hP hD [0, 1] rfl (by decide +kernel) (ci := 10) (q0 := 0) rfl rfl) rfl rfl hl.1 rfl (lv_room (Nat.le_of_ble_eq_true rfl)) dX11_close_2 ⟨Nat.le_of_ble_eq_true rfl, Nat.le_of_ble_eq_true rfl⟩) (fun r5310 L5311 hw hS' => ?_)
  clear hS
  have hS := hS'
  clear hS'
  obtain rfl : r5310 = some a := hw.trans hxm
  try clear hw
  refine lv_astore_n (lv' := [(3, .ref a), (0, .ref h0), (1, .int x), (2, .int y)]) hx hb dX11_close_5 rfl hl (by decide) rfl (fun ls5312 hl' => ?_)
  clear hl
  have hl : lv_has ls5312 6 [(3, .ref a), (0, .ref h0), (1, .int x), (2, .int y)] := hl'
  clear hl'
  refine lv_aload_n hx hb dX11_close_6 rfl (lv_at hl 1 rfl) ?_
  show W p l e _ s m _ below meth c _ _ _ _ QQ (F0 m 7 ls5312 [.ref h0])
  refine lv_iload_n hx hb dX11_close_7 rfl (lv_at hl 3 rfl) ?_
  refine zro_q hS hA (va_runV (As := [.int y]) (rest := []) ⟨hx, hb, hml, hown, hall⟩ (c_X11_slotAt l dC dI aC h0 b y s.heap.size) (cwV 1 hall (zgV zw_225 zw_227 zw_228 zw_802 g_X11_slotAt rfl) rfl rfl rfl (by decide +kernel) ⟨Nat.le_of_ble_eq_true rfl, Nat.le_of_ble_eq_true rfl⟩) (zPre_V (As := [.int y]) hK hP hD [0, 1] rfl (by decide +kernel) (ci := 10) (q0 := 0) rfl rfl) rfl rfl hl.1 rfl (lv_room (Nat.le_of_ble_eq_true rfl)) dX11_close_8 ⟨Nat.le_of_ble_eq_true rfl, Nat.le_of_ble_eq_true rfl⟩) (fun r5313 L5314 hw hS' => ?_)
  clear hS
  have hS := hS'
  clear hS'
  rcases r5313 with _ | q5315
  · have z5316 : ¬ zok y = true := zslot_n hw
    clear hw
    show W p l e _ s m _ below meth c _ _ _ _ QQ (F0 m 11 ls5312 [.null])
    refine lv_astoreN (lv' := [(4, .null), (3, .ref a), (0, .ref h0), (1, .int x), (2, .int y)]) hx hb dX11_close_11 hl (by decide) rfl (fun ls5317 hl' => ?_)
    clear hl
    have hl : lv_has ls5317 6 [(4, .null), (3, .ref a), (0, .ref h0), (1, .int x), (2, .int y)] := hl'
    clear hl'
    refine lv_aload_n hx hb dX11_close_13 rfl (lv_at hl 1 rfl) ?_
    refine lv_ifnull hx hb dX11_close_14 ?_
    refine lv_aloadN hx hb dX11_close_17 (lv_at hl 0 rfl) ?_
    refine lv_ifnonnullN hx hb dX11_close_19 ?_
    show W p l e _ s m _ below meth c _ _ _ _ QQ (F0 m 22 ls5317 [])
    refine lv_iconst (v := (-1)) hx hb dX11_close_22 (by decide) ?_
    rw [← hQ]
    exact W.iret (v := (-1)) hx hb hr (fun zt ht hW => ⟨⟨(-1), (), rfl, by simp [zface1, z5316], (show zt.heap.size = s.heap.size by rw [ht])⟩, hS.F ht⟩) hS.2.2 dX11_close_23
  · have z5316 : zok y = true := zslot_s hw
    clear hw
    show W p l e _ s m _ below meth c _ _ _ _ QQ (F0 m 11 ls5312 [.ref q5315])
    refine lv_astore (lv' := [(4, .ref q5315), (3, .ref a), (0, .ref h0), (1, .int x), (2, .int y)]) hx hb dX11_close_11 hl (by decide) rfl (fun ls5318 hl' => ?_)
    clear hl
    have hl : lv_has ls5318 6 [(4, .ref q5315), (3, .ref a), (0, .ref h0), (1, .int x), (2, .int y)] := hl'
    clear hl'
    refine lv_aload_n hx hb dX11_close_13 rfl (lv_at hl 1 rfl) ?_
    refine lv_ifnull hx hb dX11_close_14 ?_
    refine lv_aload hx hb dX11_close_17 (lv_at hl 0 rfl) ?_
    refine lv_ifnonnull (tgt := 24) hx hb dX11_close_19 (by decide) ?_
    show W p l e _ s m _ below meth c _ _ _ _ QQ (F0 m 24 ls5318 [])
    refine lv_aload_n hx hb dX11_close_24 rfl (lv_at hl 1 rfl) ?_
    refine zro_i hS hA (va_runS (As := [.ref a]) (rest := []) ⟨hx, hb, hml, hown, hall⟩ (c_X11_isRatioOrTerm l dC dI aC a s.heap.size) (va_cwS 1 hall (zgS zw_248 zw_250 zw_802 g_X11_isRatioOrTerm) rfl rfl rfl (by decide +kernel) ⟨Nat.le_of_ble_eq_true rfl, Nat.le_of_ble_eq_true rfl⟩) (zPre_S (As := [.ref a]) hK hP hD [2] rfl (by decide +kernel)) rfl rfl hl.1 rfl (lv_room (Nat.le_of_ble_eq_true rfl)) dX11_close_25 ⟨Nat.le_of_ble_eq_true rfl, Nat.le_of_ble_eq_true rfl⟩) (fun r5319 L5320 hw hS' => ?_)
    clear hS
    have hS := hS'
    clear hS'
    obtain rfl : r5319 = 0 := hw
    try clear hw
    refine lv_if_ne (tgt := 34) hx hb dX11_close_28 (by decide) (fun c_28_b5321 => absurd (by decide) c_28_b5321) (fun _ => ?_)
    refine lv_bipush (v := (-3)) hx hb dX11_close_31 (by decide) ?_
    rw [← hQ]
    exact W.iret (v := (-3)) hx hb hr (fun zt ht hW => ⟨⟨(-3), (), rfl, by simp [zface1, z5316], (show zt.heap.size = s.heap.size by rw [ht])⟩, hS.F ht⟩) hS.2.2 dX11_close_33

set_option maxHeartbeats 4000000 in
set_option maxRecDepth 100000 in
theorem c_X11_recur_out (l : Launch) (dC : Nat → ClassId) (dI : Nat → Nat → Nat) (aC : Nat → ClassId) (h0 b : Nat) (x z y : Int32) (sz : Nat) (hxm : zslot b x = none) : Met l yX11_recur w_X11_recur ({ frames := 2, cells := 0, slots := 0, locals := 45 }) (zPre (dC, dI) aC [(h0, .inr (10, [.ref (b + 0), .ref (b + 73), .ref (b + 75), .ref (b + 76), .ref (b + 80), .ref (b + 81), .ref (b + 88), .ref (b + 95), .ref (b + 100), .ref (b + 106), .int 0, .ref (b + 107), .int 0])), (b + 0, .inl (aC 3, 12, .inr (.inr (.inr (.inr (zrefs (fun i => b + (1 + 6 * i)) 12))))))] sz [.ref h0, .int x, .int z, .int y]) (va_Qi (fun (r : Int32) (_ : Unit) => r = -1) (fun _ zt => zt.heap.size = sz) (zN sz)) 0 0 (zN sz) := by
  refine Met.ofW (cc := cX11_recur) (maxL := 8) (ret := (some .int)) (by decide) rfl ?_
  intro p e s m args below meth c s₁ B hml hv
  generalize hQ : MQ below _ _ s _ _ _ = QQ
  obtain ⟨rfl, hsz, hP, hK, hD0⟩ := hv
  have hx := B.exec
  have hb := B.bytes
  have hr := B.returns
  have hts := atoms_spec (ws := w_X11_recur) B.pre
  have hall := fun (w : Cond) (h : w ∈ zAll) => hts w (List.mem_cons_of_mem _ h)
  have hown : s.vm.findClass RX11 = some m.cls := findClass_of_methodNamed B.named
  have hlocks := B.notSynchronized
  subst hsz
  have hA : ∀ q : Nat, s.heap.size ≤ q → zN s.heap.size q := fun q h => h
  have hS : va_S (zN s.heap.size) s.heap s.heap [] := va_S.rf
  have hD := hD0
  have hl := lv_entry ([.ref h0, .int x, .int z, .int y]) (n := 8) (Nat.le_of_ble_eq_true rfl)
  rw [lg_entry_eq]
  generalize (lg_sl ([.ref h0, .int x, .int z, .int y]) ++ List.replicate (8 - (lg_sl ([.ref h0, .int x, .int z, .int y])).length) Slot.unset).toArray = ls at hl ⊢
  have hl : lv_has ls 8 [(0, .ref h0), (1, .int x), (2, .int z), (3, .int y)] := hl
  refine lv_aload_n hx hb dX11_recur_0 rfl (lv_at hl 0 rfl) ?_
  refine lv_iload_n hx hb dX11_recur_1 rfl (lv_at hl 1 rfl) ?_
  refine zro_q hS hA (va_runV (As := [.int x]) (rest := []) ⟨hx, hb, hml, hown, hall⟩ (c_X11_slotAt l dC dI aC h0 b x s.heap.size) (cwV 1 hall (zgV zw_225 zw_227 zw_228 zw_802 g_X11_slotAt rfl) rfl rfl rfl (by decide +kernel) ⟨Nat.le_of_ble_eq_true rfl, Nat.le_of_ble_eq_true rfl⟩) (zPre_V (As := [.int x]) hK hP hD [0, 1] rfl (by decide +kernel) (ci := 10) (q0 := 0) rfl rfl) rfl rfl hl.1 rfl (lv_room (Nat.le_of_ble_eq_true rfl)) dX11_recur_2 ⟨Nat.le_of_ble_eq_true rfl, Nat.le_of_ble_eq_true rfl⟩) (fun r5322 L5323 hw hS' => ?_)
  clear hS
  have hS := hS'
  clear hS'
  obtain rfl : r5322 = none := hw.trans hxm
  try clear hw
  refine lv_astoreN (lv' := [(4, .null), (0, .ref h0), (1, .int x), (2, .int z), (3, .int y)]) hx hb dX11_recur_5 hl (by decide) rfl (fun ls5324 hl' => ?_)
  clear hl
  have hl : lv_has ls5324 8 [(4, .null), (0, .ref h0), (1, .int x), (2, .int z), (3, .int y)] := hl'
  clear hl'
  refine lv_aload_n hx hb dX11_recur_7 rfl (lv_at hl 1 rfl) ?_
  show W p l e _ s m _ below meth c _ _ _ _ QQ (F0 m 8 ls5324 [.ref h0])
  refine lv_iload_n hx hb dX11_recur_8 rfl (lv_at hl 4 rfl) ?_
  refine zro_q hS hA (va_runV (As := [.int y]) (rest := []) ⟨hx, hb, hml, hown, hall⟩ (c_X11_slotAt l dC dI aC h0 b y s.heap.size) (cwV 1 hall (zgV zw_225 zw_227 zw_228 zw_802 g_X11_slotAt rfl) rfl rfl rfl (by decide +kernel) ⟨Nat.le_of_ble_eq_true rfl, Nat.le_of_ble_eq_true rfl⟩) (zPre_V (As := [.int y]) hK hP hD [0, 1] rfl (by decide +kernel) (ci := 10) (q0 := 0) rfl rfl) rfl rfl hl.1 rfl (lv_room (Nat.le_of_ble_eq_true rfl)) dX11_recur_9 ⟨Nat.le_of_ble_eq_true rfl, Nat.le_of_ble_eq_true rfl⟩) (fun r5325 L5326 hw hS' => ?_)
  clear hS
  have hS := hS'
  clear hS'
  rcases r5325 with _ | q5327
  · have z5328 : ¬ zok y = true := zslot_n hw
    clear hw
    show W p l e _ s m _ below meth c _ _ _ _ QQ (F0 m 12 ls5324 [.null])
    refine lv_astoreN (lv' := [(5, .null), (4, .null), (0, .ref h0), (1, .int x), (2, .int z), (3, .int y)]) hx hb dX11_recur_12 hl (by decide) rfl (fun ls5329 hl' => ?_)
    clear hl
    have hl : lv_has ls5329 8 [(5, .null), (4, .null), (0, .ref h0), (1, .int x), (2, .int z), (3, .int y)] := hl'
    clear hl'
    refine lv_aloadN hx hb dX11_recur_14 (lv_at hl 1 rfl) ?_
    refine lv_ifnullN (tgt := 24) hx hb dX11_recur_16 (by decide) ?_
    refine lv_iconst (v := (-1)) hx hb dX11_recur_24 (by decide) ?_
    rw [← hQ]
    exact W.iret (v := (-1)) hx hb hr (fun zt ht hW => ⟨⟨(-1), (), rfl, rfl, (show zt.heap.size = s.heap.size by rw [ht])⟩, hS.F ht⟩) hS.2.2 dX11_recur_25
  · have z5328 : zok y = true := zslot_s hw
    clear hw
    show W p l e _ s m _ below meth c _ _ _ _ QQ (F0 m 12 ls5324 [.ref q5327])
    refine lv_astore (lv' := [(5, .ref q5327), (4, .null), (0, .ref h0), (1, .int x), (2, .int z), (3, .int y)]) hx hb dX11_recur_12 hl (by decide) rfl (fun ls5330 hl' => ?_)
    clear hl
    have hl : lv_has ls5330 8 [(5, .ref q5327), (4, .null), (0, .ref h0), (1, .int x), (2, .int z), (3, .int y)] := hl'
    clear hl'
    refine lv_aloadN hx hb dX11_recur_14 (lv_at hl 1 rfl) ?_
    refine lv_ifnullN (tgt := 24) hx hb dX11_recur_16 (by decide) ?_
    refine lv_iconst (v := (-1)) hx hb dX11_recur_24 (by decide) ?_
    rw [← hQ]
    exact W.iret (v := (-1)) hx hb hr (fun zt ht hW => ⟨⟨(-1), (), rfl, rfl, (show zt.heap.size = s.heap.size by rw [ht])⟩, hS.F ht⟩) hS.2.2 dX11_recur_25

set_option maxHeartbeats 4000000 in
set_option maxRecDepth 100000 in
theorem c_X11_recur_in (l : Launch) (dC : Nat → ClassId) (dI : Nat → Nat → Nat) (aC : Nat → ClassId) (h0 b a : Nat) (x z y : Int32) (sz : Nat) (hxm : zslot b x = some a) : Met l yX11_recur w_X11_recur ({ frames := 2, cells := 0, slots := 0, locals := 45 }) (zPre (dC, dI) aC [(h0, .inr (10, [.ref (b + 0), .ref (b + 73), .ref (b + 75), .ref (b + 76), .ref (b + 80), .ref (b + 81), .ref (b + 88), .ref (b + 95), .ref (b + 100), .ref (b + 106), .int 0, .ref (b + 107), .int 0])), (b + 0, .inl (aC 3, 12, .inr (.inr (.inr (.inr (zrefs (fun i => b + (1 + 6 * i)) 12)))))), (a, .inr (5, [.int 0, .int 0, .int 0, .int 0, .int 0, .int 0, .int 0, .ref (a + 1), .ref (a + 2), .ref (a + 3), .ref (a + 4), .ref (a + 5)]))] sz [.ref h0, .int x, .int z, .int y]) (va_Qi (fun (r : Int32) (_ : Unit) => r = zface1 y (-3) (-1)) (fun _ zt => zt.heap.size = sz) (zN sz)) 0 0 (zN sz) := by
  refine Met.ofW (cc := cX11_recur) (maxL := 8) (ret := (some .int)) (by decide) rfl ?_
  intro p e s m args below meth c s₁ B hml hv
  generalize hQ : MQ below _ _ s _ _ _ = QQ
  obtain ⟨rfl, hsz, hP, hK, hD0⟩ := hv
  have hx := B.exec
  have hb := B.bytes
  have hr := B.returns
  have hts := atoms_spec (ws := w_X11_recur) B.pre
  have hall := fun (w : Cond) (h : w ∈ zAll) => hts w (List.mem_cons_of_mem _ h)
  have hown : s.vm.findClass RX11 = some m.cls := findClass_of_methodNamed B.named
  have hlocks := B.notSynchronized
  subst hsz
  have hA : ∀ q : Nat, s.heap.size ≤ q → zN s.heap.size q := fun q h => h
  have hS : va_S (zN s.heap.size) s.heap s.heap [] := va_S.rf
  have hD := hD0
  have hl := lv_entry ([.ref h0, .int x, .int z, .int y]) (n := 8) (Nat.le_of_ble_eq_true rfl)
  rw [lg_entry_eq]
  generalize (lg_sl ([.ref h0, .int x, .int z, .int y]) ++ List.replicate (8 - (lg_sl ([.ref h0, .int x, .int z, .int y])).length) Slot.unset).toArray = ls at hl ⊢
  have hl : lv_has ls 8 [(0, .ref h0), (1, .int x), (2, .int z), (3, .int y)] := hl
  refine lv_aload_n hx hb dX11_recur_0 rfl (lv_at hl 0 rfl) ?_
  refine lv_iload_n hx hb dX11_recur_1 rfl (lv_at hl 1 rfl) ?_
  refine zro_q hS hA (va_runV (As := [.int x]) (rest := []) ⟨hx, hb, hml, hown, hall⟩ (c_X11_slotAt l dC dI aC h0 b x s.heap.size) (cwV 1 hall (zgV zw_225 zw_227 zw_228 zw_802 g_X11_slotAt rfl) rfl rfl rfl (by decide +kernel) ⟨Nat.le_of_ble_eq_true rfl, Nat.le_of_ble_eq_true rfl⟩) (zPre_V (As := [.int x]) hK hP hD [0, 1] rfl (by decide +kernel) (ci := 10) (q0 := 0) rfl rfl) rfl rfl hl.1 rfl (lv_room (Nat.le_of_ble_eq_true rfl)) dX11_recur_2 ⟨Nat.le_of_ble_eq_true rfl, Nat.le_of_ble_eq_true rfl⟩) (fun r5331 L5332 hw hS' => ?_)
  clear hS
  have hS := hS'
  clear hS'
  obtain rfl : r5331 = some a := hw.trans hxm
  try clear hw
  refine lv_astore (lv' := [(4, .ref a), (0, .ref h0), (1, .int x), (2, .int z), (3, .int y)]) hx hb dX11_recur_5 hl (by decide) rfl (fun ls5333 hl' => ?_)
  clear hl
  have hl : lv_has ls5333 8 [(4, .ref a), (0, .ref h0), (1, .int x), (2, .int z), (3, .int y)] := hl'
  clear hl'
  refine lv_aload_n hx hb dX11_recur_7 rfl (lv_at hl 1 rfl) ?_
  show W p l e _ s m _ below meth c _ _ _ _ QQ (F0 m 8 ls5333 [.ref h0])
  refine lv_iload_n hx hb dX11_recur_8 rfl (lv_at hl 4 rfl) ?_
  refine zro_q hS hA (va_runV (As := [.int y]) (rest := []) ⟨hx, hb, hml, hown, hall⟩ (c_X11_slotAt l dC dI aC h0 b y s.heap.size) (cwV 1 hall (zgV zw_225 zw_227 zw_228 zw_802 g_X11_slotAt rfl) rfl rfl rfl (by decide +kernel) ⟨Nat.le_of_ble_eq_true rfl, Nat.le_of_ble_eq_true rfl⟩) (zPre_V (As := [.int y]) hK hP hD [0, 1] rfl (by decide +kernel) (ci := 10) (q0 := 0) rfl rfl) rfl rfl hl.1 rfl (lv_room (Nat.le_of_ble_eq_true rfl)) dX11_recur_9 ⟨Nat.le_of_ble_eq_true rfl, Nat.le_of_ble_eq_true rfl⟩) (fun r5334 L5335 hw hS' => ?_)
  clear hS
  have hS := hS'
  clear hS'
  rcases r5334 with _ | q5336
  · have z5337 : ¬ zok y = true := zslot_n hw
    clear hw
    show W p l e _ s m _ below meth c _ _ _ _ QQ (F0 m 12 ls5333 [.null])
    refine lv_astoreN (lv' := [(5, .null), (4, .ref a), (0, .ref h0), (1, .int x), (2, .int z), (3, .int y)]) hx hb dX11_recur_12 hl (by decide) rfl (fun ls5338 hl' => ?_)
    clear hl
    have hl : lv_has ls5338 8 [(5, .null), (4, .ref a), (0, .ref h0), (1, .int x), (2, .int z), (3, .int y)] := hl'
    clear hl'
    refine lv_aload hx hb dX11_recur_14 (lv_at hl 1 rfl) ?_
    refine lv_ifnull hx hb dX11_recur_16 ?_
    refine lv_aloadN hx hb dX11_recur_19 (lv_at hl 0 rfl) ?_
    refine lv_ifnonnullN hx hb dX11_recur_21 ?_
    show W p l e _ s m _ below meth c _ _ _ _ QQ (F0 m 24 ls5338 [])
    refine lv_iconst (v := (-1)) hx hb dX11_recur_24 (by decide) ?_
    rw [← hQ]
    exact W.iret (v := (-1)) hx hb hr (fun zt ht hW => ⟨⟨(-1), (), rfl, by simp [zface1, z5337], (show zt.heap.size = s.heap.size by rw [ht])⟩, hS.F ht⟩) hS.2.2 dX11_recur_25
  · have z5337 : zok y = true := zslot_s hw
    clear hw
    show W p l e _ s m _ below meth c _ _ _ _ QQ (F0 m 12 ls5333 [.ref q5336])
    refine lv_astore (lv' := [(5, .ref q5336), (4, .ref a), (0, .ref h0), (1, .int x), (2, .int z), (3, .int y)]) hx hb dX11_recur_12 hl (by decide) rfl (fun ls5339 hl' => ?_)
    clear hl
    have hl : lv_has ls5339 8 [(5, .ref q5336), (4, .ref a), (0, .ref h0), (1, .int x), (2, .int z), (3, .int y)] := hl'
    clear hl'
    refine lv_aload hx hb dX11_recur_14 (lv_at hl 1 rfl) ?_
    refine lv_ifnull hx hb dX11_recur_16 ?_
    refine lv_aload hx hb dX11_recur_19 (lv_at hl 0 rfl) ?_
    refine lv_ifnonnull (tgt := 26) hx hb dX11_recur_21 (by decide) ?_
    show W p l e _ s m _ below meth c _ _ _ _ QQ (F0 m 26 ls5339 [])
    refine lv_aload hx hb dX11_recur_26 (lv_at hl 1 rfl) ?_
    refine zro_i hS hA (va_runS (As := [.ref a]) (rest := []) ⟨hx, hb, hml, hown, hall⟩ (c_X11_isRatioOrTerm l dC dI aC a s.heap.size) (va_cwS 1 hall (zgS zw_248 zw_250 zw_802 g_X11_isRatioOrTerm) rfl rfl rfl (by decide +kernel) ⟨Nat.le_of_ble_eq_true rfl, Nat.le_of_ble_eq_true rfl⟩) (zPre_S (As := [.ref a]) hK hP hD [2] rfl (by decide +kernel)) rfl rfl hl.1 rfl (lv_room (Nat.le_of_ble_eq_true rfl)) dX11_recur_28 ⟨Nat.le_of_ble_eq_true rfl, Nat.le_of_ble_eq_true rfl⟩) (fun r5340 L5341 hw hS' => ?_)
    clear hS
    have hS := hS'
    clear hS'
    obtain rfl : r5340 = 0 := hw
    try clear hw
    refine lv_if_ne (tgt := 37) hx hb dX11_recur_31 (by decide) (fun c_31_b5342 => absurd (by decide) c_31_b5342) (fun _ => ?_)
    refine lv_bipush (v := (-3)) hx hb dX11_recur_34 (by decide) ?_
    rw [← hQ]
    exact W.iret (v := (-3)) hx hb hr (fun zt ht hW => ⟨⟨(-3), (), rfl, by simp [zface1, z5337], (show zt.heap.size = s.heap.size by rw [ht])⟩, hS.F ht⟩) hS.2.2 dX11_recur_36

set_option maxHeartbeats 4000000 in
set_option maxRecDepth 100000 in
theorem c_X11_part_out (l : Launch) (dC : Nat → ClassId) (dI : Nat → Nat → Nat) (aC : Nat → ClassId) (h0 b : Nat) (x z y : Int32) (sz : Nat) (hxm : zslot b x = none) : Met l yX11_part w_X11_part ({ frames := 2, cells := 0, slots := 0, locals := 45 }) (zPre (dC, dI) aC [(h0, .inr (10, [.ref (b + 0), .ref (b + 73), .ref (b + 75), .ref (b + 76), .ref (b + 80), .ref (b + 81), .ref (b + 88), .ref (b + 95), .ref (b + 100), .ref (b + 106), .int 0, .ref (b + 107), .int 0])), (b + 0, .inl (aC 3, 12, .inr (.inr (.inr (.inr (zrefs (fun i => b + (1 + 6 * i)) 12))))))] sz [.ref h0, .int x, .int z, .int y]) (va_Qi (fun (r : Int32) (_ : Unit) => r = -1) (fun _ zt => zt.heap.size = sz) (zN sz)) 0 0 (zN sz) := by
  refine Met.ofW (cc := cX11_part) (maxL := 7) (ret := (some .int)) (by decide) rfl ?_
  intro p e s m args below meth c s₁ B hml hv
  generalize hQ : MQ below _ _ s _ _ _ = QQ
  obtain ⟨rfl, hsz, hP, hK, hD0⟩ := hv
  have hx := B.exec
  have hb := B.bytes
  have hr := B.returns
  have hts := atoms_spec (ws := w_X11_part) B.pre
  have hall := fun (w : Cond) (h : w ∈ zAll) => hts w (List.mem_cons_of_mem _ h)
  have hown : s.vm.findClass RX11 = some m.cls := findClass_of_methodNamed B.named
  have hlocks := B.notSynchronized
  subst hsz
  have hA : ∀ q : Nat, s.heap.size ≤ q → zN s.heap.size q := fun q h => h
  have hS : va_S (zN s.heap.size) s.heap s.heap [] := va_S.rf
  have hD := hD0
  have hl := lv_entry ([.ref h0, .int x, .int z, .int y]) (n := 7) (Nat.le_of_ble_eq_true rfl)
  rw [lg_entry_eq]
  generalize (lg_sl ([.ref h0, .int x, .int z, .int y]) ++ List.replicate (7 - (lg_sl ([.ref h0, .int x, .int z, .int y])).length) Slot.unset).toArray = ls at hl ⊢
  have hl : lv_has ls 7 [(0, .ref h0), (1, .int x), (2, .int z), (3, .int y)] := hl
  refine lv_aload_n hx hb dX11_part_0 rfl (lv_at hl 0 rfl) ?_
  refine lv_iload_n hx hb dX11_part_1 rfl (lv_at hl 1 rfl) ?_
  refine zro_q hS hA (va_runV (As := [.int x]) (rest := []) ⟨hx, hb, hml, hown, hall⟩ (c_X11_slotAt l dC dI aC h0 b x s.heap.size) (cwV 1 hall (zgV zw_225 zw_227 zw_228 zw_802 g_X11_slotAt rfl) rfl rfl rfl (by decide +kernel) ⟨Nat.le_of_ble_eq_true rfl, Nat.le_of_ble_eq_true rfl⟩) (zPre_V (As := [.int x]) hK hP hD [0, 1] rfl (by decide +kernel) (ci := 10) (q0 := 0) rfl rfl) rfl rfl hl.1 rfl (lv_room (Nat.le_of_ble_eq_true rfl)) dX11_part_2 ⟨Nat.le_of_ble_eq_true rfl, Nat.le_of_ble_eq_true rfl⟩) (fun r5343 L5344 hw hS' => ?_)
  clear hS
  have hS := hS'
  clear hS'
  obtain rfl : r5343 = none := hw.trans hxm
  try clear hw
  refine lv_astoreN (lv' := [(4, .null), (0, .ref h0), (1, .int x), (2, .int z), (3, .int y)]) hx hb dX11_part_5 hl (by decide) rfl (fun ls5345 hl' => ?_)
  clear hl
  have hl : lv_has ls5345 7 [(4, .null), (0, .ref h0), (1, .int x), (2, .int z), (3, .int y)] := hl'
  clear hl'
  refine lv_aload_n hx hb dX11_part_7 rfl (lv_at hl 1 rfl) ?_
  show W p l e _ s m _ below meth c _ _ _ _ QQ (F0 m 8 ls5345 [.ref h0])
  refine lv_iload_n hx hb dX11_part_8 rfl (lv_at hl 4 rfl) ?_
  refine zro_q hS hA (va_runV (As := [.int y]) (rest := []) ⟨hx, hb, hml, hown, hall⟩ (c_X11_slotAt l dC dI aC h0 b y s.heap.size) (cwV 1 hall (zgV zw_225 zw_227 zw_228 zw_802 g_X11_slotAt rfl) rfl rfl rfl (by decide +kernel) ⟨Nat.le_of_ble_eq_true rfl, Nat.le_of_ble_eq_true rfl⟩) (zPre_V (As := [.int y]) hK hP hD [0, 1] rfl (by decide +kernel) (ci := 10) (q0 := 0) rfl rfl) rfl rfl hl.1 rfl (lv_room (Nat.le_of_ble_eq_true rfl)) dX11_part_9 ⟨Nat.le_of_ble_eq_true rfl, Nat.le_of_ble_eq_true rfl⟩) (fun r5346 L5347 hw hS' => ?_)
  clear hS
  have hS := hS'
  clear hS'
  rcases r5346 with _ | q5348
  · have z5349 : ¬ zok y = true := zslot_n hw
    clear hw
    show W p l e _ s m _ below meth c _ _ _ _ QQ (F0 m 12 ls5345 [.null])
    refine lv_astoreN (lv' := [(5, .null), (4, .null), (0, .ref h0), (1, .int x), (2, .int z), (3, .int y)]) hx hb dX11_part_12 hl (by decide) rfl (fun ls5350 hl' => ?_)
    clear hl
    have hl : lv_has ls5350 7 [(5, .null), (4, .null), (0, .ref h0), (1, .int x), (2, .int z), (3, .int y)] := hl'
    clear hl'
    refine lv_aloadN hx hb dX11_part_14 (lv_at hl 1 rfl) ?_
    refine lv_ifnullN (tgt := 24) hx hb dX11_part_16 (by decide) ?_
    refine lv_iconst (v := (-1)) hx hb dX11_part_24 (by decide) ?_
    rw [← hQ]
    exact W.iret (v := (-1)) hx hb hr (fun zt ht hW => ⟨⟨(-1), (), rfl, rfl, (show zt.heap.size = s.heap.size by rw [ht])⟩, hS.F ht⟩) hS.2.2 dX11_part_25
  · have z5349 : zok y = true := zslot_s hw
    clear hw
    show W p l e _ s m _ below meth c _ _ _ _ QQ (F0 m 12 ls5345 [.ref q5348])
    refine lv_astore (lv' := [(5, .ref q5348), (4, .null), (0, .ref h0), (1, .int x), (2, .int z), (3, .int y)]) hx hb dX11_part_12 hl (by decide) rfl (fun ls5351 hl' => ?_)
    clear hl
    have hl : lv_has ls5351 7 [(5, .ref q5348), (4, .null), (0, .ref h0), (1, .int x), (2, .int z), (3, .int y)] := hl'
    clear hl'
    refine lv_aloadN hx hb dX11_part_14 (lv_at hl 1 rfl) ?_
    refine lv_ifnullN (tgt := 24) hx hb dX11_part_16 (by decide) ?_
    refine lv_iconst (v := (-1)) hx hb dX11_part_24 (by decide) ?_
    rw [← hQ]
    exact W.iret (v := (-1)) hx hb hr (fun zt ht hW => ⟨⟨(-1), (), rfl, rfl, (show zt.heap.size = s.heap.size by rw [ht])⟩, hS.F ht⟩) hS.2.2 dX11_part_25

set_option maxHeartbeats 4000000 in
set_option maxRecDepth 100000 in
theorem c_X11_part_in (l : Launch) (dC : Nat → ClassId) (dI : Nat → Nat → Nat) (aC : Nat → ClassId) (h0 b a : Nat) (x z y : Int32) (sz : Nat) (hxm : zslot b x = some a) : Met l yX11_part w_X11_part ({ frames := 2, cells := 0, slots := 0, locals := 45 }) (zPre (dC, dI) aC [(h0, .inr (10, [.ref (b + 0), .ref (b + 73), .ref (b + 75), .ref (b + 76), .ref (b + 80), .ref (b + 81), .ref (b + 88), .ref (b + 95), .ref (b + 100), .ref (b + 106), .int 0, .ref (b + 107), .int 0])), (b + 0, .inl (aC 3, 12, .inr (.inr (.inr (.inr (zrefs (fun i => b + (1 + 6 * i)) 12)))))), (a, .inr (5, [.int 0, .int 0, .int 0, .int 0, .int 0, .int 0, .int 0, .ref (a + 1), .ref (a + 2), .ref (a + 3), .ref (a + 4), .ref (a + 5)]))] sz [.ref h0, .int x, .int z, .int y]) (va_Qi (fun (r : Int32) (_ : Unit) => r = zface1 y (-3) (-1)) (fun _ zt => zt.heap.size = sz) (zN sz)) 0 0 (zN sz) := by
  refine Met.ofW (cc := cX11_part) (maxL := 7) (ret := (some .int)) (by decide) rfl ?_
  intro p e s m args below meth c s₁ B hml hv
  generalize hQ : MQ below _ _ s _ _ _ = QQ
  obtain ⟨rfl, hsz, hP, hK, hD0⟩ := hv
  have hx := B.exec
  have hb := B.bytes
  have hr := B.returns
  have hts := atoms_spec (ws := w_X11_part) B.pre
  have hall := fun (w : Cond) (h : w ∈ zAll) => hts w (List.mem_cons_of_mem _ h)
  have hown : s.vm.findClass RX11 = some m.cls := findClass_of_methodNamed B.named
  have hlocks := B.notSynchronized
  subst hsz
  have hA : ∀ q : Nat, s.heap.size ≤ q → zN s.heap.size q := fun q h => h
  have hS : va_S (zN s.heap.size) s.heap s.heap [] := va_S.rf
  have hD := hD0
  have hl := lv_entry ([.ref h0, .int x, .int z, .int y]) (n := 7) (Nat.le_of_ble_eq_true rfl)
  rw [lg_entry_eq]
  generalize (lg_sl ([.ref h0, .int x, .int z, .int y]) ++ List.replicate (7 - (lg_sl ([.ref h0, .int x, .int z, .int y])).length) Slot.unset).toArray = ls at hl ⊢
  have hl : lv_has ls 7 [(0, .ref h0), (1, .int x), (2, .int z), (3, .int y)] := hl
  refine lv_aload_n hx hb dX11_part_0 rfl (lv_at hl 0 rfl) ?_
  refine lv_iload_n hx hb dX11_part_1 rfl (lv_at hl 1 rfl) ?_
  refine zro_q hS hA (va_runV (As := [.int x]) (rest := []) ⟨hx, hb, hml, hown, hall⟩ (c_X11_slotAt l dC dI aC h0 b x s.heap.size) (cwV 1 hall (zgV zw_225 zw_227 zw_228 zw_802 g_X11_slotAt rfl) rfl rfl rfl (by decide +kernel) ⟨Nat.le_of_ble_eq_true rfl, Nat.le_of_ble_eq_true rfl⟩) (zPre_V (As := [.int x]) hK hP hD [0, 1] rfl (by decide +kernel) (ci := 10) (q0 := 0) rfl rfl) rfl rfl hl.1 rfl (lv_room (Nat.le_of_ble_eq_true rfl)) dX11_part_2 ⟨Nat.le_of_ble_eq_true rfl, Nat.le_of_ble_eq_true rfl⟩) (fun r5352 L5353 hw hS' => ?_)
  clear hS
  have hS := hS'
  clear hS'
  obtain rfl : r5352 = some a := hw.trans hxm
  try clear hw
  refine lv_astore (lv' := [(4, .ref a), (0, .ref h0), (1, .int x), (2, .int z), (3, .int y)]) hx hb dX11_part_5 hl (by decide) rfl (fun ls5354 hl' => ?_)
  clear hl
  have hl : lv_has ls5354 7 [(4, .ref a), (0, .ref h0), (1, .int x), (2, .int z), (3, .int y)] := hl'
  clear hl'
  refine lv_aload_n hx hb dX11_part_7 rfl (lv_at hl 1 rfl) ?_
  show W p l e _ s m _ below meth c _ _ _ _ QQ (F0 m 8 ls5354 [.ref h0])
  refine lv_iload_n hx hb dX11_part_8 rfl (lv_at hl 4 rfl) ?_
  refine zro_q hS hA (va_runV (As := [.int y]) (rest := []) ⟨hx, hb, hml, hown, hall⟩ (c_X11_slotAt l dC dI aC h0 b y s.heap.size) (cwV 1 hall (zgV zw_225 zw_227 zw_228 zw_802 g_X11_slotAt rfl) rfl rfl rfl (by decide +kernel) ⟨Nat.le_of_ble_eq_true rfl, Nat.le_of_ble_eq_true rfl⟩) (zPre_V (As := [.int y]) hK hP hD [0, 1] rfl (by decide +kernel) (ci := 10) (q0 := 0) rfl rfl) rfl rfl hl.1 rfl (lv_room (Nat.le_of_ble_eq_true rfl)) dX11_part_9 ⟨Nat.le_of_ble_eq_true rfl, Nat.le_of_ble_eq_true rfl⟩) (fun r5355 L5356 hw hS' => ?_)
  clear hS
  have hS := hS'
  clear hS'
  rcases r5355 with _ | q5357
  · have z5358 : ¬ zok y = true := zslot_n hw
    clear hw
    show W p l e _ s m _ below meth c _ _ _ _ QQ (F0 m 12 ls5354 [.null])
    refine lv_astoreN (lv' := [(5, .null), (4, .ref a), (0, .ref h0), (1, .int x), (2, .int z), (3, .int y)]) hx hb dX11_part_12 hl (by decide) rfl (fun ls5359 hl' => ?_)
    clear hl
    have hl : lv_has ls5359 7 [(5, .null), (4, .ref a), (0, .ref h0), (1, .int x), (2, .int z), (3, .int y)] := hl'
    clear hl'
    refine lv_aload hx hb dX11_part_14 (lv_at hl 1 rfl) ?_
    refine lv_ifnull hx hb dX11_part_16 ?_
    refine lv_aloadN hx hb dX11_part_19 (lv_at hl 0 rfl) ?_
    refine lv_ifnonnullN hx hb dX11_part_21 ?_
    show W p l e _ s m _ below meth c _ _ _ _ QQ (F0 m 24 ls5359 [])
    refine lv_iconst (v := (-1)) hx hb dX11_part_24 (by decide) ?_
    rw [← hQ]
    exact W.iret (v := (-1)) hx hb hr (fun zt ht hW => ⟨⟨(-1), (), rfl, by simp [zface1, z5358], (show zt.heap.size = s.heap.size by rw [ht])⟩, hS.F ht⟩) hS.2.2 dX11_part_25
  · have z5358 : zok y = true := zslot_s hw
    clear hw
    show W p l e _ s m _ below meth c _ _ _ _ QQ (F0 m 12 ls5354 [.ref q5357])
    refine lv_astore (lv' := [(5, .ref q5357), (4, .ref a), (0, .ref h0), (1, .int x), (2, .int z), (3, .int y)]) hx hb dX11_part_12 hl (by decide) rfl (fun ls5360 hl' => ?_)
    clear hl
    have hl : lv_has ls5360 7 [(5, .ref q5357), (4, .ref a), (0, .ref h0), (1, .int x), (2, .int z), (3, .int y)] := hl'
    clear hl'
    refine lv_aload hx hb dX11_part_14 (lv_at hl 1 rfl) ?_
    refine lv_ifnull hx hb dX11_part_16 ?_
    refine lv_aload hx hb dX11_part_19 (lv_at hl 0 rfl) ?_
    refine lv_ifnonnull (tgt := 26) hx hb dX11_part_21 (by decide) ?_
    show W p l e _ s m _ below meth c _ _ _ _ QQ (F0 m 26 ls5360 [])
    refine lv_aload hx hb dX11_part_26 (lv_at hl 1 rfl) ?_
    refine va_get (D := (dC, dI)) (ci := 5) (v := .int 0) (C := RX6) (T := TX6) (N := 12) hx hb hall zx_6 hown hK.1 hP 2 rfl rfl 0 (by decide) (hall _ zw_212) (fun _ h9 => h9) rfl dX11_part_28 ?_
    refine lv_iconst (v := 3) hx hb dX11_part_31 (by decide) ?_
    refine lv_icmp_eq (tgt := 47) hx hb dX11_part_32 (by decide) (fun c_32_b5361 => absurd c_32_b5361 (by decide)) (fun _ => ?_)
    refine lv_aload hx hb dX11_part_35 (lv_at hl 1 rfl) ?_
    show W p l e _ s m _ below meth c _ _ _ _ QQ (F0 m 37 ls5360 [.ref a])
    refine va_get (D := (dC, dI)) (ci := 5) (v := .int 0) (C := RX6) (T := TX6) (N := 12) hx hb hall zx_6 hown hK.1 hP 2 rfl rfl 0 (by decide) (hall _ zw_212) (fun _ h9 => h9) rfl dX11_part_37 ?_
    refine lv_iconst (v := 4) hx hb dX11_part_40 (by decide) ?_
    refine lv_icmp_eq (tgt := 47) hx hb dX11_part_41 (by decide) (fun c_41_b5362 => absurd c_41_b5362 (by decide)) (fun _ => ?_)
    refine lv_bipush (v := (-3)) hx hb dX11_part_44 (by decide) ?_
    rw [← hQ]
    exact W.iret (v := (-3)) hx hb hr (fun zt ht hW => ⟨⟨(-3), (), rfl, by simp [zface1, z5358], (show zt.heap.size = s.heap.size by rw [ht])⟩, hS.F ht⟩) hS.2.2 dX11_part_46

set_option maxHeartbeats 4000000 in
set_option maxRecDepth 100000 in
theorem c_X11_check_out (l : Launch) (dC : Nat → ClassId) (dI : Nat → Nat → Nat) (aC : Nat → ClassId) (h0 b : Nat) (x y : Int32) (sz : Nat) (hxm : zslot b x = none) : Met l yX11_check w_X11_check ({ frames := 2, cells := 0, slots := 0, locals := 45 }) (zPre (dC, dI) aC [(h0, .inr (10, [.ref (b + 0), .ref (b + 73), .ref (b + 75), .ref (b + 76), .ref (b + 80), .ref (b + 81), .ref (b + 88), .ref (b + 95), .ref (b + 100), .ref (b + 106), .int 0, .ref (b + 107), .int 0])), (b + 0, .inl (aC 3, 12, .inr (.inr (.inr (.inr (zrefs (fun i => b + (1 + 6 * i)) 12))))))] sz [.ref h0, .int x, .int y]) (va_Qi (fun (r : Int32) (_ : Unit) => r = -1) (fun _ zt => zt.heap.size = sz) (zN sz)) 0 0 (zN sz) := by
  refine Met.ofW (cc := cX11_check) (maxL := 7) (ret := (some .int)) (by decide) rfl ?_
  intro p e s m args below meth c s₁ B hml hv
  generalize hQ : MQ below _ _ s _ _ _ = QQ
  obtain ⟨rfl, hsz, hP, hK, hD0⟩ := hv
  have hx := B.exec
  have hb := B.bytes
  have hr := B.returns
  have hts := atoms_spec (ws := w_X11_check) B.pre
  have hall := fun (w : Cond) (h : w ∈ zAll) => hts w (List.mem_cons_of_mem _ h)
  have hown : s.vm.findClass RX11 = some m.cls := findClass_of_methodNamed B.named
  have hlocks := B.notSynchronized
  subst hsz
  have hA : ∀ q : Nat, s.heap.size ≤ q → zN s.heap.size q := fun q h => h
  have hS : va_S (zN s.heap.size) s.heap s.heap [] := va_S.rf
  have hD := hD0
  have hl := lv_entry ([.ref h0, .int x, .int y]) (n := 7) (Nat.le_of_ble_eq_true rfl)
  rw [lg_entry_eq]
  generalize (lg_sl ([.ref h0, .int x, .int y]) ++ List.replicate (7 - (lg_sl ([.ref h0, .int x, .int y])).length) Slot.unset).toArray = ls at hl ⊢
  have hl : lv_has ls 7 [(0, .ref h0), (1, .int x), (2, .int y)] := hl
  refine lv_aload_n hx hb dX11_check_0 rfl (lv_at hl 0 rfl) ?_
  refine lv_iload_n hx hb dX11_check_1 rfl (lv_at hl 1 rfl) ?_
  refine zro_q hS hA (va_runV (As := [.int x]) (rest := []) ⟨hx, hb, hml, hown, hall⟩ (c_X11_slotAt l dC dI aC h0 b x s.heap.size) (cwV 1 hall (zgV zw_225 zw_227 zw_228 zw_802 g_X11_slotAt rfl) rfl rfl rfl (by decide +kernel) ⟨Nat.le_of_ble_eq_true rfl, Nat.le_of_ble_eq_true rfl⟩) (zPre_V (As := [.int x]) hK hP hD [0, 1] rfl (by decide +kernel) (ci := 10) (q0 := 0) rfl rfl) rfl rfl hl.1 rfl (lv_room (Nat.le_of_ble_eq_true rfl)) dX11_check_2 ⟨Nat.le_of_ble_eq_true rfl, Nat.le_of_ble_eq_true rfl⟩) (fun r5363 L5364 hw hS' => ?_)
  clear hS
  have hS := hS'
  clear hS'
  obtain rfl : r5363 = none := hw.trans hxm
  try clear hw
  refine lv_astore_nN (lv' := [(3, .null), (0, .ref h0), (1, .int x), (2, .int y)]) hx hb dX11_check_5 rfl hl (by decide) rfl (fun ls5365 hl' => ?_)
  clear hl
  have hl : lv_has ls5365 7 [(3, .null), (0, .ref h0), (1, .int x), (2, .int y)] := hl'
  clear hl'
  refine lv_aload_n hx hb dX11_check_6 rfl (lv_at hl 1 rfl) ?_
  show W p l e _ s m _ below meth c _ _ _ _ QQ (F0 m 7 ls5365 [.ref h0])
  refine lv_iload_n hx hb dX11_check_7 rfl (lv_at hl 3 rfl) ?_
  refine zro_q hS hA (va_runV (As := [.int y]) (rest := []) ⟨hx, hb, hml, hown, hall⟩ (c_X11_slotAt l dC dI aC h0 b y s.heap.size) (cwV 1 hall (zgV zw_225 zw_227 zw_228 zw_802 g_X11_slotAt rfl) rfl rfl rfl (by decide +kernel) ⟨Nat.le_of_ble_eq_true rfl, Nat.le_of_ble_eq_true rfl⟩) (zPre_V (As := [.int y]) hK hP hD [0, 1] rfl (by decide +kernel) (ci := 10) (q0 := 0) rfl rfl) rfl rfl hl.1 rfl (lv_room (Nat.le_of_ble_eq_true rfl)) dX11_check_8 ⟨Nat.le_of_ble_eq_true rfl, Nat.le_of_ble_eq_true rfl⟩) (fun r5366 L5367 hw hS' => ?_)
  clear hS
  have hS := hS'
  clear hS'
  rcases r5366 with _ | q5368
  · have z5369 : ¬ zok y = true := zslot_n hw
    clear hw
    show W p l e _ s m _ below meth c _ _ _ _ QQ (F0 m 11 ls5365 [.null])
    refine lv_astoreN (lv' := [(4, .null), (3, .null), (0, .ref h0), (1, .int x), (2, .int y)]) hx hb dX11_check_11 hl (by decide) rfl (fun ls5370 hl' => ?_)
    clear hl
    have hl : lv_has ls5370 7 [(4, .null), (3, .null), (0, .ref h0), (1, .int x), (2, .int y)] := hl'
    clear hl'
    refine lv_aload_nN hx hb dX11_check_13 rfl (lv_at hl 1 rfl) ?_
    refine lv_ifnullN (tgt := 22) hx hb dX11_check_14 (by decide) ?_
    refine lv_iconst (v := (-1)) hx hb dX11_check_22 (by decide) ?_
    rw [← hQ]
    exact W.iret (v := (-1)) hx hb hr (fun zt ht hW => ⟨⟨(-1), (), rfl, rfl, (show zt.heap.size = s.heap.size by rw [ht])⟩, hS.F ht⟩) hS.2.2 dX11_check_23
  · have z5369 : zok y = true := zslot_s hw
    clear hw
    show W p l e _ s m _ below meth c _ _ _ _ QQ (F0 m 11 ls5365 [.ref q5368])
    refine lv_astore (lv' := [(4, .ref q5368), (3, .null), (0, .ref h0), (1, .int x), (2, .int y)]) hx hb dX11_check_11 hl (by decide) rfl (fun ls5371 hl' => ?_)
    clear hl
    have hl : lv_has ls5371 7 [(4, .ref q5368), (3, .null), (0, .ref h0), (1, .int x), (2, .int y)] := hl'
    clear hl'
    refine lv_aload_nN hx hb dX11_check_13 rfl (lv_at hl 1 rfl) ?_
    refine lv_ifnullN (tgt := 22) hx hb dX11_check_14 (by decide) ?_
    refine lv_iconst (v := (-1)) hx hb dX11_check_22 (by decide) ?_
    rw [← hQ]
    exact W.iret (v := (-1)) hx hb hr (fun zt ht hW => ⟨⟨(-1), (), rfl, rfl, (show zt.heap.size = s.heap.size by rw [ht])⟩, hS.F ht⟩) hS.2.2 dX11_check_23

set_option maxHeartbeats 4000000 in
set_option maxRecDepth 100000 in
theorem c_X11_check_in (l : Launch) (dC : Nat → ClassId) (dI : Nat → Nat → Nat) (aC : Nat → ClassId) (h0 b a : Nat) (x y : Int32) (sz : Nat) (hxm : zslot b x = some a) : Met l yX11_check w_X11_check ({ frames := 2, cells := 0, slots := 0, locals := 45 }) (zPre (dC, dI) aC [(h0, .inr (10, [.ref (b + 0), .ref (b + 73), .ref (b + 75), .ref (b + 76), .ref (b + 80), .ref (b + 81), .ref (b + 88), .ref (b + 95), .ref (b + 100), .ref (b + 106), .int 0, .ref (b + 107), .int 0])), (b + 0, .inl (aC 3, 12, .inr (.inr (.inr (.inr (zrefs (fun i => b + (1 + 6 * i)) 12)))))), (a, .inr (5, [.int 0, .int 0, .int 0, .int 0, .int 0, .int 0, .int 0, .ref (a + 1), .ref (a + 2), .ref (a + 3), .ref (a + 4), .ref (a + 5)]))] sz [.ref h0, .int x, .int y]) (va_Qi (fun (r : Int32) (_ : Unit) => r = zface1 y (-3) (-1)) (fun _ zt => zt.heap.size = sz) (zN sz)) 0 0 (zN sz) := by
  refine Met.ofW (cc := cX11_check) (maxL := 7) (ret := (some .int)) (by decide) rfl ?_
  intro p e s m args below meth c s₁ B hml hv
  generalize hQ : MQ below _ _ s _ _ _ = QQ
  obtain ⟨rfl, hsz, hP, hK, hD0⟩ := hv
  have hx := B.exec
  have hb := B.bytes
  have hr := B.returns
  have hts := atoms_spec (ws := w_X11_check) B.pre
  have hall := fun (w : Cond) (h : w ∈ zAll) => hts w (List.mem_cons_of_mem _ h)
  have hown : s.vm.findClass RX11 = some m.cls := findClass_of_methodNamed B.named
  have hlocks := B.notSynchronized
  subst hsz
  have hA : ∀ q : Nat, s.heap.size ≤ q → zN s.heap.size q := fun q h => h
  have hS : va_S (zN s.heap.size) s.heap s.heap [] := va_S.rf
  have hD := hD0
  have hl := lv_entry ([.ref h0, .int x, .int y]) (n := 7) (Nat.le_of_ble_eq_true rfl)
  rw [lg_entry_eq]
  generalize (lg_sl ([.ref h0, .int x, .int y]) ++ List.replicate (7 - (lg_sl ([.ref h0, .int x, .int y])).length) Slot.unset).toArray = ls at hl ⊢
  have hl : lv_has ls 7 [(0, .ref h0), (1, .int x), (2, .int y)] := hl
  refine lv_aload_n hx hb dX11_check_0 rfl (lv_at hl 0 rfl) ?_
  refine lv_iload_n hx hb dX11_check_1 rfl (lv_at hl 1 rfl) ?_
  refine zro_q hS hA (va_runV (As := [.int x]) (rest := []) ⟨hx, hb, hml, hown, hall⟩ (c_X11_slotAt l dC dI aC h0 b x s.heap.size) (cwV 1 hall (zgV zw_225 zw_227 zw_228 zw_802 g_X11_slotAt rfl) rfl rfl rfl (by decide +kernel) ⟨Nat.le_of_ble_eq_true rfl, Nat.le_of_ble_eq_true rfl⟩) (zPre_V (As := [.int x]) hK hP hD [0, 1] rfl (by decide +kernel) (ci := 10) (q0 := 0) rfl rfl) rfl rfl hl.1 rfl (lv_room (Nat.le_of_ble_eq_true rfl)) dX11_check_2 ⟨Nat.le_of_ble_eq_true rfl, Nat.le_of_ble_eq_true rfl⟩) (fun r5372 L5373 hw hS' => ?_)
  clear hS
  have hS := hS'
  clear hS'
  obtain rfl : r5372 = some a := hw.trans hxm
  try clear hw
  refine lv_astore_n (lv' := [(3, .ref a), (0, .ref h0), (1, .int x), (2, .int y)]) hx hb dX11_check_5 rfl hl (by decide) rfl (fun ls5374 hl' => ?_)
  clear hl
  have hl : lv_has ls5374 7 [(3, .ref a), (0, .ref h0), (1, .int x), (2, .int y)] := hl'
  clear hl'
  refine lv_aload_n hx hb dX11_check_6 rfl (lv_at hl 1 rfl) ?_
  show W p l e _ s m _ below meth c _ _ _ _ QQ (F0 m 7 ls5374 [.ref h0])
  refine lv_iload_n hx hb dX11_check_7 rfl (lv_at hl 3 rfl) ?_
  refine zro_q hS hA (va_runV (As := [.int y]) (rest := []) ⟨hx, hb, hml, hown, hall⟩ (c_X11_slotAt l dC dI aC h0 b y s.heap.size) (cwV 1 hall (zgV zw_225 zw_227 zw_228 zw_802 g_X11_slotAt rfl) rfl rfl rfl (by decide +kernel) ⟨Nat.le_of_ble_eq_true rfl, Nat.le_of_ble_eq_true rfl⟩) (zPre_V (As := [.int y]) hK hP hD [0, 1] rfl (by decide +kernel) (ci := 10) (q0 := 0) rfl rfl) rfl rfl hl.1 rfl (lv_room (Nat.le_of_ble_eq_true rfl)) dX11_check_8 ⟨Nat.le_of_ble_eq_true rfl, Nat.le_of_ble_eq_true rfl⟩) (fun r5375 L5376 hw hS' => ?_)
  clear hS
  have hS := hS'
  clear hS'
  rcases r5375 with _ | q5377
  · have z5378 : ¬ zok y = true := zslot_n hw
    clear hw
    show W p l e _ s m _ below meth c _ _ _ _ QQ (F0 m 11 ls5374 [.null])
    refine lv_astoreN (lv' := [(4, .null), (3, .ref a), (0, .ref h0), (1, .int x), (2, .int y)]) hx hb dX11_check_11 hl (by decide) rfl (fun ls5379 hl' => ?_)
    clear hl
    have hl : lv_has ls5379 7 [(4, .null), (3, .ref a), (0, .ref h0), (1, .int x), (2, .int y)] := hl'
    clear hl'
    refine lv_aload_n hx hb dX11_check_13 rfl (lv_at hl 1 rfl) ?_
    refine lv_ifnull hx hb dX11_check_14 ?_
    refine lv_aloadN hx hb dX11_check_17 (lv_at hl 0 rfl) ?_
    refine lv_ifnonnullN hx hb dX11_check_19 ?_
    show W p l e _ s m _ below meth c _ _ _ _ QQ (F0 m 22 ls5379 [])
    refine lv_iconst (v := (-1)) hx hb dX11_check_22 (by decide) ?_
    rw [← hQ]
    exact W.iret (v := (-1)) hx hb hr (fun zt ht hW => ⟨⟨(-1), (), rfl, by simp [zface1, z5378], (show zt.heap.size = s.heap.size by rw [ht])⟩, hS.F ht⟩) hS.2.2 dX11_check_23
  · have z5378 : zok y = true := zslot_s hw
    clear hw
    show W p l e _ s m _ below meth c _ _ _ _ QQ (F0 m 11 ls5374 [.ref q5377])
    refine lv_astore (lv' := [(4, .ref q5377), (3, .ref a), (0, .ref h0), (1, .int x), (2, .int y)]) hx hb dX11_check_11 hl (by decide) rfl (fun ls5380 hl' => ?_)
    clear hl
    have hl : lv_has ls5380 7 [(4, .ref q5377), (3, .ref a), (0, .ref h0), (1, .int x), (2, .int y)] := hl'
    clear hl'
    refine lv_aload_n hx hb dX11_check_13 rfl (lv_at hl 1 rfl) ?_
    refine lv_ifnull hx hb dX11_check_14 ?_
    refine lv_aload hx hb dX11_check_17 (lv_at hl 0 rfl) ?_
    refine lv_ifnonnull (tgt := 24) hx hb dX11_check_19 (by decide) ?_
    show W p l e _ s m _ below meth c _ _ _ _ QQ (F0 m 24 ls5380 [])
    refine lv_aload_n hx hb dX11_check_24 rfl (lv_at hl 1 rfl) ?_
    refine va_get (D := (dC, dI)) (ci := 5) (v := .int 0) (C := RX6) (T := TX6) (N := 12) hx hb hall zx_6 hown hK.1 hP 2 rfl rfl 0 (by decide) (hall _ zw_212) (fun _ h9 => h9) rfl dX11_check_25 ?_
    refine lv_iconst (v := 3) hx hb dX11_check_28 (by decide) ?_
    refine lv_icmp_ne (tgt := 40) hx hb dX11_check_29 (by decide) (fun _ => ?_) (fun c_29_b5381 => absurd c_29_b5381 (by decide))
    refine lv_bipush (v := (-3)) hx hb dX11_check_40 (by decide) ?_
    rw [← hQ]
    exact W.iret (v := (-3)) hx hb hr (fun zt ht hW => ⟨⟨(-3), (), rfl, by simp [zface1, z5378], (show zt.heap.size = s.heap.size by rw [ht])⟩, hS.F ht⟩) hS.2.2 dX11_check_42

set_option maxHeartbeats 4000000 in
set_option maxRecDepth 100000 in
theorem c_X11_poke_out (l : Launch) (dC : Nat → ClassId) (dI : Nat → Nat → Nat) (aC : Nat → ClassId) (h0 b : Nat) (x y z v u : Int32) (sz : Nat) (hxm : zslot b x = none) : Met l yX11_poke w_X11_poke ({ frames := 2, cells := 0, slots := 0, locals := 45 }) (zPre (dC, dI) aC [(h0, .inr (10, [.ref (b + 0), .ref (b + 73), .ref (b + 75), .ref (b + 76), .ref (b + 80), .ref (b + 81), .ref (b + 88), .ref (b + 95), .ref (b + 100), .ref (b + 106), .int 0, .ref (b + 107), .int 0])), (b + 0, .inl (aC 3, 12, .inr (.inr (.inr (.inr (zrefs (fun i => b + (1 + 6 * i)) 12))))))] sz [.ref h0, .int x, .int y, .int z, .int v, .int u]) (va_Qi (fun (r : Int32) (_ : Unit) => r = -1) (fun _ zt => zt.heap.size = sz) (zN sz)) 0 0 (zN sz) := by
  refine Met.ofW (cc := cX11_poke) (maxL := 9) (ret := (some .int)) (by decide) rfl ?_
  intro p e s m args below meth c s₁ B hml hv
  generalize hQ : MQ below _ _ s _ _ _ = QQ
  obtain ⟨rfl, hsz, hP, hK, hD0⟩ := hv
  have hx := B.exec
  have hb := B.bytes
  have hr := B.returns
  have hts := atoms_spec (ws := w_X11_poke) B.pre
  have hall := fun (w : Cond) (h : w ∈ zAll) => hts w (List.mem_cons_of_mem _ h)
  have hown : s.vm.findClass RX11 = some m.cls := findClass_of_methodNamed B.named
  have hlocks := B.notSynchronized
  subst hsz
  have hA : ∀ q : Nat, s.heap.size ≤ q → zN s.heap.size q := fun q h => h
  have hS : va_S (zN s.heap.size) s.heap s.heap [] := va_S.rf
  have hD := hD0
  have hl := lv_entry ([.ref h0, .int x, .int y, .int z, .int v, .int u]) (n := 9) (Nat.le_of_ble_eq_true rfl)
  rw [lg_entry_eq]
  generalize (lg_sl ([.ref h0, .int x, .int y, .int z, .int v, .int u]) ++ List.replicate (9 - (lg_sl ([.ref h0, .int x, .int y, .int z, .int v, .int u])).length) Slot.unset).toArray = ls at hl ⊢
  have hl : lv_has ls 9 [(0, .ref h0), (1, .int x), (2, .int y), (3, .int z), (4, .int v), (5, .int u)] := hl
  refine lv_aload_n hx hb dX11_poke_0 rfl (lv_at hl 0 rfl) ?_
  refine lv_iload_n hx hb dX11_poke_1 rfl (lv_at hl 1 rfl) ?_
  refine zro_q hS hA (va_runV (As := [.int x]) (rest := []) ⟨hx, hb, hml, hown, hall⟩ (c_X11_slotAt l dC dI aC h0 b x s.heap.size) (cwV 1 hall (zgV zw_225 zw_227 zw_228 zw_802 g_X11_slotAt rfl) rfl rfl rfl (by decide +kernel) ⟨Nat.le_of_ble_eq_true rfl, Nat.le_of_ble_eq_true rfl⟩) (zPre_V (As := [.int x]) hK hP hD [0, 1] rfl (by decide +kernel) (ci := 10) (q0 := 0) rfl rfl) rfl rfl hl.1 rfl (lv_room (Nat.le_of_ble_eq_true rfl)) dX11_poke_2 ⟨Nat.le_of_ble_eq_true rfl, Nat.le_of_ble_eq_true rfl⟩) (fun r5382 L5383 hw hS' => ?_)
  clear hS
  have hS := hS'
  clear hS'
  obtain rfl : r5382 = none := hw.trans hxm
  try clear hw
  refine lv_astoreN (lv' := [(6, .null), (0, .ref h0), (1, .int x), (2, .int y), (3, .int z), (4, .int v), (5, .int u)]) hx hb dX11_poke_5 hl (by decide) rfl (fun ls5384 hl' => ?_)
  clear hl
  have hl : lv_has ls5384 9 [(6, .null), (0, .ref h0), (1, .int x), (2, .int y), (3, .int z), (4, .int v), (5, .int u)] := hl'
  clear hl'
  refine lv_aloadN hx hb dX11_poke_7 (lv_at hl 0 rfl) ?_
  refine lv_ifnonnullN hx hb dX11_poke_9 ?_
  show W p l e _ s m _ below meth c _ _ _ _ QQ (F0 m 12 ls5384 [])
  refine lv_iconst (v := (-1)) hx hb dX11_poke_12 (by decide) ?_
  rw [← hQ]
  exact W.iret (v := (-1)) hx hb hr (fun zt ht hW => ⟨⟨(-1), (), rfl, rfl, (show zt.heap.size = s.heap.size by rw [ht])⟩, hS.F ht⟩) hS.2.2 dX11_poke_13

set_option maxHeartbeats 4000000 in
set_option maxRecDepth 100000 in
theorem c_X11_poke_in (l : Launch) (dC : Nat → ClassId) (dI : Nat → Nat → Nat) (aC : Nat → ClassId) (h0 b a : Nat) (x y z v u : Int32) (sz : Nat) (hxm : zslot b x = some a) : Met l yX11_poke w_X11_poke ({ frames := 2, cells := 0, slots := 0, locals := 45 }) (zPre (dC, dI) aC [(h0, .inr (10, [.ref (b + 0), .ref (b + 73), .ref (b + 75), .ref (b + 76), .ref (b + 80), .ref (b + 81), .ref (b + 88), .ref (b + 95), .ref (b + 100), .ref (b + 106), .int 0, .ref (b + 107), .int 0])), (b + 0, .inl (aC 3, 12, .inr (.inr (.inr (.inr (zrefs (fun i => b + (1 + 6 * i)) 12)))))), (a, .inr (5, [.int 0, .int 0, .int 0, .int 0, .int 0, .int 0, .int 0, .ref (a + 1), .ref (a + 2), .ref (a + 3), .ref (a + 4), .ref (a + 5)]))] sz [.ref h0, .int x, .int y, .int z, .int v, .int u]) (va_Qi (fun (r : Int32) (_ : Unit) => r = -3) (fun _ zt => zt.heap.size = sz) (zN sz)) 0 0 (zN sz) := by
  refine Met.ofW (cc := cX11_poke) (maxL := 9) (ret := (some .int)) (by decide) rfl ?_
  intro p e s m args below meth c s₁ B hml hv
  generalize hQ : MQ below _ _ s _ _ _ = QQ
  obtain ⟨rfl, hsz, hP, hK, hD0⟩ := hv
  have hx := B.exec
  have hb := B.bytes
  have hr := B.returns
  have hts := atoms_spec (ws := w_X11_poke) B.pre
  have hall := fun (w : Cond) (h : w ∈ zAll) => hts w (List.mem_cons_of_mem _ h)
  have hown : s.vm.findClass RX11 = some m.cls := findClass_of_methodNamed B.named
  have hlocks := B.notSynchronized
  subst hsz
  have hA : ∀ q : Nat, s.heap.size ≤ q → zN s.heap.size q := fun q h => h
  have hS : va_S (zN s.heap.size) s.heap s.heap [] := va_S.rf
  have hD := hD0
  have hl := lv_entry ([.ref h0, .int x, .int y, .int z, .int v, .int u]) (n := 9) (Nat.le_of_ble_eq_true rfl)
  rw [lg_entry_eq]
  generalize (lg_sl ([.ref h0, .int x, .int y, .int z, .int v, .int u]) ++ List.replicate (9 - (lg_sl ([.ref h0, .int x, .int y, .int z, .int v, .int u])).length) Slot.unset).toArray = ls at hl ⊢
  have hl : lv_has ls 9 [(0, .ref h0), (1, .int x), (2, .int y), (3, .int z), (4, .int v), (5, .int u)] := hl
  refine lv_aload_n hx hb dX11_poke_0 rfl (lv_at hl 0 rfl) ?_
  refine lv_iload_n hx hb dX11_poke_1 rfl (lv_at hl 1 rfl) ?_
  refine zro_q hS hA (va_runV (As := [.int x]) (rest := []) ⟨hx, hb, hml, hown, hall⟩ (c_X11_slotAt l dC dI aC h0 b x s.heap.size) (cwV 1 hall (zgV zw_225 zw_227 zw_228 zw_802 g_X11_slotAt rfl) rfl rfl rfl (by decide +kernel) ⟨Nat.le_of_ble_eq_true rfl, Nat.le_of_ble_eq_true rfl⟩) (zPre_V (As := [.int x]) hK hP hD [0, 1] rfl (by decide +kernel) (ci := 10) (q0 := 0) rfl rfl) rfl rfl hl.1 rfl (lv_room (Nat.le_of_ble_eq_true rfl)) dX11_poke_2 ⟨Nat.le_of_ble_eq_true rfl, Nat.le_of_ble_eq_true rfl⟩) (fun r5385 L5386 hw hS' => ?_)
  clear hS
  have hS := hS'
  clear hS'
  obtain rfl : r5385 = some a := hw.trans hxm
  try clear hw
  refine lv_astore (lv' := [(6, .ref a), (0, .ref h0), (1, .int x), (2, .int y), (3, .int z), (4, .int v), (5, .int u)]) hx hb dX11_poke_5 hl (by decide) rfl (fun ls5387 hl' => ?_)
  clear hl
  have hl : lv_has ls5387 9 [(6, .ref a), (0, .ref h0), (1, .int x), (2, .int y), (3, .int z), (4, .int v), (5, .int u)] := hl'
  clear hl'
  refine lv_aload hx hb dX11_poke_7 (lv_at hl 0 rfl) ?_
  refine lv_ifnonnull (tgt := 14) hx hb dX11_poke_9 (by decide) ?_
  show W p l e _ s m _ below meth c _ _ _ _ QQ (F0 m 14 ls5387 [])
  refine lv_aload hx hb dX11_poke_14 (lv_at hl 0 rfl) ?_
  refine va_get (D := (dC, dI)) (ci := 5) (v := .int 0) (C := RX6) (T := TX6) (N := 12) hx hb hall zx_6 hown hK.1 hP 2 rfl rfl 0 (by decide) (hall _ zw_212) (fun _ h9 => h9) rfl dX11_poke_16 ?_
  refine lv_iconst (v := 3) hx hb dX11_poke_19 (by decide) ?_
  refine lv_icmp_eq (tgt := 26) hx hb dX11_poke_20 (by decide) (fun c_20_b5388 => absurd c_20_b5388 (by decide)) (fun _ => ?_)
  refine lv_bipush (v := (-3)) hx hb dX11_poke_23 (by decide) ?_
  rw [← hQ]
  exact W.iret (v := (-3)) hx hb hr (fun zt ht hW => ⟨⟨(-3), (), rfl, rfl, (show zt.heap.size = s.heap.size by rw [ht])⟩, hS.F ht⟩) hS.2.2 dX11_poke_25

set_option maxHeartbeats 4000000 in
set_option maxRecDepth 100000 in
theorem c_X11_holds_out (l : Launch) (dC : Nat → ClassId) (dI : Nat → Nat → Nat) (aC : Nat → ClassId) (h0 b : Nat) (x y z v u : Int32) (sz : Nat) (hxm : zslot b x = none) : Met l yX11_holds w_X11_holds ({ frames := 2, cells := 0, slots := 0, locals := 45 }) (zPre (dC, dI) aC [(h0, .inr (10, [.ref (b + 0), .ref (b + 73), .ref (b + 75), .ref (b + 76), .ref (b + 80), .ref (b + 81), .ref (b + 88), .ref (b + 95), .ref (b + 100), .ref (b + 106), .int 0, .ref (b + 107), .int 0])), (b + 0, .inl (aC 3, 12, .inr (.inr (.inr (.inr (zrefs (fun i => b + (1 + 6 * i)) 12))))))] sz [.ref h0, .int x, .int y, .int z, .int v, .int u]) (va_Qi (fun (r : Int32) (_ : Unit) => r = -1) (fun _ zt => zt.heap.size = sz) (zN sz)) 0 0 (zN sz) := by
  refine Met.ofW (cc := cX11_holds) (maxL := 8) (ret := (some .int)) (by decide) rfl ?_
  intro p e s m args below meth c s₁ B hml hv
  generalize hQ : MQ below _ _ s _ _ _ = QQ
  obtain ⟨rfl, hsz, hP, hK, hD0⟩ := hv
  have hx := B.exec
  have hb := B.bytes
  have hr := B.returns
  have hts := atoms_spec (ws := w_X11_holds) B.pre
  have hall := fun (w : Cond) (h : w ∈ zAll) => hts w (List.mem_cons_of_mem _ h)
  have hown : s.vm.findClass RX11 = some m.cls := findClass_of_methodNamed B.named
  have hlocks := B.notSynchronized
  subst hsz
  have hA : ∀ q : Nat, s.heap.size ≤ q → zN s.heap.size q := fun q h => h
  have hS : va_S (zN s.heap.size) s.heap s.heap [] := va_S.rf
  have hD := hD0
  have hl := lv_entry ([.ref h0, .int x, .int y, .int z, .int v, .int u]) (n := 8) (Nat.le_of_ble_eq_true rfl)
  rw [lg_entry_eq]
  generalize (lg_sl ([.ref h0, .int x, .int y, .int z, .int v, .int u]) ++ List.replicate (8 - (lg_sl ([.ref h0, .int x, .int y, .int z, .int v, .int u])).length) Slot.unset).toArray = ls at hl ⊢
  have hl : lv_has ls 8 [(0, .ref h0), (1, .int x), (2, .int y), (3, .int z), (4, .int v), (5, .int u)] := hl
  refine lv_aload_n hx hb dX11_holds_0 rfl (lv_at hl 0 rfl) ?_
  refine lv_iload_n hx hb dX11_holds_1 rfl (lv_at hl 1 rfl) ?_
  refine zro_q hS hA (va_runV (As := [.int x]) (rest := []) ⟨hx, hb, hml, hown, hall⟩ (c_X11_slotAt l dC dI aC h0 b x s.heap.size) (cwV 1 hall (zgV zw_225 zw_227 zw_228 zw_802 g_X11_slotAt rfl) rfl rfl rfl (by decide +kernel) ⟨Nat.le_of_ble_eq_true rfl, Nat.le_of_ble_eq_true rfl⟩) (zPre_V (As := [.int x]) hK hP hD [0, 1] rfl (by decide +kernel) (ci := 10) (q0 := 0) rfl rfl) rfl rfl hl.1 rfl (lv_room (Nat.le_of_ble_eq_true rfl)) dX11_holds_2 ⟨Nat.le_of_ble_eq_true rfl, Nat.le_of_ble_eq_true rfl⟩) (fun r5389 L5390 hw hS' => ?_)
  clear hS
  have hS := hS'
  clear hS'
  obtain rfl : r5389 = none := hw.trans hxm
  try clear hw
  refine lv_astoreN (lv' := [(6, .null), (0, .ref h0), (1, .int x), (2, .int y), (3, .int z), (4, .int v), (5, .int u)]) hx hb dX11_holds_5 hl (by decide) rfl (fun ls5391 hl' => ?_)
  clear hl
  have hl : lv_has ls5391 8 [(6, .null), (0, .ref h0), (1, .int x), (2, .int y), (3, .int z), (4, .int v), (5, .int u)] := hl'
  clear hl'
  refine lv_aload_n hx hb dX11_holds_7 rfl (lv_at hl 1 rfl) ?_
  show W p l e _ s m _ below meth c _ _ _ _ QQ (F0 m 8 ls5391 [.ref h0])
  refine lv_iload_n hx hb dX11_holds_8 rfl (lv_at hl 3 rfl) ?_
  refine zro_q hS hA (va_runV (As := [.int y]) (rest := []) ⟨hx, hb, hml, hown, hall⟩ (c_X11_slotAt l dC dI aC h0 b y s.heap.size) (cwV 1 hall (zgV zw_225 zw_227 zw_228 zw_802 g_X11_slotAt rfl) rfl rfl rfl (by decide +kernel) ⟨Nat.le_of_ble_eq_true rfl, Nat.le_of_ble_eq_true rfl⟩) (zPre_V (As := [.int y]) hK hP hD [0, 1] rfl (by decide +kernel) (ci := 10) (q0 := 0) rfl rfl) rfl rfl hl.1 rfl (lv_room (Nat.le_of_ble_eq_true rfl)) dX11_holds_9 ⟨Nat.le_of_ble_eq_true rfl, Nat.le_of_ble_eq_true rfl⟩) (fun r5392 L5393 hw hS' => ?_)
  clear hS
  have hS := hS'
  clear hS'
  rcases r5392 with _ | q5394
  · have z5395 : ¬ zok y = true := zslot_n hw
    clear hw
    show W p l e _ s m _ below meth c _ _ _ _ QQ (F0 m 12 ls5391 [.null])
    refine lv_astoreN (lv' := [(7, .null), (6, .null), (0, .ref h0), (1, .int x), (2, .int y), (3, .int z), (4, .int v), (5, .int u)]) hx hb dX11_holds_12 hl (by decide) rfl (fun ls5396 hl' => ?_)
    clear hl
    have hl : lv_has ls5396 8 [(7, .null), (6, .null), (0, .ref h0), (1, .int x), (2, .int y), (3, .int z), (4, .int v), (5, .int u)] := hl'
    clear hl'
    refine lv_aloadN hx hb dX11_holds_14 (lv_at hl 1 rfl) ?_
    refine lv_ifnullN (tgt := 24) hx hb dX11_holds_16 (by decide) ?_
    refine lv_iconst (v := (-1)) hx hb dX11_holds_24 (by decide) ?_
    rw [← hQ]
    exact W.iret (v := (-1)) hx hb hr (fun zt ht hW => ⟨⟨(-1), (), rfl, rfl, (show zt.heap.size = s.heap.size by rw [ht])⟩, hS.F ht⟩) hS.2.2 dX11_holds_25
  · have z5395 : zok y = true := zslot_s hw
    clear hw
    show W p l e _ s m _ below meth c _ _ _ _ QQ (F0 m 12 ls5391 [.ref q5394])
    refine lv_astore (lv' := [(7, .ref q5394), (6, .null), (0, .ref h0), (1, .int x), (2, .int y), (3, .int z), (4, .int v), (5, .int u)]) hx hb dX11_holds_12 hl (by decide) rfl (fun ls5397 hl' => ?_)
    clear hl
    have hl : lv_has ls5397 8 [(7, .ref q5394), (6, .null), (0, .ref h0), (1, .int x), (2, .int y), (3, .int z), (4, .int v), (5, .int u)] := hl'
    clear hl'
    refine lv_aloadN hx hb dX11_holds_14 (lv_at hl 1 rfl) ?_
    refine lv_ifnullN (tgt := 24) hx hb dX11_holds_16 (by decide) ?_
    refine lv_iconst (v := (-1)) hx hb dX11_holds_24 (by decide) ?_
    rw [← hQ]
    exact W.iret (v := (-1)) hx hb hr (fun zt ht hW => ⟨⟨(-1), (), rfl, rfl, (show zt.heap.size = s.heap.size by rw [ht])⟩, hS.F ht⟩) hS.2.2 dX11_holds_25

set_option maxHeartbeats 4000000 in
set_option maxRecDepth 100000 in
theorem c_X11_holds_in (l : Launch) (dC : Nat → ClassId) (dI : Nat → Nat → Nat) (aC : Nat → ClassId) (h0 b a : Nat) (x y z v u : Int32) (sz : Nat) (hxm : zslot b x = some a) : Met l yX11_holds w_X11_holds ({ frames := 2, cells := 0, slots := 0, locals := 45 }) (zPre (dC, dI) aC [(h0, .inr (10, [.ref (b + 0), .ref (b + 73), .ref (b + 75), .ref (b + 76), .ref (b + 80), .ref (b + 81), .ref (b + 88), .ref (b + 95), .ref (b + 100), .ref (b + 106), .int 0, .ref (b + 107), .int 0])), (b + 0, .inl (aC 3, 12, .inr (.inr (.inr (.inr (zrefs (fun i => b + (1 + 6 * i)) 12)))))), (a, .inr (5, [.int 0, .int 0, .int 0, .int 0, .int 0, .int 0, .int 0, .ref (a + 1), .ref (a + 2), .ref (a + 3), .ref (a + 4), .ref (a + 5)]))] sz [.ref h0, .int x, .int y, .int z, .int v, .int u]) (va_Qi (fun (r : Int32) (_ : Unit) => r = zface1 y (-3) (-1)) (fun _ zt => zt.heap.size = sz) (zN sz)) 0 0 (zN sz) := by
  refine Met.ofW (cc := cX11_holds) (maxL := 8) (ret := (some .int)) (by decide) rfl ?_
  intro p e s m args below meth c s₁ B hml hv
  generalize hQ : MQ below _ _ s _ _ _ = QQ
  obtain ⟨rfl, hsz, hP, hK, hD0⟩ := hv
  have hx := B.exec
  have hb := B.bytes
  have hr := B.returns
  have hts := atoms_spec (ws := w_X11_holds) B.pre
  have hall := fun (w : Cond) (h : w ∈ zAll) => hts w (List.mem_cons_of_mem _ h)
  have hown : s.vm.findClass RX11 = some m.cls := findClass_of_methodNamed B.named
  have hlocks := B.notSynchronized
  subst hsz
  have hA : ∀ q : Nat, s.heap.size ≤ q → zN s.heap.size q := fun q h => h
  have hS : va_S (zN s.heap.size) s.heap s.heap [] := va_S.rf
  have hD := hD0
  have hl := lv_entry ([.ref h0, .int x, .int y, .int z, .int v, .int u]) (n := 8) (Nat.le_of_ble_eq_true rfl)
  rw [lg_entry_eq]
  generalize (lg_sl ([.ref h0, .int x, .int y, .int z, .int v, .int u]) ++ List.replicate (8 - (lg_sl ([.ref h0, .int x, .int y, .int z, .int v, .int u])).length) Slot.unset).toArray = ls at hl ⊢
  have hl : lv_has ls 8 [(0, .ref h0), (1, .int x), (2, .int y), (3, .int z), (4, .int v), (5, .int u)] := hl
  refine lv_aload_n hx hb dX11_holds_0 rfl (lv_at hl 0 rfl) ?_
  refine lv_iload_n hx hb dX11_holds_1 rfl (lv_at hl 1 rfl) ?_
  refine zro_q hS hA (va_runV (As := [.int x]) (rest := []) ⟨hx, hb, hml, hown, hall⟩ (c_X11_slotAt l dC dI aC h0 b x s.heap.size) (cwV 1 hall (zgV zw_225 zw_227 zw_228 zw_802 g_X11_slotAt rfl) rfl rfl rfl (by decide +kernel) ⟨Nat.le_of_ble_eq_true rfl, Nat.le_of_ble_eq_true rfl⟩) (zPre_V (As := [.int x]) hK hP hD [0, 1] rfl (by decide +kernel) (ci := 10) (q0 := 0) rfl rfl) rfl rfl hl.1 rfl (lv_room (Nat.le_of_ble_eq_true rfl)) dX11_holds_2 ⟨Nat.le_of_ble_eq_true rfl, Nat.le_of_ble_eq_true rfl⟩) (fun r5398 L5399 hw hS' => ?_)
  clear hS
  have hS := hS'
  clear hS'
  obtain rfl : r5398 = some a := hw.trans hxm
  try clear hw
  refine lv_astore (lv' := [(6, .ref a), (0, .ref h0), (1, .int x), (2, .int y), (3, .int z), (4, .int v), (5, .int u)]) hx hb dX11_holds_5 hl (by decide) rfl (fun ls5400 hl' => ?_)
  clear hl
  have hl : lv_has ls5400 8 [(6, .ref a), (0, .ref h0), (1, .int x), (2, .int y), (3, .int z), (4, .int v), (5, .int u)] := hl'
  clear hl'
  refine lv_aload_n hx hb dX11_holds_7 rfl (lv_at hl 1 rfl) ?_
  show W p l e _ s m _ below meth c _ _ _ _ QQ (F0 m 8 ls5400 [.ref h0])
  refine lv_iload_n hx hb dX11_holds_8 rfl (lv_at hl 3 rfl) ?_
  refine zro_q hS hA (va_runV (As := [.int y]) (rest := []) ⟨hx, hb, hml, hown, hall⟩ (c_X11_slotAt l dC dI aC h0 b y s.heap.size) (cwV 1 hall (zgV zw_225 zw_227 zw_228 zw_802 g_X11_slotAt rfl) rfl rfl rfl (by decide +kernel) ⟨Nat.le_of_ble_eq_true rfl, Nat.le_of_ble_eq_true rfl⟩) (zPre_V (As := [.int y]) hK hP hD [0, 1] rfl (by decide +kernel) (ci := 10) (q0 := 0) rfl rfl) rfl rfl hl.1 rfl (lv_room (Nat.le_of_ble_eq_true rfl)) dX11_holds_9 ⟨Nat.le_of_ble_eq_true rfl, Nat.le_of_ble_eq_true rfl⟩) (fun r5401 L5402 hw hS' => ?_)
  clear hS
  have hS := hS'
  clear hS'
  rcases r5401 with _ | q5403
  · have z5404 : ¬ zok y = true := zslot_n hw
    clear hw
    show W p l e _ s m _ below meth c _ _ _ _ QQ (F0 m 12 ls5400 [.null])
    refine lv_astoreN (lv' := [(7, .null), (6, .ref a), (0, .ref h0), (1, .int x), (2, .int y), (3, .int z), (4, .int v), (5, .int u)]) hx hb dX11_holds_12 hl (by decide) rfl (fun ls5405 hl' => ?_)
    clear hl
    have hl : lv_has ls5405 8 [(7, .null), (6, .ref a), (0, .ref h0), (1, .int x), (2, .int y), (3, .int z), (4, .int v), (5, .int u)] := hl'
    clear hl'
    refine lv_aload hx hb dX11_holds_14 (lv_at hl 1 rfl) ?_
    refine lv_ifnull hx hb dX11_holds_16 ?_
    refine lv_aloadN hx hb dX11_holds_19 (lv_at hl 0 rfl) ?_
    refine lv_ifnonnullN hx hb dX11_holds_21 ?_
    show W p l e _ s m _ below meth c _ _ _ _ QQ (F0 m 24 ls5405 [])
    refine lv_iconst (v := (-1)) hx hb dX11_holds_24 (by decide) ?_
    rw [← hQ]
    exact W.iret (v := (-1)) hx hb hr (fun zt ht hW => ⟨⟨(-1), (), rfl, by simp [zface1, z5404], (show zt.heap.size = s.heap.size by rw [ht])⟩, hS.F ht⟩) hS.2.2 dX11_holds_25
  · have z5404 : zok y = true := zslot_s hw
    clear hw
    show W p l e _ s m _ below meth c _ _ _ _ QQ (F0 m 12 ls5400 [.ref q5403])
    refine lv_astore (lv' := [(7, .ref q5403), (6, .ref a), (0, .ref h0), (1, .int x), (2, .int y), (3, .int z), (4, .int v), (5, .int u)]) hx hb dX11_holds_12 hl (by decide) rfl (fun ls5406 hl' => ?_)
    clear hl
    have hl : lv_has ls5406 8 [(7, .ref q5403), (6, .ref a), (0, .ref h0), (1, .int x), (2, .int y), (3, .int z), (4, .int v), (5, .int u)] := hl'
    clear hl'
    refine lv_aload hx hb dX11_holds_14 (lv_at hl 1 rfl) ?_
    refine lv_ifnull hx hb dX11_holds_16 ?_
    refine lv_aload hx hb dX11_holds_19 (lv_at hl 0 rfl) ?_
    refine lv_ifnonnull (tgt := 26) hx hb dX11_holds_21 (by decide) ?_
    show W p l e _ s m _ below meth c _ _ _ _ QQ (F0 m 26 ls5406 [])
    refine lv_aload hx hb dX11_holds_26 (lv_at hl 1 rfl) ?_
    refine va_get (D := (dC, dI)) (ci := 5) (v := .int 0) (C := RX6) (T := TX6) (N := 12) hx hb hall zx_6 hown hK.1 hP 2 rfl rfl 0 (by decide) (hall _ zw_212) (fun _ h9 => h9) rfl dX11_holds_28 ?_
    refine lv_iconst (v := 3) hx hb dX11_holds_31 (by decide) ?_
    refine lv_icmp_ne (tgt := 43) hx hb dX11_holds_32 (by decide) (fun _ => ?_) (fun c_32_b5407 => absurd c_32_b5407 (by decide))
    refine lv_bipush (v := (-3)) hx hb dX11_holds_43 (by decide) ?_
    rw [← hQ]
    exact W.iret (v := (-3)) hx hb hr (fun zt ht hW => ⟨⟨(-3), (), rfl, by simp [zface1, z5404], (show zt.heap.size = s.heap.size by rw [ht])⟩, hS.F ht⟩) hS.2.2 dX11_holds_45

set_option maxHeartbeats 4000000 in
set_option maxRecDepth 100000 in
theorem c_X11_row_out (l : Launch) (dC : Nat → ClassId) (dI : Nat → Nat → Nat) (aC : Nat → ClassId) (h0 b : Nat) (x y : Int32) (sz : Nat) (hxm : zslot b x = none) : Met l yX11_row w_X11_row ({ frames := 2, cells := 0, slots := 0, locals := 45 }) (zPre (dC, dI) aC [(h0, .inr (10, [.ref (b + 0), .ref (b + 73), .ref (b + 75), .ref (b + 76), .ref (b + 80), .ref (b + 81), .ref (b + 88), .ref (b + 95), .ref (b + 100), .ref (b + 106), .int 0, .ref (b + 107), .int 0])), (b + 0, .inl (aC 3, 12, .inr (.inr (.inr (.inr (zrefs (fun i => b + (1 + 6 * i)) 12))))))] sz [.ref h0, .int x, .int y]) (va_Qi (fun (r : Int32) (_ : Unit) => r = -1) (fun _ zt => zt.heap.size = sz) (zN sz)) 0 0 (zN sz) := by
  refine Met.ofW (cc := cX11_row) (maxL := 5) (ret := (some .int)) (by decide) rfl ?_
  intro p e s m args below meth c s₁ B hml hv
  generalize hQ : MQ below _ _ s _ _ _ = QQ
  obtain ⟨rfl, hsz, hP, hK, hD0⟩ := hv
  have hx := B.exec
  have hb := B.bytes
  have hr := B.returns
  have hts := atoms_spec (ws := w_X11_row) B.pre
  have hall := fun (w : Cond) (h : w ∈ zAll) => hts w (List.mem_cons_of_mem _ h)
  have hown : s.vm.findClass RX11 = some m.cls := findClass_of_methodNamed B.named
  have hlocks := B.notSynchronized
  subst hsz
  have hA : ∀ q : Nat, s.heap.size ≤ q → zN s.heap.size q := fun q h => h
  have hS : va_S (zN s.heap.size) s.heap s.heap [] := va_S.rf
  have hD := hD0
  have hl := lv_entry ([.ref h0, .int x, .int y]) (n := 5) (Nat.le_of_ble_eq_true rfl)
  rw [lg_entry_eq]
  generalize (lg_sl ([.ref h0, .int x, .int y]) ++ List.replicate (5 - (lg_sl ([.ref h0, .int x, .int y])).length) Slot.unset).toArray = ls at hl ⊢
  have hl : lv_has ls 5 [(0, .ref h0), (1, .int x), (2, .int y)] := hl
  refine lv_aload_n hx hb dX11_row_0 rfl (lv_at hl 0 rfl) ?_
  refine lv_iload_n hx hb dX11_row_1 rfl (lv_at hl 1 rfl) ?_
  refine zro_q hS hA (va_runV (As := [.int x]) (rest := []) ⟨hx, hb, hml, hown, hall⟩ (c_X11_slotAt l dC dI aC h0 b x s.heap.size) (cwV 1 hall (zgV zw_225 zw_227 zw_228 zw_802 g_X11_slotAt rfl) rfl rfl rfl (by decide +kernel) ⟨Nat.le_of_ble_eq_true rfl, Nat.le_of_ble_eq_true rfl⟩) (zPre_V (As := [.int x]) hK hP hD [0, 1] rfl (by decide +kernel) (ci := 10) (q0 := 0) rfl rfl) rfl rfl hl.1 rfl (lv_room (Nat.le_of_ble_eq_true rfl)) dX11_row_2 ⟨Nat.le_of_ble_eq_true rfl, Nat.le_of_ble_eq_true rfl⟩) (fun r5408 L5409 hw hS' => ?_)
  clear hS
  have hS := hS'
  clear hS'
  obtain rfl : r5408 = none := hw.trans hxm
  try clear hw
  refine lv_astore_nN (lv' := [(3, .null), (0, .ref h0), (1, .int x), (2, .int y)]) hx hb dX11_row_5 rfl hl (by decide) rfl (fun ls5410 hl' => ?_)
  clear hl
  have hl : lv_has ls5410 5 [(3, .null), (0, .ref h0), (1, .int x), (2, .int y)] := hl'
  clear hl'
  refine lv_aload_n hx hb dX11_row_6 rfl (lv_at hl 1 rfl) ?_
  show W p l e _ s m _ below meth c _ _ _ _ QQ (F0 m 7 ls5410 [.ref h0])
  refine lv_iload_n hx hb dX11_row_7 rfl (lv_at hl 3 rfl) ?_
  refine zro_q hS hA (va_runV (As := [.int y]) (rest := []) ⟨hx, hb, hml, hown, hall⟩ (c_X11_slotAt l dC dI aC h0 b y s.heap.size) (cwV 1 hall (zgV zw_225 zw_227 zw_228 zw_802 g_X11_slotAt rfl) rfl rfl rfl (by decide +kernel) ⟨Nat.le_of_ble_eq_true rfl, Nat.le_of_ble_eq_true rfl⟩) (zPre_V (As := [.int y]) hK hP hD [0, 1] rfl (by decide +kernel) (ci := 10) (q0 := 0) rfl rfl) rfl rfl hl.1 rfl (lv_room (Nat.le_of_ble_eq_true rfl)) dX11_row_8 ⟨Nat.le_of_ble_eq_true rfl, Nat.le_of_ble_eq_true rfl⟩) (fun r5411 L5412 hw hS' => ?_)
  clear hS
  have hS := hS'
  clear hS'
  rcases r5411 with _ | q5413
  · have z5414 : ¬ zok y = true := zslot_n hw
    clear hw
    show W p l e _ s m _ below meth c _ _ _ _ QQ (F0 m 11 ls5410 [.null])
    refine lv_astoreN (lv' := [(4, .null), (3, .null), (0, .ref h0), (1, .int x), (2, .int y)]) hx hb dX11_row_11 hl (by decide) rfl (fun ls5415 hl' => ?_)
    clear hl
    have hl : lv_has ls5415 5 [(4, .null), (3, .null), (0, .ref h0), (1, .int x), (2, .int y)] := hl'
    clear hl'
    refine lv_aload_nN hx hb dX11_row_13 rfl (lv_at hl 1 rfl) ?_
    refine lv_ifnullN (tgt := 22) hx hb dX11_row_14 (by decide) ?_
    refine lv_iconst (v := (-1)) hx hb dX11_row_22 (by decide) ?_
    rw [← hQ]
    exact W.iret (v := (-1)) hx hb hr (fun zt ht hW => ⟨⟨(-1), (), rfl, rfl, (show zt.heap.size = s.heap.size by rw [ht])⟩, hS.F ht⟩) hS.2.2 dX11_row_23
  · have z5414 : zok y = true := zslot_s hw
    clear hw
    show W p l e _ s m _ below meth c _ _ _ _ QQ (F0 m 11 ls5410 [.ref q5413])
    refine lv_astore (lv' := [(4, .ref q5413), (3, .null), (0, .ref h0), (1, .int x), (2, .int y)]) hx hb dX11_row_11 hl (by decide) rfl (fun ls5416 hl' => ?_)
    clear hl
    have hl : lv_has ls5416 5 [(4, .ref q5413), (3, .null), (0, .ref h0), (1, .int x), (2, .int y)] := hl'
    clear hl'
    refine lv_aload_nN hx hb dX11_row_13 rfl (lv_at hl 1 rfl) ?_
    refine lv_ifnullN (tgt := 22) hx hb dX11_row_14 (by decide) ?_
    refine lv_iconst (v := (-1)) hx hb dX11_row_22 (by decide) ?_
    rw [← hQ]
    exact W.iret (v := (-1)) hx hb hr (fun zt ht hW => ⟨⟨(-1), (), rfl, rfl, (show zt.heap.size = s.heap.size by rw [ht])⟩, hS.F ht⟩) hS.2.2 dX11_row_23

set_option maxHeartbeats 4000000 in
set_option maxRecDepth 100000 in
theorem c_X11_row_in (l : Launch) (dC : Nat → ClassId) (dI : Nat → Nat → Nat) (aC : Nat → ClassId) (h0 b a : Nat) (x y : Int32) (sz : Nat) (hxm : zslot b x = some a) : Met l yX11_row w_X11_row ({ frames := 2, cells := 0, slots := 0, locals := 45 }) (zPre (dC, dI) aC [(h0, .inr (10, [.ref (b + 0), .ref (b + 73), .ref (b + 75), .ref (b + 76), .ref (b + 80), .ref (b + 81), .ref (b + 88), .ref (b + 95), .ref (b + 100), .ref (b + 106), .int 0, .ref (b + 107), .int 0])), (b + 0, .inl (aC 3, 12, .inr (.inr (.inr (.inr (zrefs (fun i => b + (1 + 6 * i)) 12)))))), (a, .inr (5, [.int 0, .int 0, .int 0, .int 0, .int 0, .int 0, .int 0, .ref (a + 1), .ref (a + 2), .ref (a + 3), .ref (a + 4), .ref (a + 5)]))] sz [.ref h0, .int x, .int y]) (va_Qi (fun (r : Int32) (_ : Unit) => r = zface1 y (-3) (-1)) (fun _ zt => zt.heap.size = sz) (zN sz)) 0 0 (zN sz) := by
  refine Met.ofW (cc := cX11_row) (maxL := 5) (ret := (some .int)) (by decide) rfl ?_
  intro p e s m args below meth c s₁ B hml hv
  generalize hQ : MQ below _ _ s _ _ _ = QQ
  obtain ⟨rfl, hsz, hP, hK, hD0⟩ := hv
  have hx := B.exec
  have hb := B.bytes
  have hr := B.returns
  have hts := atoms_spec (ws := w_X11_row) B.pre
  have hall := fun (w : Cond) (h : w ∈ zAll) => hts w (List.mem_cons_of_mem _ h)
  have hown : s.vm.findClass RX11 = some m.cls := findClass_of_methodNamed B.named
  have hlocks := B.notSynchronized
  subst hsz
  have hA : ∀ q : Nat, s.heap.size ≤ q → zN s.heap.size q := fun q h => h
  have hS : va_S (zN s.heap.size) s.heap s.heap [] := va_S.rf
  have hD := hD0
  have hl := lv_entry ([.ref h0, .int x, .int y]) (n := 5) (Nat.le_of_ble_eq_true rfl)
  rw [lg_entry_eq]
  generalize (lg_sl ([.ref h0, .int x, .int y]) ++ List.replicate (5 - (lg_sl ([.ref h0, .int x, .int y])).length) Slot.unset).toArray = ls at hl ⊢
  have hl : lv_has ls 5 [(0, .ref h0), (1, .int x), (2, .int y)] := hl
  refine lv_aload_n hx hb dX11_row_0 rfl (lv_at hl 0 rfl) ?_
  refine lv_iload_n hx hb dX11_row_1 rfl (lv_at hl 1 rfl) ?_
  refine zro_q hS hA (va_runV (As := [.int x]) (rest := []) ⟨hx, hb, hml, hown, hall⟩ (c_X11_slotAt l dC dI aC h0 b x s.heap.size) (cwV 1 hall (zgV zw_225 zw_227 zw_228 zw_802 g_X11_slotAt rfl) rfl rfl rfl (by decide +kernel) ⟨Nat.le_of_ble_eq_true rfl, Nat.le_of_ble_eq_true rfl⟩) (zPre_V (As := [.int x]) hK hP hD [0, 1] rfl (by decide +kernel) (ci := 10) (q0 := 0) rfl rfl) rfl rfl hl.1 rfl (lv_room (Nat.le_of_ble_eq_true rfl)) dX11_row_2 ⟨Nat.le_of_ble_eq_true rfl, Nat.le_of_ble_eq_true rfl⟩) (fun r5417 L5418 hw hS' => ?_)
  clear hS
  have hS := hS'
  clear hS'
  obtain rfl : r5417 = some a := hw.trans hxm
  try clear hw
  refine lv_astore_n (lv' := [(3, .ref a), (0, .ref h0), (1, .int x), (2, .int y)]) hx hb dX11_row_5 rfl hl (by decide) rfl (fun ls5419 hl' => ?_)
  clear hl
  have hl : lv_has ls5419 5 [(3, .ref a), (0, .ref h0), (1, .int x), (2, .int y)] := hl'
  clear hl'
  refine lv_aload_n hx hb dX11_row_6 rfl (lv_at hl 1 rfl) ?_
  show W p l e _ s m _ below meth c _ _ _ _ QQ (F0 m 7 ls5419 [.ref h0])
  refine lv_iload_n hx hb dX11_row_7 rfl (lv_at hl 3 rfl) ?_
  refine zro_q hS hA (va_runV (As := [.int y]) (rest := []) ⟨hx, hb, hml, hown, hall⟩ (c_X11_slotAt l dC dI aC h0 b y s.heap.size) (cwV 1 hall (zgV zw_225 zw_227 zw_228 zw_802 g_X11_slotAt rfl) rfl rfl rfl (by decide +kernel) ⟨Nat.le_of_ble_eq_true rfl, Nat.le_of_ble_eq_true rfl⟩) (zPre_V (As := [.int y]) hK hP hD [0, 1] rfl (by decide +kernel) (ci := 10) (q0 := 0) rfl rfl) rfl rfl hl.1 rfl (lv_room (Nat.le_of_ble_eq_true rfl)) dX11_row_8 ⟨Nat.le_of_ble_eq_true rfl, Nat.le_of_ble_eq_true rfl⟩) (fun r5420 L5421 hw hS' => ?_)
  clear hS
  have hS := hS'
  clear hS'
  rcases r5420 with _ | q5422
  · have z5423 : ¬ zok y = true := zslot_n hw
    clear hw
    show W p l e _ s m _ below meth c _ _ _ _ QQ (F0 m 11 ls5419 [.null])
    refine lv_astoreN (lv' := [(4, .null), (3, .ref a), (0, .ref h0), (1, .int x), (2, .int y)]) hx hb dX11_row_11 hl (by decide) rfl (fun ls5424 hl' => ?_)
    clear hl
    have hl : lv_has ls5424 5 [(4, .null), (3, .ref a), (0, .ref h0), (1, .int x), (2, .int y)] := hl'
    clear hl'
    refine lv_aload_n hx hb dX11_row_13 rfl (lv_at hl 1 rfl) ?_
    refine lv_ifnull hx hb dX11_row_14 ?_
    refine lv_aloadN hx hb dX11_row_17 (lv_at hl 0 rfl) ?_
    refine lv_ifnonnullN hx hb dX11_row_19 ?_
    show W p l e _ s m _ below meth c _ _ _ _ QQ (F0 m 22 ls5424 [])
    refine lv_iconst (v := (-1)) hx hb dX11_row_22 (by decide) ?_
    rw [← hQ]
    exact W.iret (v := (-1)) hx hb hr (fun zt ht hW => ⟨⟨(-1), (), rfl, by simp [zface1, z5423], (show zt.heap.size = s.heap.size by rw [ht])⟩, hS.F ht⟩) hS.2.2 dX11_row_23
  · have z5423 : zok y = true := zslot_s hw
    clear hw
    show W p l e _ s m _ below meth c _ _ _ _ QQ (F0 m 11 ls5419 [.ref q5422])
    refine lv_astore (lv' := [(4, .ref q5422), (3, .ref a), (0, .ref h0), (1, .int x), (2, .int y)]) hx hb dX11_row_11 hl (by decide) rfl (fun ls5425 hl' => ?_)
    clear hl
    have hl : lv_has ls5425 5 [(4, .ref q5422), (3, .ref a), (0, .ref h0), (1, .int x), (2, .int y)] := hl'
    clear hl'
    refine lv_aload_n hx hb dX11_row_13 rfl (lv_at hl 1 rfl) ?_
    refine lv_ifnull hx hb dX11_row_14 ?_
    refine lv_aload hx hb dX11_row_17 (lv_at hl 0 rfl) ?_
    refine lv_ifnonnull (tgt := 24) hx hb dX11_row_19 (by decide) ?_
    show W p l e _ s m _ below meth c _ _ _ _ QQ (F0 m 24 ls5425 [])
    refine lv_aload_n hx hb dX11_row_24 rfl (lv_at hl 1 rfl) ?_
    refine va_get (D := (dC, dI)) (ci := 5) (v := .int 0) (C := RX6) (T := TX6) (N := 12) hx hb hall zx_6 hown hK.1 hP 2 rfl rfl 0 (by decide) (hall _ zw_212) (fun _ h9 => h9) rfl dX11_row_25 ?_
    refine lv_iconst (v := 3) hx hb dX11_row_28 (by decide) ?_
    refine lv_icmp_eq (tgt := 35) hx hb dX11_row_29 (by decide) (fun c_29_b5426 => absurd c_29_b5426 (by decide)) (fun _ => ?_)
    refine lv_bipush (v := (-3)) hx hb dX11_row_32 (by decide) ?_
    rw [← hQ]
    exact W.iret (v := (-3)) hx hb hr (fun zt ht hW => ⟨⟨(-3), (), rfl, by simp [zface1, z5423], (show zt.heap.size = s.heap.size by rw [ht])⟩, hS.F ht⟩) hS.2.2 dX11_row_34

set_option maxHeartbeats 4000000 in
set_option maxRecDepth 100000 in
theorem c_X11_first_out (l : Launch) (dC : Nat → ClassId) (dI : Nat → Nat → Nat) (aC : Nat → ClassId) (h0 b : Nat) (x y : Int32) (sz : Nat) (hxm : zslot b x = none) : Met l yX11_first w_X11_first ({ frames := 2, cells := 0, slots := 0, locals := 45 }) (zPre (dC, dI) aC [(h0, .inr (10, [.ref (b + 0), .ref (b + 73), .ref (b + 75), .ref (b + 76), .ref (b + 80), .ref (b + 81), .ref (b + 88), .ref (b + 95), .ref (b + 100), .ref (b + 106), .int 0, .ref (b + 107), .int 0])), (b + 0, .inl (aC 3, 12, .inr (.inr (.inr (.inr (zrefs (fun i => b + (1 + 6 * i)) 12))))))] sz [.ref h0, .int x, .int y]) (va_Qi (fun (r : Int32) (_ : Unit) => r = -1) (fun _ zt => zt.heap.size = sz) (zN sz)) 0 0 (zN sz) := by
  refine Met.ofW (cc := cX11_first) (maxL := 4) (ret := (some .int)) (by decide) rfl ?_
  intro p e s m args below meth c s₁ B hml hv
  generalize hQ : MQ below _ _ s _ _ _ = QQ
  obtain ⟨rfl, hsz, hP, hK, hD0⟩ := hv
  have hx := B.exec
  have hb := B.bytes
  have hr := B.returns
  have hts := atoms_spec (ws := w_X11_first) B.pre
  have hall := fun (w : Cond) (h : w ∈ zAll) => hts w (List.mem_cons_of_mem _ h)
  have hown : s.vm.findClass RX11 = some m.cls := findClass_of_methodNamed B.named
  have hlocks := B.notSynchronized
  subst hsz
  have hA : ∀ q : Nat, s.heap.size ≤ q → zN s.heap.size q := fun q h => h
  have hS : va_S (zN s.heap.size) s.heap s.heap [] := va_S.rf
  have hD := hD0
  have hl := lv_entry ([.ref h0, .int x, .int y]) (n := 4) (Nat.le_of_ble_eq_true rfl)
  rw [lg_entry_eq]
  generalize (lg_sl ([.ref h0, .int x, .int y]) ++ List.replicate (4 - (lg_sl ([.ref h0, .int x, .int y])).length) Slot.unset).toArray = ls at hl ⊢
  have hl : lv_has ls 4 [(0, .ref h0), (1, .int x), (2, .int y)] := hl
  refine lv_aload_n hx hb dX11_first_0 rfl (lv_at hl 0 rfl) ?_
  refine lv_iload_n hx hb dX11_first_1 rfl (lv_at hl 1 rfl) ?_
  refine zro_q hS hA (va_runV (As := [.int x]) (rest := []) ⟨hx, hb, hml, hown, hall⟩ (c_X11_slotAt l dC dI aC h0 b x s.heap.size) (cwV 1 hall (zgV zw_225 zw_227 zw_228 zw_802 g_X11_slotAt rfl) rfl rfl rfl (by decide +kernel) ⟨Nat.le_of_ble_eq_true rfl, Nat.le_of_ble_eq_true rfl⟩) (zPre_V (As := [.int x]) hK hP hD [0, 1] rfl (by decide +kernel) (ci := 10) (q0 := 0) rfl rfl) rfl rfl hl.1 rfl (lv_room (Nat.le_of_ble_eq_true rfl)) dX11_first_2 ⟨Nat.le_of_ble_eq_true rfl, Nat.le_of_ble_eq_true rfl⟩) (fun r5427 L5428 hw hS' => ?_)
  clear hS
  have hS := hS'
  clear hS'
  obtain rfl : r5427 = none := hw.trans hxm
  try clear hw
  refine lv_astore_nN (lv' := [(3, .null), (0, .ref h0), (1, .int x), (2, .int y)]) hx hb dX11_first_5 rfl hl (by decide) rfl (fun ls5429 hl' => ?_)
  clear hl
  have hl : lv_has ls5429 4 [(3, .null), (0, .ref h0), (1, .int x), (2, .int y)] := hl'
  clear hl'
  refine lv_aload_nN hx hb dX11_first_6 rfl (lv_at hl 0 rfl) ?_
  refine lv_ifnonnullN hx hb dX11_first_7 ?_
  show W p l e _ s m _ below meth c _ _ _ _ QQ (F0 m 10 ls5429 [])
  refine lv_iconst (v := (-1)) hx hb dX11_first_10 (by decide) ?_
  rw [← hQ]
  exact W.iret (v := (-1)) hx hb hr (fun zt ht hW => ⟨⟨(-1), (), rfl, rfl, (show zt.heap.size = s.heap.size by rw [ht])⟩, hS.F ht⟩) hS.2.2 dX11_first_11

set_option maxHeartbeats 4000000 in
set_option maxRecDepth 100000 in
theorem c_X11_first_in (l : Launch) (dC : Nat → ClassId) (dI : Nat → Nat → Nat) (aC : Nat → ClassId) (h0 b a : Nat) (x y : Int32) (sz : Nat) (hxm : zslot b x = some a) : Met l yX11_first w_X11_first ({ frames := 2, cells := 0, slots := 0, locals := 45 }) (zPre (dC, dI) aC [(h0, .inr (10, [.ref (b + 0), .ref (b + 73), .ref (b + 75), .ref (b + 76), .ref (b + 80), .ref (b + 81), .ref (b + 88), .ref (b + 95), .ref (b + 100), .ref (b + 106), .int 0, .ref (b + 107), .int 0])), (b + 0, .inl (aC 3, 12, .inr (.inr (.inr (.inr (zrefs (fun i => b + (1 + 6 * i)) 12)))))), (a, .inr (5, [.int 0, .int 0, .int 0, .int 0, .int 0, .int 0, .int 0, .ref (a + 1), .ref (a + 2), .ref (a + 3), .ref (a + 4), .ref (a + 5)]))] sz [.ref h0, .int x, .int y]) (va_Qi (fun (r : Int32) (_ : Unit) => r = -3) (fun _ zt => zt.heap.size = sz) (zN sz)) 0 0 (zN sz) := by
  refine Met.ofW (cc := cX11_first) (maxL := 4) (ret := (some .int)) (by decide) rfl ?_
  intro p e s m args below meth c s₁ B hml hv
  generalize hQ : MQ below _ _ s _ _ _ = QQ
  obtain ⟨rfl, hsz, hP, hK, hD0⟩ := hv
  have hx := B.exec
  have hb := B.bytes
  have hr := B.returns
  have hts := atoms_spec (ws := w_X11_first) B.pre
  have hall := fun (w : Cond) (h : w ∈ zAll) => hts w (List.mem_cons_of_mem _ h)
  have hown : s.vm.findClass RX11 = some m.cls := findClass_of_methodNamed B.named
  have hlocks := B.notSynchronized
  subst hsz
  have hA : ∀ q : Nat, s.heap.size ≤ q → zN s.heap.size q := fun q h => h
  have hS : va_S (zN s.heap.size) s.heap s.heap [] := va_S.rf
  have hD := hD0
  have hl := lv_entry ([.ref h0, .int x, .int y]) (n := 4) (Nat.le_of_ble_eq_true rfl)
  rw [lg_entry_eq]
  generalize (lg_sl ([.ref h0, .int x, .int y]) ++ List.replicate (4 - (lg_sl ([.ref h0, .int x, .int y])).length) Slot.unset).toArray = ls at hl ⊢
  have hl : lv_has ls 4 [(0, .ref h0), (1, .int x), (2, .int y)] := hl
  refine lv_aload_n hx hb dX11_first_0 rfl (lv_at hl 0 rfl) ?_
  refine lv_iload_n hx hb dX11_first_1 rfl (lv_at hl 1 rfl) ?_
  refine zro_q hS hA (va_runV (As := [.int x]) (rest := []) ⟨hx, hb, hml, hown, hall⟩ (c_X11_slotAt l dC dI aC h0 b x s.heap.size) (cwV 1 hall (zgV zw_225 zw_227 zw_228 zw_802 g_X11_slotAt rfl) rfl rfl rfl (by decide +kernel) ⟨Nat.le_of_ble_eq_true rfl, Nat.le_of_ble_eq_true rfl⟩) (zPre_V (As := [.int x]) hK hP hD [0, 1] rfl (by decide +kernel) (ci := 10) (q0 := 0) rfl rfl) rfl rfl hl.1 rfl (lv_room (Nat.le_of_ble_eq_true rfl)) dX11_first_2 ⟨Nat.le_of_ble_eq_true rfl, Nat.le_of_ble_eq_true rfl⟩) (fun r5430 L5431 hw hS' => ?_)
  clear hS
  have hS := hS'
  clear hS'
  obtain rfl : r5430 = some a := hw.trans hxm
  try clear hw
  refine lv_astore_n (lv' := [(3, .ref a), (0, .ref h0), (1, .int x), (2, .int y)]) hx hb dX11_first_5 rfl hl (by decide) rfl (fun ls5432 hl' => ?_)
  clear hl
  have hl : lv_has ls5432 4 [(3, .ref a), (0, .ref h0), (1, .int x), (2, .int y)] := hl'
  clear hl'
  refine lv_aload_n hx hb dX11_first_6 rfl (lv_at hl 0 rfl) ?_
  refine lv_ifnonnull (tgt := 12) hx hb dX11_first_7 (by decide) ?_
  show W p l e _ s m _ below meth c _ _ _ _ QQ (F0 m 12 ls5432 [])
  refine lv_aload_n hx hb dX11_first_12 rfl (lv_at hl 0 rfl) ?_
  refine va_get (D := (dC, dI)) (ci := 5) (v := .int 0) (C := RX6) (T := TX6) (N := 12) hx hb hall zx_6 hown hK.1 hP 2 rfl rfl 0 (by decide) (hall _ zw_212) (fun _ h9 => h9) rfl dX11_first_13 ?_
  refine lv_iconst (v := 4) hx hb dX11_first_16 (by decide) ?_
  refine lv_icmp_eq (tgt := 23) hx hb dX11_first_17 (by decide) (fun c_17_b5433 => absurd c_17_b5433 (by decide)) (fun _ => ?_)
  refine lv_bipush (v := (-3)) hx hb dX11_first_20 (by decide) ?_
  rw [← hQ]
  exact W.iret (v := (-3)) hx hb hr (fun zt ht hW => ⟨⟨(-3), (), rfl, rfl, (show zt.heap.size = s.heap.size by rw [ht])⟩, hS.F ht⟩) hS.2.2 dX11_first_22

set_option maxHeartbeats 4000000 in
set_option maxRecDepth 100000 in
theorem c_X11_at_out (l : Launch) (dC : Nat → ClassId) (dI : Nat → Nat → Nat) (aC : Nat → ClassId) (h0 b : Nat) (x y : Int32) (sz : Nat) (hxm : zslot b x = none) : Met l yX11_at w_X11_at ({ frames := 2, cells := 0, slots := 0, locals := 45 }) (zPre (dC, dI) aC [(h0, .inr (10, [.ref (b + 0), .ref (b + 73), .ref (b + 75), .ref (b + 76), .ref (b + 80), .ref (b + 81), .ref (b + 88), .ref (b + 95), .ref (b + 100), .ref (b + 106), .int 0, .ref (b + 107), .int 0])), (b + 0, .inl (aC 3, 12, .inr (.inr (.inr (.inr (zrefs (fun i => b + (1 + 6 * i)) 12))))))] sz [.ref h0, .int x, .int y]) (va_Qi (fun (r : Int32) (_ : Unit) => r = -1) (fun _ zt => zt.heap.size = sz) (zN sz)) 0 0 (zN sz) := by
  refine Met.ofW (cc := cX11_at) (maxL := 4) (ret := (some .int)) (by decide) rfl ?_
  intro p e s m args below meth c s₁ B hml hv
  generalize hQ : MQ below _ _ s _ _ _ = QQ
  obtain ⟨rfl, hsz, hP, hK, hD0⟩ := hv
  have hx := B.exec
  have hb := B.bytes
  have hr := B.returns
  have hts := atoms_spec (ws := w_X11_at) B.pre
  have hall := fun (w : Cond) (h : w ∈ zAll) => hts w (List.mem_cons_of_mem _ h)
  have hown : s.vm.findClass RX11 = some m.cls := findClass_of_methodNamed B.named
  have hlocks := B.notSynchronized
  subst hsz
  have hA : ∀ q : Nat, s.heap.size ≤ q → zN s.heap.size q := fun q h => h
  have hS : va_S (zN s.heap.size) s.heap s.heap [] := va_S.rf
  have hD := hD0
  have hl := lv_entry ([.ref h0, .int x, .int y]) (n := 4) (Nat.le_of_ble_eq_true rfl)
  rw [lg_entry_eq]
  generalize (lg_sl ([.ref h0, .int x, .int y]) ++ List.replicate (4 - (lg_sl ([.ref h0, .int x, .int y])).length) Slot.unset).toArray = ls at hl ⊢
  have hl : lv_has ls 4 [(0, .ref h0), (1, .int x), (2, .int y)] := hl
  refine lv_aload_n hx hb dX11_at_0 rfl (lv_at hl 0 rfl) ?_
  refine lv_iload_n hx hb dX11_at_1 rfl (lv_at hl 1 rfl) ?_
  refine zro_q hS hA (va_runV (As := [.int x]) (rest := []) ⟨hx, hb, hml, hown, hall⟩ (c_X11_slotAt l dC dI aC h0 b x s.heap.size) (cwV 1 hall (zgV zw_225 zw_227 zw_228 zw_802 g_X11_slotAt rfl) rfl rfl rfl (by decide +kernel) ⟨Nat.le_of_ble_eq_true rfl, Nat.le_of_ble_eq_true rfl⟩) (zPre_V (As := [.int x]) hK hP hD [0, 1] rfl (by decide +kernel) (ci := 10) (q0 := 0) rfl rfl) rfl rfl hl.1 rfl (lv_room (Nat.le_of_ble_eq_true rfl)) dX11_at_2 ⟨Nat.le_of_ble_eq_true rfl, Nat.le_of_ble_eq_true rfl⟩) (fun r5434 L5435 hw hS' => ?_)
  clear hS
  have hS := hS'
  clear hS'
  obtain rfl : r5434 = none := hw.trans hxm
  try clear hw
  refine lv_astore_nN (lv' := [(3, .null), (0, .ref h0), (1, .int x), (2, .int y)]) hx hb dX11_at_5 rfl hl (by decide) rfl (fun ls5436 hl' => ?_)
  clear hl
  have hl : lv_has ls5436 4 [(3, .null), (0, .ref h0), (1, .int x), (2, .int y)] := hl'
  clear hl'
  refine lv_aload_nN hx hb dX11_at_6 rfl (lv_at hl 0 rfl) ?_
  refine lv_ifnonnullN hx hb dX11_at_7 ?_
  show W p l e _ s m _ below meth c _ _ _ _ QQ (F0 m 10 ls5436 [])
  refine lv_iconst (v := (-1)) hx hb dX11_at_10 (by decide) ?_
  rw [← hQ]
  exact W.iret (v := (-1)) hx hb hr (fun zt ht hW => ⟨⟨(-1), (), rfl, rfl, (show zt.heap.size = s.heap.size by rw [ht])⟩, hS.F ht⟩) hS.2.2 dX11_at_11

set_option maxHeartbeats 4000000 in
set_option maxRecDepth 100000 in
theorem c_X11_at_in (l : Launch) (dC : Nat → ClassId) (dI : Nat → Nat → Nat) (aC : Nat → ClassId) (h0 b a : Nat) (x y : Int32) (sz : Nat) (hxm : zslot b x = some a) : Met l yX11_at w_X11_at ({ frames := 2, cells := 0, slots := 0, locals := 45 }) (zPre (dC, dI) aC [(h0, .inr (10, [.ref (b + 0), .ref (b + 73), .ref (b + 75), .ref (b + 76), .ref (b + 80), .ref (b + 81), .ref (b + 88), .ref (b + 95), .ref (b + 100), .ref (b + 106), .int 0, .ref (b + 107), .int 0])), (b + 0, .inl (aC 3, 12, .inr (.inr (.inr (.inr (zrefs (fun i => b + (1 + 6 * i)) 12)))))), (a, .inr (5, [.int 0, .int 0, .int 0, .int 0, .int 0, .int 0, .int 0, .ref (a + 1), .ref (a + 2), .ref (a + 3), .ref (a + 4), .ref (a + 5)]))] sz [.ref h0, .int x, .int y]) (va_Qi (fun (r : Int32) (_ : Unit) => r = -3) (fun _ zt => zt.heap.size = sz) (zN sz)) 0 0 (zN sz) := by
  refine Met.ofW (cc := cX11_at) (maxL := 4) (ret := (some .int)) (by decide) rfl ?_
  intro p e s m args below meth c s₁ B hml hv
  generalize hQ : MQ below _ _ s _ _ _ = QQ
  obtain ⟨rfl, hsz, hP, hK, hD0⟩ := hv
  have hx := B.exec
  have hb := B.bytes
  have hr := B.returns
  have hts := atoms_spec (ws := w_X11_at) B.pre
  have hall := fun (w : Cond) (h : w ∈ zAll) => hts w (List.mem_cons_of_mem _ h)
  have hown : s.vm.findClass RX11 = some m.cls := findClass_of_methodNamed B.named
  have hlocks := B.notSynchronized
  subst hsz
  have hA : ∀ q : Nat, s.heap.size ≤ q → zN s.heap.size q := fun q h => h
  have hS : va_S (zN s.heap.size) s.heap s.heap [] := va_S.rf
  have hD := hD0
  have hl := lv_entry ([.ref h0, .int x, .int y]) (n := 4) (Nat.le_of_ble_eq_true rfl)
  rw [lg_entry_eq]
  generalize (lg_sl ([.ref h0, .int x, .int y]) ++ List.replicate (4 - (lg_sl ([.ref h0, .int x, .int y])).length) Slot.unset).toArray = ls at hl ⊢
  have hl : lv_has ls 4 [(0, .ref h0), (1, .int x), (2, .int y)] := hl
  refine lv_aload_n hx hb dX11_at_0 rfl (lv_at hl 0 rfl) ?_
  refine lv_iload_n hx hb dX11_at_1 rfl (lv_at hl 1 rfl) ?_
  refine zro_q hS hA (va_runV (As := [.int x]) (rest := []) ⟨hx, hb, hml, hown, hall⟩ (c_X11_slotAt l dC dI aC h0 b x s.heap.size) (cwV 1 hall (zgV zw_225 zw_227 zw_228 zw_802 g_X11_slotAt rfl) rfl rfl rfl (by decide +kernel) ⟨Nat.le_of_ble_eq_true rfl, Nat.le_of_ble_eq_true rfl⟩) (zPre_V (As := [.int x]) hK hP hD [0, 1] rfl (by decide +kernel) (ci := 10) (q0 := 0) rfl rfl) rfl rfl hl.1 rfl (lv_room (Nat.le_of_ble_eq_true rfl)) dX11_at_2 ⟨Nat.le_of_ble_eq_true rfl, Nat.le_of_ble_eq_true rfl⟩) (fun r5437 L5438 hw hS' => ?_)
  clear hS
  have hS := hS'
  clear hS'
  obtain rfl : r5437 = some a := hw.trans hxm
  try clear hw
  refine lv_astore_n (lv' := [(3, .ref a), (0, .ref h0), (1, .int x), (2, .int y)]) hx hb dX11_at_5 rfl hl (by decide) rfl (fun ls5439 hl' => ?_)
  clear hl
  have hl : lv_has ls5439 4 [(3, .ref a), (0, .ref h0), (1, .int x), (2, .int y)] := hl'
  clear hl'
  refine lv_aload_n hx hb dX11_at_6 rfl (lv_at hl 0 rfl) ?_
  refine lv_ifnonnull (tgt := 12) hx hb dX11_at_7 (by decide) ?_
  show W p l e _ s m _ below meth c _ _ _ _ QQ (F0 m 12 ls5439 [])
  refine lv_aload_n hx hb dX11_at_12 rfl (lv_at hl 0 rfl) ?_
  refine va_get (D := (dC, dI)) (ci := 5) (v := .int 0) (C := RX6) (T := TX6) (N := 12) hx hb hall zx_6 hown hK.1 hP 2 rfl rfl 0 (by decide) (hall _ zw_212) (fun _ h9 => h9) rfl dX11_at_13 ?_
  refine lv_iconst (v := 4) hx hb dX11_at_16 (by decide) ?_
  refine lv_icmp_eq (tgt := 23) hx hb dX11_at_17 (by decide) (fun c_17_b5440 => absurd c_17_b5440 (by decide)) (fun _ => ?_)
  refine lv_bipush (v := (-3)) hx hb dX11_at_20 (by decide) ?_
  rw [← hQ]
  exact W.iret (v := (-3)) hx hb hr (fun zt ht hW => ⟨⟨(-3), (), rfl, rfl, (show zt.heap.size = s.heap.size by rw [ht])⟩, hS.F ht⟩) hS.2.2 dX11_at_22

set_option maxHeartbeats 4000000 in
set_option maxRecDepth 100000 in
theorem c_X11_join_out (l : Launch) (dC : Nat → ClassId) (dI : Nat → Nat → Nat) (aC : Nat → ClassId) (h0 b : Nat) (o x y z : Int32) (sz : Nat) (hxm : zslot b x = none) : Met l yX11_join w_X11_join ({ frames := 2, cells := 0, slots := 0, locals := 45 }) (zPre (dC, dI) aC [(h0, .inr (10, [.ref (b + 0), .ref (b + 73), .ref (b + 75), .ref (b + 76), .ref (b + 80), .ref (b + 81), .ref (b + 88), .ref (b + 95), .ref (b + 100), .ref (b + 106), .int 0, .ref (b + 107), .int 0])), (b + 0, .inl (aC 3, 12, .inr (.inr (.inr (.inr (zrefs (fun i => b + (1 + 6 * i)) 12))))))] sz [.ref h0, .int o, .int x, .int y, .int z]) (va_Qi (fun (r : Int32) (_ : Unit) => r = -1) (fun _ zt => zt.heap.size = sz) (zN sz)) 0 0 (zN sz) := by
  refine Met.ofW (cc := cX11_join) (maxL := 9) (ret := (some .int)) (by decide) rfl ?_
  intro p e s m args below meth c s₁ B hml hv
  generalize hQ : MQ below _ _ s _ _ _ = QQ
  obtain ⟨rfl, hsz, hP, hK, hD0⟩ := hv
  have hx := B.exec
  have hb := B.bytes
  have hr := B.returns
  have hts := atoms_spec (ws := w_X11_join) B.pre
  have hall := fun (w : Cond) (h : w ∈ zAll) => hts w (List.mem_cons_of_mem _ h)
  have hown : s.vm.findClass RX11 = some m.cls := findClass_of_methodNamed B.named
  have hlocks := B.notSynchronized
  subst hsz
  have hA : ∀ q : Nat, s.heap.size ≤ q → zN s.heap.size q := fun q h => h
  have hS : va_S (zN s.heap.size) s.heap s.heap [] := va_S.rf
  have hD := hD0
  have hl := lv_entry ([.ref h0, .int o, .int x, .int y, .int z]) (n := 9) (Nat.le_of_ble_eq_true rfl)
  rw [lg_entry_eq]
  generalize (lg_sl ([.ref h0, .int o, .int x, .int y, .int z]) ++ List.replicate (9 - (lg_sl ([.ref h0, .int o, .int x, .int y, .int z])).length) Slot.unset).toArray = ls at hl ⊢
  have hl : lv_has ls 9 [(0, .ref h0), (1, .int o), (2, .int x), (3, .int y), (4, .int z)] := hl
  refine lv_iload_n hx hb dX11_join_0 rfl (lv_at hl 1 rfl) ?_
  refine lv_if_lt (tgt := 13) hx hb dX11_join_1 (by decide) (fun c_1_b5441 => ?_) (fun c_1_b5441 => ?_)
  · refine lv_iconst (v := 0) hx hb dX11_join_13 (by decide) ?_
    refine lv_istore (lv' := [(5, .int 0), (0, .ref h0), (1, .int o), (2, .int x), (3, .int y), (4, .int z)]) hx hb dX11_join_14 hl (by decide) rfl (fun ls5442 hl' => ?_)
    clear hl
    have hl : lv_has ls5442 9 [(5, .int 0), (0, .ref h0), (1, .int o), (2, .int x), (3, .int y), (4, .int z)] := hl'
    clear hl'
    refine lv_aload_n hx hb dX11_join_16 rfl (lv_at hl 1 rfl) ?_
    refine lv_iload_n hx hb dX11_join_17 rfl (lv_at hl 3 rfl) ?_
    show W p l e _ s m _ below meth c _ _ _ _ QQ (F0 m 18 ls5442 [.int x, .ref h0])
    refine zro_q hS hA (va_runV (As := [.int x]) (rest := []) ⟨hx, hb, hml, hown, hall⟩ (c_X11_slotAt l dC dI aC h0 b x s.heap.size) (cwV 1 hall (zgV zw_225 zw_227 zw_228 zw_802 g_X11_slotAt rfl) rfl rfl rfl (by decide +kernel) ⟨Nat.le_of_ble_eq_true rfl, Nat.le_of_ble_eq_true rfl⟩) (zPre_V (As := [.int x]) hK hP hD [0, 1] rfl (by decide +kernel) (ci := 10) (q0 := 0) rfl rfl) rfl rfl hl.1 rfl (lv_room (Nat.le_of_ble_eq_true rfl)) dX11_join_18 ⟨Nat.le_of_ble_eq_true rfl, Nat.le_of_ble_eq_true rfl⟩) (fun r5443 L5444 hw hS' => ?_)
    clear hS
    have hS := hS'
    clear hS'
    obtain rfl : r5443 = none := hw.trans hxm
    try clear hw
    refine lv_astoreN (lv' := [(6, .null), (5, .int 0), (0, .ref h0), (1, .int o), (2, .int x), (3, .int y), (4, .int z)]) hx hb dX11_join_21 hl (by decide) rfl (fun ls5445 hl' => ?_)
    clear hl
    have hl : lv_has ls5445 9 [(6, .null), (5, .int 0), (0, .ref h0), (1, .int o), (2, .int x), (3, .int y), (4, .int z)] := hl'
    clear hl'
    refine lv_iload hx hb dX11_join_23 (lv_at hl 1 rfl) ?_
    refine lv_if_ne (tgt := 33) hx hb dX11_join_25 (by decide) (fun c_25_b5446 => absurd (by decide) c_25_b5446) (fun _ => ?_)
    refine lv_iload_n hx hb dX11_join_28 rfl (lv_at hl 3 rfl) ?_
    show W p l e _ s m _ below meth c _ _ _ _ QQ (F0 m 29 ls5445 [.int o])
    refine lv_iconst (v := 5) hx hb dX11_join_29 (by decide) ?_
    refine lv_icmp_ne (tgt := 41) hx hb dX11_join_30 (by decide) (fun c_30_b5447 => ?_) (fun c_30_b5447 => ?_)
    · refine lv_aloadN hx hb dX11_join_41 (lv_at hl 0 rfl) ?_
      refine lv_astoreN (lv' := [(7, .null), (6, .null), (5, .int 0), (0, .ref h0), (1, .int o), (2, .int x), (3, .int y), (4, .int z)]) hx hb dX11_join_43 hl (by decide) rfl (fun ls5448 hl' => ?_)
      clear hl
      have hl : lv_has ls5448 9 [(7, .null), (6, .null), (5, .int 0), (0, .ref h0), (1, .int o), (2, .int x), (3, .int y), (4, .int z)] := hl'
      clear hl'
      refine lv_aload_n hx hb dX11_join_45 rfl (lv_at hl 3 rfl) ?_
      refine lv_iload hx hb dX11_join_46 (lv_at hl 7 rfl) ?_
      show W p l e _ s m _ below meth c _ _ _ _ QQ (F0 m 48 ls5448 [.int z, .ref h0])
      refine zro_q hS hA (va_runV (As := [.int z]) (rest := []) ⟨hx, hb, hml, hown, hall⟩ (c_X11_slotAt l dC dI aC h0 b z s.heap.size) (cwV 1 hall (zgV zw_225 zw_227 zw_228 zw_802 g_X11_slotAt rfl) rfl rfl rfl (by decide +kernel) ⟨Nat.le_of_ble_eq_true rfl, Nat.le_of_ble_eq_true rfl⟩) (zPre_V (As := [.int z]) hK hP hD [0, 1] rfl (by decide +kernel) (ci := 10) (q0 := 0) rfl rfl) rfl rfl hl.1 rfl (lv_room (Nat.le_of_ble_eq_true rfl)) dX11_join_48 ⟨Nat.le_of_ble_eq_true rfl, Nat.le_of_ble_eq_true rfl⟩) (fun r5449 L5450 hw hS' => ?_)
      clear hS
      have hS := hS'
      clear hS'
      rcases r5449 with _ | q5451
      · have z5452 : ¬ zok z = true := zslot_n hw
        clear hw
        show W p l e _ s m _ below meth c _ _ _ _ QQ (F0 m 51 ls5448 [.null])
        refine lv_astoreN (lv' := [(8, .null), (7, .null), (6, .null), (5, .int 0), (0, .ref h0), (1, .int o), (2, .int x), (3, .int y), (4, .int z)]) hx hb dX11_join_51 hl (by decide) rfl (fun ls5453 hl' => ?_)
        clear hl
        have hl : lv_has ls5453 9 [(8, .null), (7, .null), (6, .null), (5, .int 0), (0, .ref h0), (1, .int o), (2, .int x), (3, .int y), (4, .int z)] := hl'
        clear hl'
        refine lv_aloadN hx hb dX11_join_53 (lv_at hl 2 rfl) ?_
        refine lv_ifnullN (tgt := 68) hx hb dX11_join_55 (by decide) ?_
        refine lv_iconst (v := (-1)) hx hb dX11_join_68 (by decide) ?_
        rw [← hQ]
        exact W.iret (v := (-1)) hx hb hr (fun zt ht hW => ⟨⟨(-1), (), rfl, rfl, (show zt.heap.size = s.heap.size by rw [ht])⟩, hS.F ht⟩) hS.2.2 dX11_join_69
      · have z5452 : zok z = true := zslot_s hw
        clear hw
        show W p l e _ s m _ below meth c _ _ _ _ QQ (F0 m 51 ls5448 [.ref q5451])
        refine lv_astore (lv' := [(8, .ref q5451), (7, .null), (6, .null), (5, .int 0), (0, .ref h0), (1, .int o), (2, .int x), (3, .int y), (4, .int z)]) hx hb dX11_join_51 hl (by decide) rfl (fun ls5454 hl' => ?_)
        clear hl
        have hl : lv_has ls5454 9 [(8, .ref q5451), (7, .null), (6, .null), (5, .int 0), (0, .ref h0), (1, .int o), (2, .int x), (3, .int y), (4, .int z)] := hl'
        clear hl'
        refine lv_aloadN hx hb dX11_join_53 (lv_at hl 2 rfl) ?_
        refine lv_ifnullN (tgt := 68) hx hb dX11_join_55 (by decide) ?_
        refine lv_iconst (v := (-1)) hx hb dX11_join_68 (by decide) ?_
        rw [← hQ]
        exact W.iret (v := (-1)) hx hb hr (fun zt ht hW => ⟨⟨(-1), (), rfl, rfl, (show zt.heap.size = s.heap.size by rw [ht])⟩, hS.F ht⟩) hS.2.2 dX11_join_69
    · refine lv_aload_n hx hb dX11_join_33 rfl (lv_at hl 2 rfl) ?_
      refine lv_iload_n hx hb dX11_join_34 rfl (lv_at hl 5 rfl) ?_
      refine zro_q hS hA (va_runV (As := [.int y]) (rest := []) ⟨hx, hb, hml, hown, hall⟩ (c_X11_slotAt l dC dI aC h0 b y s.heap.size) (cwV 1 hall (zgV zw_225 zw_227 zw_228 zw_802 g_X11_slotAt rfl) rfl rfl rfl (by decide +kernel) ⟨Nat.le_of_ble_eq_true rfl, Nat.le_of_ble_eq_true rfl⟩) (zPre_V (As := [.int y]) hK hP hD [0, 1] rfl (by decide +kernel) (ci := 10) (q0 := 0) rfl rfl) rfl rfl hl.1 rfl (lv_room (Nat.le_of_ble_eq_true rfl)) dX11_join_35 ⟨Nat.le_of_ble_eq_true rfl, Nat.le_of_ble_eq_true rfl⟩) (fun r5455 L5456 hw hS' => ?_)
      clear hS
      have hS := hS'
      clear hS'
      rcases r5455 with _ | q5457
      · have z5458 : ¬ zok y = true := zslot_n hw
        clear hw
        show W p l e _ s m _ below meth c _ _ _ _ QQ (F0 m 38 ls5445 [.null])
        refine lv_goto (tgt := 43) hx hb dX11_join_38 (by decide) ?_
        refine lv_astoreN (lv' := [(7, .null), (6, .null), (5, .int 0), (0, .ref h0), (1, .int o), (2, .int x), (3, .int y), (4, .int z)]) hx hb dX11_join_43 hl (by decide) rfl (fun ls5459 hl' => ?_)
        clear hl
        have hl : lv_has ls5459 9 [(7, .null), (6, .null), (5, .int 0), (0, .ref h0), (1, .int o), (2, .int x), (3, .int y), (4, .int z)] := hl'
        clear hl'
        refine lv_aload_n hx hb dX11_join_45 rfl (lv_at hl 3 rfl) ?_
        refine lv_iload hx hb dX11_join_46 (lv_at hl 7 rfl) ?_
        refine zro_q hS hA (va_runV (As := [.int z]) (rest := []) ⟨hx, hb, hml, hown, hall⟩ (c_X11_slotAt l dC dI aC h0 b z s.heap.size) (cwV 1 hall (zgV zw_225 zw_227 zw_228 zw_802 g_X11_slotAt rfl) rfl rfl rfl (by decide +kernel) ⟨Nat.le_of_ble_eq_true rfl, Nat.le_of_ble_eq_true rfl⟩) (zPre_V (As := [.int z]) hK hP hD [0, 1] rfl (by decide +kernel) (ci := 10) (q0 := 0) rfl rfl) rfl rfl hl.1 rfl (lv_room (Nat.le_of_ble_eq_true rfl)) dX11_join_48 ⟨Nat.le_of_ble_eq_true rfl, Nat.le_of_ble_eq_true rfl⟩) (fun r5460 L5461 hw hS' => ?_)
        clear hS
        have hS := hS'
        clear hS'
        rcases r5460 with _ | q5462
        · have z5463 : ¬ zok z = true := zslot_n hw
          clear hw
          show W p l e _ s m _ below meth c _ _ _ _ QQ (F0 m 51 ls5459 [.null])
          refine lv_astoreN (lv' := [(8, .null), (7, .null), (6, .null), (5, .int 0), (0, .ref h0), (1, .int o), (2, .int x), (3, .int y), (4, .int z)]) hx hb dX11_join_51 hl (by decide) rfl (fun ls5464 hl' => ?_)
          clear hl
          have hl : lv_has ls5464 9 [(8, .null), (7, .null), (6, .null), (5, .int 0), (0, .ref h0), (1, .int o), (2, .int x), (3, .int y), (4, .int z)] := hl'
          clear hl'
          refine lv_aloadN hx hb dX11_join_53 (lv_at hl 2 rfl) ?_
          refine lv_ifnullN (tgt := 68) hx hb dX11_join_55 (by decide) ?_
          refine lv_iconst (v := (-1)) hx hb dX11_join_68 (by decide) ?_
          rw [← hQ]
          exact W.iret (v := (-1)) hx hb hr (fun zt ht hW => ⟨⟨(-1), (), rfl, rfl, (show zt.heap.size = s.heap.size by rw [ht])⟩, hS.F ht⟩) hS.2.2 dX11_join_69
        · have z5463 : zok z = true := zslot_s hw
          clear hw
          show W p l e _ s m _ below meth c _ _ _ _ QQ (F0 m 51 ls5459 [.ref q5462])
          refine lv_astore (lv' := [(8, .ref q5462), (7, .null), (6, .null), (5, .int 0), (0, .ref h0), (1, .int o), (2, .int x), (3, .int y), (4, .int z)]) hx hb dX11_join_51 hl (by decide) rfl (fun ls5465 hl' => ?_)
          clear hl
          have hl : lv_has ls5465 9 [(8, .ref q5462), (7, .null), (6, .null), (5, .int 0), (0, .ref h0), (1, .int o), (2, .int x), (3, .int y), (4, .int z)] := hl'
          clear hl'
          refine lv_aloadN hx hb dX11_join_53 (lv_at hl 2 rfl) ?_
          refine lv_ifnullN (tgt := 68) hx hb dX11_join_55 (by decide) ?_
          refine lv_iconst (v := (-1)) hx hb dX11_join_68 (by decide) ?_
          rw [← hQ]
          exact W.iret (v := (-1)) hx hb hr (fun zt ht hW => ⟨⟨(-1), (), rfl, rfl, (show zt.heap.size = s.heap.size by rw [ht])⟩, hS.F ht⟩) hS.2.2 dX11_join_69
      · have z5458 : zok y = true := zslot_s hw
        clear hw
        show W p l e _ s m _ below meth c _ _ _ _ QQ (F0 m 38 ls5445 [.ref q5457])
        refine lv_goto (tgt := 43) hx hb dX11_join_38 (by decide) ?_
        refine lv_astore (lv' := [(7, .ref q5457), (6, .null), (5, .int 0), (0, .ref h0), (1, .int o), (2, .int x), (3, .int y), (4, .int z)]) hx hb dX11_join_43 hl (by decide) rfl (fun ls5466 hl' => ?_)
        clear hl
        have hl : lv_has ls5466 9 [(7, .ref q5457), (6, .null), (5, .int 0), (0, .ref h0), (1, .int o), (2, .int x), (3, .int y), (4, .int z)] := hl'
        clear hl'
        refine lv_aload_n hx hb dX11_join_45 rfl (lv_at hl 3 rfl) ?_
        refine lv_iload hx hb dX11_join_46 (lv_at hl 7 rfl) ?_
        refine zro_q hS hA (va_runV (As := [.int z]) (rest := []) ⟨hx, hb, hml, hown, hall⟩ (c_X11_slotAt l dC dI aC h0 b z s.heap.size) (cwV 1 hall (zgV zw_225 zw_227 zw_228 zw_802 g_X11_slotAt rfl) rfl rfl rfl (by decide +kernel) ⟨Nat.le_of_ble_eq_true rfl, Nat.le_of_ble_eq_true rfl⟩) (zPre_V (As := [.int z]) hK hP hD [0, 1] rfl (by decide +kernel) (ci := 10) (q0 := 0) rfl rfl) rfl rfl hl.1 rfl (lv_room (Nat.le_of_ble_eq_true rfl)) dX11_join_48 ⟨Nat.le_of_ble_eq_true rfl, Nat.le_of_ble_eq_true rfl⟩) (fun r5467 L5468 hw hS' => ?_)
        clear hS
        have hS := hS'
        clear hS'
        rcases r5467 with _ | q5469
        · have z5470 : ¬ zok z = true := zslot_n hw
          clear hw
          show W p l e _ s m _ below meth c _ _ _ _ QQ (F0 m 51 ls5466 [.null])
          refine lv_astoreN (lv' := [(8, .null), (7, .ref q5457), (6, .null), (5, .int 0), (0, .ref h0), (1, .int o), (2, .int x), (3, .int y), (4, .int z)]) hx hb dX11_join_51 hl (by decide) rfl (fun ls5471 hl' => ?_)
          clear hl
          have hl : lv_has ls5471 9 [(8, .null), (7, .ref q5457), (6, .null), (5, .int 0), (0, .ref h0), (1, .int o), (2, .int x), (3, .int y), (4, .int z)] := hl'
          clear hl'
          refine lv_aloadN hx hb dX11_join_53 (lv_at hl 2 rfl) ?_
          refine lv_ifnullN (tgt := 68) hx hb dX11_join_55 (by decide) ?_
          refine lv_iconst (v := (-1)) hx hb dX11_join_68 (by decide) ?_
          rw [← hQ]
          exact W.iret (v := (-1)) hx hb hr (fun zt ht hW => ⟨⟨(-1), (), rfl, rfl, (show zt.heap.size = s.heap.size by rw [ht])⟩, hS.F ht⟩) hS.2.2 dX11_join_69
        · have z5470 : zok z = true := zslot_s hw
          clear hw
          show W p l e _ s m _ below meth c _ _ _ _ QQ (F0 m 51 ls5466 [.ref q5469])
          refine lv_astore (lv' := [(8, .ref q5469), (7, .ref q5457), (6, .null), (5, .int 0), (0, .ref h0), (1, .int o), (2, .int x), (3, .int y), (4, .int z)]) hx hb dX11_join_51 hl (by decide) rfl (fun ls5472 hl' => ?_)
          clear hl
          have hl : lv_has ls5472 9 [(8, .ref q5469), (7, .ref q5457), (6, .null), (5, .int 0), (0, .ref h0), (1, .int o), (2, .int x), (3, .int y), (4, .int z)] := hl'
          clear hl'
          refine lv_aloadN hx hb dX11_join_53 (lv_at hl 2 rfl) ?_
          refine lv_ifnullN (tgt := 68) hx hb dX11_join_55 (by decide) ?_
          refine lv_iconst (v := (-1)) hx hb dX11_join_68 (by decide) ?_
          rw [← hQ]
          exact W.iret (v := (-1)) hx hb hr (fun zt ht hW => ⟨⟨(-1), (), rfl, rfl, (show zt.heap.size = s.heap.size by rw [ht])⟩, hS.F ht⟩) hS.2.2 dX11_join_69
  · refine lv_iload_n hx hb dX11_join_4 rfl (lv_at hl 1 rfl) ?_
    refine lv_iconst (v := 2) hx hb dX11_join_5 (by decide) ?_
    refine lv_icmp_gt (tgt := 13) hx hb dX11_join_6 (by decide) (fun c_6_b5473 => ?_) (fun c_6_b5473 => ?_)
    · refine lv_iconst (v := 0) hx hb dX11_join_13 (by decide) ?_
      refine lv_istore (lv' := [(5, .int 0), (0, .ref h0), (1, .int o), (2, .int x), (3, .int y), (4, .int z)]) hx hb dX11_join_14 hl (by decide) rfl (fun ls5474 hl' => ?_)
      clear hl
      have hl : lv_has ls5474 9 [(5, .int 0), (0, .ref h0), (1, .int o), (2, .int x), (3, .int y), (4, .int z)] := hl'
      clear hl'
      show W p l e _ s m _ below meth c _ _ _ _ QQ (F0 m 16 ls5474 [])
      refine lv_aload_n hx hb dX11_join_16 rfl (lv_at hl 1 rfl) ?_
      refine lv_iload_n hx hb dX11_join_17 rfl (lv_at hl 3 rfl) ?_
      refine zro_q hS hA (va_runV (As := [.int x]) (rest := []) ⟨hx, hb, hml, hown, hall⟩ (c_X11_slotAt l dC dI aC h0 b x s.heap.size) (cwV 1 hall (zgV zw_225 zw_227 zw_228 zw_802 g_X11_slotAt rfl) rfl rfl rfl (by decide +kernel) ⟨Nat.le_of_ble_eq_true rfl, Nat.le_of_ble_eq_true rfl⟩) (zPre_V (As := [.int x]) hK hP hD [0, 1] rfl (by decide +kernel) (ci := 10) (q0 := 0) rfl rfl) rfl rfl hl.1 rfl (lv_room (Nat.le_of_ble_eq_true rfl)) dX11_join_18 ⟨Nat.le_of_ble_eq_true rfl, Nat.le_of_ble_eq_true rfl⟩) (fun r5475 L5476 hw hS' => ?_)
      clear hS
      have hS := hS'
      clear hS'
      obtain rfl : r5475 = none := hw.trans hxm
      try clear hw
      refine lv_astoreN (lv' := [(6, .null), (5, .int 0), (0, .ref h0), (1, .int o), (2, .int x), (3, .int y), (4, .int z)]) hx hb dX11_join_21 hl (by decide) rfl (fun ls5477 hl' => ?_)
      clear hl
      have hl : lv_has ls5477 9 [(6, .null), (5, .int 0), (0, .ref h0), (1, .int o), (2, .int x), (3, .int y), (4, .int z)] := hl'
      clear hl'
      refine lv_iload hx hb dX11_join_23 (lv_at hl 1 rfl) ?_
      refine lv_if_ne (tgt := 33) hx hb dX11_join_25 (by decide) (fun c_25_b5478 => absurd (by decide) c_25_b5478) (fun _ => ?_)
      show W p l e _ s m _ below meth c _ _ _ _ QQ (F0 m 28 ls5477 [])
      refine lv_iload_n hx hb dX11_join_28 rfl (lv_at hl 3 rfl) ?_
      refine lv_iconst (v := 5) hx hb dX11_join_29 (by decide) ?_
      refine lv_icmp_ne (tgt := 41) hx hb dX11_join_30 (by decide) (fun c_30_b5479 => ?_) (fun c_30_b5479 => ?_)
      · refine lv_aloadN hx hb dX11_join_41 (lv_at hl 0 rfl) ?_
        refine lv_astoreN (lv' := [(7, .null), (6, .null), (5, .int 0), (0, .ref h0), (1, .int o), (2, .int x), (3, .int y), (4, .int z)]) hx hb dX11_join_43 hl (by decide) rfl (fun ls5480 hl' => ?_)
        clear hl
        have hl : lv_has ls5480 9 [(7, .null), (6, .null), (5, .int 0), (0, .ref h0), (1, .int o), (2, .int x), (3, .int y), (4, .int z)] := hl'
        clear hl'
        refine lv_aload_n hx hb dX11_join_45 rfl (lv_at hl 3 rfl) ?_
        show W p l e _ s m _ below meth c _ _ _ _ QQ (F0 m 46 ls5480 [.ref h0])
        refine lv_iload hx hb dX11_join_46 (lv_at hl 7 rfl) ?_
        refine zro_q hS hA (va_runV (As := [.int z]) (rest := []) ⟨hx, hb, hml, hown, hall⟩ (c_X11_slotAt l dC dI aC h0 b z s.heap.size) (cwV 1 hall (zgV zw_225 zw_227 zw_228 zw_802 g_X11_slotAt rfl) rfl rfl rfl (by decide +kernel) ⟨Nat.le_of_ble_eq_true rfl, Nat.le_of_ble_eq_true rfl⟩) (zPre_V (As := [.int z]) hK hP hD [0, 1] rfl (by decide +kernel) (ci := 10) (q0 := 0) rfl rfl) rfl rfl hl.1 rfl (lv_room (Nat.le_of_ble_eq_true rfl)) dX11_join_48 ⟨Nat.le_of_ble_eq_true rfl, Nat.le_of_ble_eq_true rfl⟩) (fun r5481 L5482 hw hS' => ?_)
        clear hS
        have hS := hS'
        clear hS'
        rcases r5481 with _ | q5483
        · have z5484 : ¬ zok z = true := zslot_n hw
          clear hw
          show W p l e _ s m _ below meth c _ _ _ _ QQ (F0 m 51 ls5480 [.null])
          refine lv_astoreN (lv' := [(8, .null), (7, .null), (6, .null), (5, .int 0), (0, .ref h0), (1, .int o), (2, .int x), (3, .int y), (4, .int z)]) hx hb dX11_join_51 hl (by decide) rfl (fun ls5485 hl' => ?_)
          clear hl
          have hl : lv_has ls5485 9 [(8, .null), (7, .null), (6, .null), (5, .int 0), (0, .ref h0), (1, .int o), (2, .int x), (3, .int y), (4, .int z)] := hl'
          clear hl'
          refine lv_aloadN hx hb dX11_join_53 (lv_at hl 2 rfl) ?_
          refine lv_ifnullN (tgt := 68) hx hb dX11_join_55 (by decide) ?_
          refine lv_iconst (v := (-1)) hx hb dX11_join_68 (by decide) ?_
          rw [← hQ]
          exact W.iret (v := (-1)) hx hb hr (fun zt ht hW => ⟨⟨(-1), (), rfl, rfl, (show zt.heap.size = s.heap.size by rw [ht])⟩, hS.F ht⟩) hS.2.2 dX11_join_69
        · have z5484 : zok z = true := zslot_s hw
          clear hw
          show W p l e _ s m _ below meth c _ _ _ _ QQ (F0 m 51 ls5480 [.ref q5483])
          refine lv_astore (lv' := [(8, .ref q5483), (7, .null), (6, .null), (5, .int 0), (0, .ref h0), (1, .int o), (2, .int x), (3, .int y), (4, .int z)]) hx hb dX11_join_51 hl (by decide) rfl (fun ls5486 hl' => ?_)
          clear hl
          have hl : lv_has ls5486 9 [(8, .ref q5483), (7, .null), (6, .null), (5, .int 0), (0, .ref h0), (1, .int o), (2, .int x), (3, .int y), (4, .int z)] := hl'
          clear hl'
          refine lv_aloadN hx hb dX11_join_53 (lv_at hl 2 rfl) ?_
          refine lv_ifnullN (tgt := 68) hx hb dX11_join_55 (by decide) ?_
          refine lv_iconst (v := (-1)) hx hb dX11_join_68 (by decide) ?_
          rw [← hQ]
          exact W.iret (v := (-1)) hx hb hr (fun zt ht hW => ⟨⟨(-1), (), rfl, rfl, (show zt.heap.size = s.heap.size by rw [ht])⟩, hS.F ht⟩) hS.2.2 dX11_join_69
      · refine lv_aload_n hx hb dX11_join_33 rfl (lv_at hl 2 rfl) ?_
        refine lv_iload_n hx hb dX11_join_34 rfl (lv_at hl 5 rfl) ?_
        refine zro_q hS hA (va_runV (As := [.int y]) (rest := []) ⟨hx, hb, hml, hown, hall⟩ (c_X11_slotAt l dC dI aC h0 b y s.heap.size) (cwV 1 hall (zgV zw_225 zw_227 zw_228 zw_802 g_X11_slotAt rfl) rfl rfl rfl (by decide +kernel) ⟨Nat.le_of_ble_eq_true rfl, Nat.le_of_ble_eq_true rfl⟩) (zPre_V (As := [.int y]) hK hP hD [0, 1] rfl (by decide +kernel) (ci := 10) (q0 := 0) rfl rfl) rfl rfl hl.1 rfl (lv_room (Nat.le_of_ble_eq_true rfl)) dX11_join_35 ⟨Nat.le_of_ble_eq_true rfl, Nat.le_of_ble_eq_true rfl⟩) (fun r5487 L5488 hw hS' => ?_)
        clear hS
        have hS := hS'
        clear hS'
        rcases r5487 with _ | q5489
        · have z5490 : ¬ zok y = true := zslot_n hw
          clear hw
          show W p l e _ s m _ below meth c _ _ _ _ QQ (F0 m 38 ls5477 [.null])
          refine lv_goto (tgt := 43) hx hb dX11_join_38 (by decide) ?_
          refine lv_astoreN (lv' := [(7, .null), (6, .null), (5, .int 0), (0, .ref h0), (1, .int o), (2, .int x), (3, .int y), (4, .int z)]) hx hb dX11_join_43 hl (by decide) rfl (fun ls5491 hl' => ?_)
          clear hl
          have hl : lv_has ls5491 9 [(7, .null), (6, .null), (5, .int 0), (0, .ref h0), (1, .int o), (2, .int x), (3, .int y), (4, .int z)] := hl'
          clear hl'
          refine lv_aload_n hx hb dX11_join_45 rfl (lv_at hl 3 rfl) ?_
          refine lv_iload hx hb dX11_join_46 (lv_at hl 7 rfl) ?_
          refine zro_q hS hA (va_runV (As := [.int z]) (rest := []) ⟨hx, hb, hml, hown, hall⟩ (c_X11_slotAt l dC dI aC h0 b z s.heap.size) (cwV 1 hall (zgV zw_225 zw_227 zw_228 zw_802 g_X11_slotAt rfl) rfl rfl rfl (by decide +kernel) ⟨Nat.le_of_ble_eq_true rfl, Nat.le_of_ble_eq_true rfl⟩) (zPre_V (As := [.int z]) hK hP hD [0, 1] rfl (by decide +kernel) (ci := 10) (q0 := 0) rfl rfl) rfl rfl hl.1 rfl (lv_room (Nat.le_of_ble_eq_true rfl)) dX11_join_48 ⟨Nat.le_of_ble_eq_true rfl, Nat.le_of_ble_eq_true rfl⟩) (fun r5492 L5493 hw hS' => ?_)
          clear hS
          have hS := hS'
          clear hS'
          rcases r5492 with _ | q5494
          · have z5495 : ¬ zok z = true := zslot_n hw
            clear hw
            show W p l e _ s m _ below meth c _ _ _ _ QQ (F0 m 51 ls5491 [.null])
            refine lv_astoreN (lv' := [(8, .null), (7, .null), (6, .null), (5, .int 0), (0, .ref h0), (1, .int o), (2, .int x), (3, .int y), (4, .int z)]) hx hb dX11_join_51 hl (by decide) rfl (fun ls5496 hl' => ?_)
            clear hl
            have hl : lv_has ls5496 9 [(8, .null), (7, .null), (6, .null), (5, .int 0), (0, .ref h0), (1, .int o), (2, .int x), (3, .int y), (4, .int z)] := hl'
            clear hl'
            refine lv_aloadN hx hb dX11_join_53 (lv_at hl 2 rfl) ?_
            refine lv_ifnullN (tgt := 68) hx hb dX11_join_55 (by decide) ?_
            refine lv_iconst (v := (-1)) hx hb dX11_join_68 (by decide) ?_
            rw [← hQ]
            exact W.iret (v := (-1)) hx hb hr (fun zt ht hW => ⟨⟨(-1), (), rfl, rfl, (show zt.heap.size = s.heap.size by rw [ht])⟩, hS.F ht⟩) hS.2.2 dX11_join_69
          · have z5495 : zok z = true := zslot_s hw
            clear hw
            show W p l e _ s m _ below meth c _ _ _ _ QQ (F0 m 51 ls5491 [.ref q5494])
            refine lv_astore (lv' := [(8, .ref q5494), (7, .null), (6, .null), (5, .int 0), (0, .ref h0), (1, .int o), (2, .int x), (3, .int y), (4, .int z)]) hx hb dX11_join_51 hl (by decide) rfl (fun ls5497 hl' => ?_)
            clear hl
            have hl : lv_has ls5497 9 [(8, .ref q5494), (7, .null), (6, .null), (5, .int 0), (0, .ref h0), (1, .int o), (2, .int x), (3, .int y), (4, .int z)] := hl'
            clear hl'
            refine lv_aloadN hx hb dX11_join_53 (lv_at hl 2 rfl) ?_
            refine lv_ifnullN (tgt := 68) hx hb dX11_join_55 (by decide) ?_
            refine lv_iconst (v := (-1)) hx hb dX11_join_68 (by decide) ?_
            rw [← hQ]
            exact W.iret (v := (-1)) hx hb hr (fun zt ht hW => ⟨⟨(-1), (), rfl, rfl, (show zt.heap.size = s.heap.size by rw [ht])⟩, hS.F ht⟩) hS.2.2 dX11_join_69
        · have z5490 : zok y = true := zslot_s hw
          clear hw
          show W p l e _ s m _ below meth c _ _ _ _ QQ (F0 m 38 ls5477 [.ref q5489])
          refine lv_goto (tgt := 43) hx hb dX11_join_38 (by decide) ?_
          refine lv_astore (lv' := [(7, .ref q5489), (6, .null), (5, .int 0), (0, .ref h0), (1, .int o), (2, .int x), (3, .int y), (4, .int z)]) hx hb dX11_join_43 hl (by decide) rfl (fun ls5498 hl' => ?_)
          clear hl
          have hl : lv_has ls5498 9 [(7, .ref q5489), (6, .null), (5, .int 0), (0, .ref h0), (1, .int o), (2, .int x), (3, .int y), (4, .int z)] := hl'
          clear hl'
          refine lv_aload_n hx hb dX11_join_45 rfl (lv_at hl 3 rfl) ?_
          refine lv_iload hx hb dX11_join_46 (lv_at hl 7 rfl) ?_
          refine zro_q hS hA (va_runV (As := [.int z]) (rest := []) ⟨hx, hb, hml, hown, hall⟩ (c_X11_slotAt l dC dI aC h0 b z s.heap.size) (cwV 1 hall (zgV zw_225 zw_227 zw_228 zw_802 g_X11_slotAt rfl) rfl rfl rfl (by decide +kernel) ⟨Nat.le_of_ble_eq_true rfl, Nat.le_of_ble_eq_true rfl⟩) (zPre_V (As := [.int z]) hK hP hD [0, 1] rfl (by decide +kernel) (ci := 10) (q0 := 0) rfl rfl) rfl rfl hl.1 rfl (lv_room (Nat.le_of_ble_eq_true rfl)) dX11_join_48 ⟨Nat.le_of_ble_eq_true rfl, Nat.le_of_ble_eq_true rfl⟩) (fun r5499 L5500 hw hS' => ?_)
          clear hS
          have hS := hS'
          clear hS'
          rcases r5499 with _ | q5501
          · have z5502 : ¬ zok z = true := zslot_n hw
            clear hw
            show W p l e _ s m _ below meth c _ _ _ _ QQ (F0 m 51 ls5498 [.null])
            refine lv_astoreN (lv' := [(8, .null), (7, .ref q5489), (6, .null), (5, .int 0), (0, .ref h0), (1, .int o), (2, .int x), (3, .int y), (4, .int z)]) hx hb dX11_join_51 hl (by decide) rfl (fun ls5503 hl' => ?_)
            clear hl
            have hl : lv_has ls5503 9 [(8, .null), (7, .ref q5489), (6, .null), (5, .int 0), (0, .ref h0), (1, .int o), (2, .int x), (3, .int y), (4, .int z)] := hl'
            clear hl'
            refine lv_aloadN hx hb dX11_join_53 (lv_at hl 2 rfl) ?_
            refine lv_ifnullN (tgt := 68) hx hb dX11_join_55 (by decide) ?_
            refine lv_iconst (v := (-1)) hx hb dX11_join_68 (by decide) ?_
            rw [← hQ]
            exact W.iret (v := (-1)) hx hb hr (fun zt ht hW => ⟨⟨(-1), (), rfl, rfl, (show zt.heap.size = s.heap.size by rw [ht])⟩, hS.F ht⟩) hS.2.2 dX11_join_69
          · have z5502 : zok z = true := zslot_s hw
            clear hw
            show W p l e _ s m _ below meth c _ _ _ _ QQ (F0 m 51 ls5498 [.ref q5501])
            refine lv_astore (lv' := [(8, .ref q5501), (7, .ref q5489), (6, .null), (5, .int 0), (0, .ref h0), (1, .int o), (2, .int x), (3, .int y), (4, .int z)]) hx hb dX11_join_51 hl (by decide) rfl (fun ls5504 hl' => ?_)
            clear hl
            have hl : lv_has ls5504 9 [(8, .ref q5501), (7, .ref q5489), (6, .null), (5, .int 0), (0, .ref h0), (1, .int o), (2, .int x), (3, .int y), (4, .int z)] := hl'
            clear hl'
            refine lv_aloadN hx hb dX11_join_53 (lv_at hl 2 rfl) ?_
            refine lv_ifnullN (tgt := 68) hx hb dX11_join_55 (by decide) ?_
            refine lv_iconst (v := (-1)) hx hb dX11_join_68 (by decide) ?_
            rw [← hQ]
            exact W.iret (v := (-1)) hx hb hr (fun zt ht hW => ⟨⟨(-1), (), rfl, rfl, (show zt.heap.size = s.heap.size by rw [ht])⟩, hS.F ht⟩) hS.2.2 dX11_join_69
    · refine lv_iconst (v := 1) hx hb dX11_join_9 (by decide) ?_
      refine lv_goto (tgt := 14) hx hb dX11_join_10 (by decide) ?_
      show W p l e _ s m _ below meth c _ _ _ _ QQ (F0 m 14 ls [.int 1])
      refine lv_istore (lv' := [(5, .int 1), (0, .ref h0), (1, .int o), (2, .int x), (3, .int y), (4, .int z)]) hx hb dX11_join_14 hl (by decide) rfl (fun ls5505 hl' => ?_)
      clear hl
      have hl : lv_has ls5505 9 [(5, .int 1), (0, .ref h0), (1, .int o), (2, .int x), (3, .int y), (4, .int z)] := hl'
      clear hl'
      refine lv_aload_n hx hb dX11_join_16 rfl (lv_at hl 1 rfl) ?_
      refine lv_iload_n hx hb dX11_join_17 rfl (lv_at hl 3 rfl) ?_
      refine zro_q hS hA (va_runV (As := [.int x]) (rest := []) ⟨hx, hb, hml, hown, hall⟩ (c_X11_slotAt l dC dI aC h0 b x s.heap.size) (cwV 1 hall (zgV zw_225 zw_227 zw_228 zw_802 g_X11_slotAt rfl) rfl rfl rfl (by decide +kernel) ⟨Nat.le_of_ble_eq_true rfl, Nat.le_of_ble_eq_true rfl⟩) (zPre_V (As := [.int x]) hK hP hD [0, 1] rfl (by decide +kernel) (ci := 10) (q0 := 0) rfl rfl) rfl rfl hl.1 rfl (lv_room (Nat.le_of_ble_eq_true rfl)) dX11_join_18 ⟨Nat.le_of_ble_eq_true rfl, Nat.le_of_ble_eq_true rfl⟩) (fun r5506 L5507 hw hS' => ?_)
      clear hS
      have hS := hS'
      clear hS'
      obtain rfl : r5506 = none := hw.trans hxm
      try clear hw
      refine lv_astoreN (lv' := [(6, .null), (5, .int 1), (0, .ref h0), (1, .int o), (2, .int x), (3, .int y), (4, .int z)]) hx hb dX11_join_21 hl (by decide) rfl (fun ls5508 hl' => ?_)
      clear hl
      have hl : lv_has ls5508 9 [(6, .null), (5, .int 1), (0, .ref h0), (1, .int o), (2, .int x), (3, .int y), (4, .int z)] := hl'
      clear hl'
      show W p l e _ s m _ below meth c _ _ _ _ QQ (F0 m 23 ls5508 [])
      refine lv_iload hx hb dX11_join_23 (lv_at hl 1 rfl) ?_
      refine lv_if_ne (tgt := 33) hx hb dX11_join_25 (by decide) (fun _ => ?_) (fun c_25_b5509 => absurd c_25_b5509 (by decide))
      refine lv_aload_n hx hb dX11_join_33 rfl (lv_at hl 2 rfl) ?_
      refine lv_iload_n hx hb dX11_join_34 rfl (lv_at hl 5 rfl) ?_
      refine zro_q hS hA (va_runV (As := [.int y]) (rest := []) ⟨hx, hb, hml, hown, hall⟩ (c_X11_slotAt l dC dI aC h0 b y s.heap.size) (cwV 1 hall (zgV zw_225 zw_227 zw_228 zw_802 g_X11_slotAt rfl) rfl rfl rfl (by decide +kernel) ⟨Nat.le_of_ble_eq_true rfl, Nat.le_of_ble_eq_true rfl⟩) (zPre_V (As := [.int y]) hK hP hD [0, 1] rfl (by decide +kernel) (ci := 10) (q0 := 0) rfl rfl) rfl rfl hl.1 rfl (lv_room (Nat.le_of_ble_eq_true rfl)) dX11_join_35 ⟨Nat.le_of_ble_eq_true rfl, Nat.le_of_ble_eq_true rfl⟩) (fun r5510 L5511 hw hS' => ?_)
      clear hS
      have hS := hS'
      clear hS'
      rcases r5510 with _ | q5512
      · have z5513 : ¬ zok y = true := zslot_n hw
        clear hw
        show W p l e _ s m _ below meth c _ _ _ _ QQ (F0 m 38 ls5508 [.null])
        refine lv_goto (tgt := 43) hx hb dX11_join_38 (by decide) ?_
        refine lv_astoreN (lv' := [(7, .null), (6, .null), (5, .int 1), (0, .ref h0), (1, .int o), (2, .int x), (3, .int y), (4, .int z)]) hx hb dX11_join_43 hl (by decide) rfl (fun ls5514 hl' => ?_)
        clear hl
        have hl : lv_has ls5514 9 [(7, .null), (6, .null), (5, .int 1), (0, .ref h0), (1, .int o), (2, .int x), (3, .int y), (4, .int z)] := hl'
        clear hl'
        refine lv_aload_n hx hb dX11_join_45 rfl (lv_at hl 3 rfl) ?_
        refine lv_iload hx hb dX11_join_46 (lv_at hl 7 rfl) ?_
        refine zro_q hS hA (va_runV (As := [.int z]) (rest := []) ⟨hx, hb, hml, hown, hall⟩ (c_X11_slotAt l dC dI aC h0 b z s.heap.size) (cwV 1 hall (zgV zw_225 zw_227 zw_228 zw_802 g_X11_slotAt rfl) rfl rfl rfl (by decide +kernel) ⟨Nat.le_of_ble_eq_true rfl, Nat.le_of_ble_eq_true rfl⟩) (zPre_V (As := [.int z]) hK hP hD [0, 1] rfl (by decide +kernel) (ci := 10) (q0 := 0) rfl rfl) rfl rfl hl.1 rfl (lv_room (Nat.le_of_ble_eq_true rfl)) dX11_join_48 ⟨Nat.le_of_ble_eq_true rfl, Nat.le_of_ble_eq_true rfl⟩) (fun r5515 L5516 hw hS' => ?_)
        clear hS
        have hS := hS'
        clear hS'
        rcases r5515 with _ | q5517
        · have z5518 : ¬ zok z = true := zslot_n hw
          clear hw
          show W p l e _ s m _ below meth c _ _ _ _ QQ (F0 m 51 ls5514 [.null])
          refine lv_astoreN (lv' := [(8, .null), (7, .null), (6, .null), (5, .int 1), (0, .ref h0), (1, .int o), (2, .int x), (3, .int y), (4, .int z)]) hx hb dX11_join_51 hl (by decide) rfl (fun ls5519 hl' => ?_)
          clear hl
          have hl : lv_has ls5519 9 [(8, .null), (7, .null), (6, .null), (5, .int 1), (0, .ref h0), (1, .int o), (2, .int x), (3, .int y), (4, .int z)] := hl'
          clear hl'
          refine lv_aloadN hx hb dX11_join_53 (lv_at hl 2 rfl) ?_
          refine lv_ifnullN (tgt := 68) hx hb dX11_join_55 (by decide) ?_
          refine lv_iconst (v := (-1)) hx hb dX11_join_68 (by decide) ?_
          rw [← hQ]
          exact W.iret (v := (-1)) hx hb hr (fun zt ht hW => ⟨⟨(-1), (), rfl, rfl, (show zt.heap.size = s.heap.size by rw [ht])⟩, hS.F ht⟩) hS.2.2 dX11_join_69
        · have z5518 : zok z = true := zslot_s hw
          clear hw
          show W p l e _ s m _ below meth c _ _ _ _ QQ (F0 m 51 ls5514 [.ref q5517])
          refine lv_astore (lv' := [(8, .ref q5517), (7, .null), (6, .null), (5, .int 1), (0, .ref h0), (1, .int o), (2, .int x), (3, .int y), (4, .int z)]) hx hb dX11_join_51 hl (by decide) rfl (fun ls5520 hl' => ?_)
          clear hl
          have hl : lv_has ls5520 9 [(8, .ref q5517), (7, .null), (6, .null), (5, .int 1), (0, .ref h0), (1, .int o), (2, .int x), (3, .int y), (4, .int z)] := hl'
          clear hl'
          refine lv_aloadN hx hb dX11_join_53 (lv_at hl 2 rfl) ?_
          refine lv_ifnullN (tgt := 68) hx hb dX11_join_55 (by decide) ?_
          refine lv_iconst (v := (-1)) hx hb dX11_join_68 (by decide) ?_
          rw [← hQ]
          exact W.iret (v := (-1)) hx hb hr (fun zt ht hW => ⟨⟨(-1), (), rfl, rfl, (show zt.heap.size = s.heap.size by rw [ht])⟩, hS.F ht⟩) hS.2.2 dX11_join_69
      · have z5513 : zok y = true := zslot_s hw
        clear hw
        show W p l e _ s m _ below meth c _ _ _ _ QQ (F0 m 38 ls5508 [.ref q5512])
        refine lv_goto (tgt := 43) hx hb dX11_join_38 (by decide) ?_
        refine lv_astore (lv' := [(7, .ref q5512), (6, .null), (5, .int 1), (0, .ref h0), (1, .int o), (2, .int x), (3, .int y), (4, .int z)]) hx hb dX11_join_43 hl (by decide) rfl (fun ls5521 hl' => ?_)
        clear hl
        have hl : lv_has ls5521 9 [(7, .ref q5512), (6, .null), (5, .int 1), (0, .ref h0), (1, .int o), (2, .int x), (3, .int y), (4, .int z)] := hl'
        clear hl'
        refine lv_aload_n hx hb dX11_join_45 rfl (lv_at hl 3 rfl) ?_
        refine lv_iload hx hb dX11_join_46 (lv_at hl 7 rfl) ?_
        refine zro_q hS hA (va_runV (As := [.int z]) (rest := []) ⟨hx, hb, hml, hown, hall⟩ (c_X11_slotAt l dC dI aC h0 b z s.heap.size) (cwV 1 hall (zgV zw_225 zw_227 zw_228 zw_802 g_X11_slotAt rfl) rfl rfl rfl (by decide +kernel) ⟨Nat.le_of_ble_eq_true rfl, Nat.le_of_ble_eq_true rfl⟩) (zPre_V (As := [.int z]) hK hP hD [0, 1] rfl (by decide +kernel) (ci := 10) (q0 := 0) rfl rfl) rfl rfl hl.1 rfl (lv_room (Nat.le_of_ble_eq_true rfl)) dX11_join_48 ⟨Nat.le_of_ble_eq_true rfl, Nat.le_of_ble_eq_true rfl⟩) (fun r5522 L5523 hw hS' => ?_)
        clear hS
        have hS := hS'
        clear hS'
        rcases r5522 with _ | q5524
        · have z5525 : ¬ zok z = true := zslot_n hw
          clear hw
          show W p l e _ s m _ below meth c _ _ _ _ QQ (F0 m 51 ls5521 [.null])
          refine lv_astoreN (lv' := [(8, .null), (7, .ref q5512), (6, .null), (5, .int 1), (0, .ref h0), (1, .int o), (2, .int x), (3, .int y), (4, .int z)]) hx hb dX11_join_51 hl (by decide) rfl (fun ls5526 hl' => ?_)
          clear hl
          have hl : lv_has ls5526 9 [(8, .null), (7, .ref q5512), (6, .null), (5, .int 1), (0, .ref h0), (1, .int o), (2, .int x), (3, .int y), (4, .int z)] := hl'
          clear hl'
          refine lv_aloadN hx hb dX11_join_53 (lv_at hl 2 rfl) ?_
          refine lv_ifnullN (tgt := 68) hx hb dX11_join_55 (by decide) ?_
          refine lv_iconst (v := (-1)) hx hb dX11_join_68 (by decide) ?_
          rw [← hQ]
          exact W.iret (v := (-1)) hx hb hr (fun zt ht hW => ⟨⟨(-1), (), rfl, rfl, (show zt.heap.size = s.heap.size by rw [ht])⟩, hS.F ht⟩) hS.2.2 dX11_join_69
        · have z5525 : zok z = true := zslot_s hw
          clear hw
          show W p l e _ s m _ below meth c _ _ _ _ QQ (F0 m 51 ls5521 [.ref q5524])
          refine lv_astore (lv' := [(8, .ref q5524), (7, .ref q5512), (6, .null), (5, .int 1), (0, .ref h0), (1, .int o), (2, .int x), (3, .int y), (4, .int z)]) hx hb dX11_join_51 hl (by decide) rfl (fun ls5527 hl' => ?_)
          clear hl
          have hl : lv_has ls5527 9 [(8, .ref q5524), (7, .ref q5512), (6, .null), (5, .int 1), (0, .ref h0), (1, .int o), (2, .int x), (3, .int y), (4, .int z)] := hl'
          clear hl'
          refine lv_aloadN hx hb dX11_join_53 (lv_at hl 2 rfl) ?_
          refine lv_ifnullN (tgt := 68) hx hb dX11_join_55 (by decide) ?_
          refine lv_iconst (v := (-1)) hx hb dX11_join_68 (by decide) ?_
          rw [← hQ]
          exact W.iret (v := (-1)) hx hb hr (fun zt ht hW => ⟨⟨(-1), (), rfl, rfl, (show zt.heap.size = s.heap.size by rw [ht])⟩, hS.F ht⟩) hS.2.2 dX11_join_69

set_option maxHeartbeats 4000000 in
set_option maxRecDepth 100000 in
theorem c_X11_join_in (l : Launch) (dC : Nat → ClassId) (dI : Nat → Nat → Nat) (aC : Nat → ClassId) (h0 b a : Nat) (o x y z : Int32) (sz : Nat) (hxm : zslot b x = some a) : Met l yX11_join w_X11_join ({ frames := 2, cells := 0, slots := 0, locals := 45 }) (zPre (dC, dI) aC [(h0, .inr (10, [.ref (b + 0), .ref (b + 73), .ref (b + 75), .ref (b + 76), .ref (b + 80), .ref (b + 81), .ref (b + 88), .ref (b + 95), .ref (b + 100), .ref (b + 106), .int 0, .ref (b + 107), .int 0])), (b + 0, .inl (aC 3, 12, .inr (.inr (.inr (.inr (zrefs (fun i => b + (1 + 6 * i)) 12)))))), (a, .inr (5, [.int 0, .int 0, .int 0, .int 0, .int 0, .int 0, .int 0, .ref (a + 1), .ref (a + 2), .ref (a + 3), .ref (a + 4), .ref (a + 5)]))] sz [.ref h0, .int o, .int x, .int y, .int z]) (va_Qi (fun (r : Int32) (_ : Unit) => r = zjoin o y z) (fun _ zt => zt.heap.size = sz) (zN sz)) 0 0 (zN sz) := by
  refine Met.ofW (cc := cX11_join) (maxL := 9) (ret := (some .int)) (by decide) rfl ?_
  intro p e s m args below meth c s₁ B hml hv
  generalize hQ : MQ below _ _ s _ _ _ = QQ
  obtain ⟨rfl, hsz, hP, hK, hD0⟩ := hv
  have hx := B.exec
  have hb := B.bytes
  have hr := B.returns
  have hts := atoms_spec (ws := w_X11_join) B.pre
  have hall := fun (w : Cond) (h : w ∈ zAll) => hts w (List.mem_cons_of_mem _ h)
  have hown : s.vm.findClass RX11 = some m.cls := findClass_of_methodNamed B.named
  have hlocks := B.notSynchronized
  subst hsz
  have hA : ∀ q : Nat, s.heap.size ≤ q → zN s.heap.size q := fun q h => h
  have hS : va_S (zN s.heap.size) s.heap s.heap [] := va_S.rf
  have hD := hD0
  have hl := lv_entry ([.ref h0, .int o, .int x, .int y, .int z]) (n := 9) (Nat.le_of_ble_eq_true rfl)
  rw [lg_entry_eq]
  generalize (lg_sl ([.ref h0, .int o, .int x, .int y, .int z]) ++ List.replicate (9 - (lg_sl ([.ref h0, .int o, .int x, .int y, .int z])).length) Slot.unset).toArray = ls at hl ⊢
  have hl : lv_has ls 9 [(0, .ref h0), (1, .int o), (2, .int x), (3, .int y), (4, .int z)] := hl
  refine lv_iload_n hx hb dX11_join_0 rfl (lv_at hl 1 rfl) ?_
  refine lv_if_lt (tgt := 13) hx hb dX11_join_1 (by decide) (fun c_1_b5528 => ?_) (fun c_1_b5528 => ?_)
  · refine lv_iconst (v := 0) hx hb dX11_join_13 (by decide) ?_
    refine lv_istore (lv' := [(5, .int 0), (0, .ref h0), (1, .int o), (2, .int x), (3, .int y), (4, .int z)]) hx hb dX11_join_14 hl (by decide) rfl (fun ls5529 hl' => ?_)
    clear hl
    have hl : lv_has ls5529 9 [(5, .int 0), (0, .ref h0), (1, .int o), (2, .int x), (3, .int y), (4, .int z)] := hl'
    clear hl'
    refine lv_aload_n hx hb dX11_join_16 rfl (lv_at hl 1 rfl) ?_
    refine lv_iload_n hx hb dX11_join_17 rfl (lv_at hl 3 rfl) ?_
    show W p l e _ s m _ below meth c _ _ _ _ QQ (F0 m 18 ls5529 [.int x, .ref h0])
    refine zro_q hS hA (va_runV (As := [.int x]) (rest := []) ⟨hx, hb, hml, hown, hall⟩ (c_X11_slotAt l dC dI aC h0 b x s.heap.size) (cwV 1 hall (zgV zw_225 zw_227 zw_228 zw_802 g_X11_slotAt rfl) rfl rfl rfl (by decide +kernel) ⟨Nat.le_of_ble_eq_true rfl, Nat.le_of_ble_eq_true rfl⟩) (zPre_V (As := [.int x]) hK hP hD [0, 1] rfl (by decide +kernel) (ci := 10) (q0 := 0) rfl rfl) rfl rfl hl.1 rfl (lv_room (Nat.le_of_ble_eq_true rfl)) dX11_join_18 ⟨Nat.le_of_ble_eq_true rfl, Nat.le_of_ble_eq_true rfl⟩) (fun r5530 L5531 hw hS' => ?_)
    clear hS
    have hS := hS'
    clear hS'
    obtain rfl : r5530 = some a := hw.trans hxm
    try clear hw
    refine lv_astore (lv' := [(6, .ref a), (5, .int 0), (0, .ref h0), (1, .int o), (2, .int x), (3, .int y), (4, .int z)]) hx hb dX11_join_21 hl (by decide) rfl (fun ls5532 hl' => ?_)
    clear hl
    have hl : lv_has ls5532 9 [(6, .ref a), (5, .int 0), (0, .ref h0), (1, .int o), (2, .int x), (3, .int y), (4, .int z)] := hl'
    clear hl'
    refine lv_iload hx hb dX11_join_23 (lv_at hl 1 rfl) ?_
    refine lv_if_ne (tgt := 33) hx hb dX11_join_25 (by decide) (fun c_25_b5533 => absurd (by decide) c_25_b5533) (fun _ => ?_)
    refine lv_iload_n hx hb dX11_join_28 rfl (lv_at hl 3 rfl) ?_
    show W p l e _ s m _ below meth c _ _ _ _ QQ (F0 m 29 ls5532 [.int o])
    refine lv_iconst (v := 5) hx hb dX11_join_29 (by decide) ?_
    refine lv_icmp_ne (tgt := 41) hx hb dX11_join_30 (by decide) (fun c_30_b5534 => ?_) (fun c_30_b5534 => ?_)
    · refine lv_aload hx hb dX11_join_41 (lv_at hl 0 rfl) ?_
      refine lv_astore (lv' := [(7, .ref a), (6, .ref a), (5, .int 0), (0, .ref h0), (1, .int o), (2, .int x), (3, .int y), (4, .int z)]) hx hb dX11_join_43 hl (by decide) rfl (fun ls5535 hl' => ?_)
      clear hl
      have hl : lv_has ls5535 9 [(7, .ref a), (6, .ref a), (5, .int 0), (0, .ref h0), (1, .int o), (2, .int x), (3, .int y), (4, .int z)] := hl'
      clear hl'
      refine lv_aload_n hx hb dX11_join_45 rfl (lv_at hl 3 rfl) ?_
      refine lv_iload hx hb dX11_join_46 (lv_at hl 7 rfl) ?_
      show W p l e _ s m _ below meth c _ _ _ _ QQ (F0 m 48 ls5535 [.int z, .ref h0])
      refine zro_q hS hA (va_runV (As := [.int z]) (rest := []) ⟨hx, hb, hml, hown, hall⟩ (c_X11_slotAt l dC dI aC h0 b z s.heap.size) (cwV 1 hall (zgV zw_225 zw_227 zw_228 zw_802 g_X11_slotAt rfl) rfl rfl rfl (by decide +kernel) ⟨Nat.le_of_ble_eq_true rfl, Nat.le_of_ble_eq_true rfl⟩) (zPre_V (As := [.int z]) hK hP hD [0, 1] rfl (by decide +kernel) (ci := 10) (q0 := 0) rfl rfl) rfl rfl hl.1 rfl (lv_room (Nat.le_of_ble_eq_true rfl)) dX11_join_48 ⟨Nat.le_of_ble_eq_true rfl, Nat.le_of_ble_eq_true rfl⟩) (fun r5536 L5537 hw hS' => ?_)
      clear hS
      have hS := hS'
      clear hS'
      rcases r5536 with _ | q5538
      · have z5539 : ¬ zok z = true := zslot_n hw
        clear hw
        show W p l e _ s m _ below meth c _ _ _ _ QQ (F0 m 51 ls5535 [.null])
        refine lv_astoreN (lv' := [(8, .null), (7, .ref a), (6, .ref a), (5, .int 0), (0, .ref h0), (1, .int o), (2, .int x), (3, .int y), (4, .int z)]) hx hb dX11_join_51 hl (by decide) rfl (fun ls5540 hl' => ?_)
        clear hl
        have hl : lv_has ls5540 9 [(8, .null), (7, .ref a), (6, .ref a), (5, .int 0), (0, .ref h0), (1, .int o), (2, .int x), (3, .int y), (4, .int z)] := hl'
        clear hl'
        refine lv_aload hx hb dX11_join_53 (lv_at hl 2 rfl) ?_
        refine lv_ifnull hx hb dX11_join_55 ?_
        refine lv_aload hx hb dX11_join_58 (lv_at hl 1 rfl) ?_
        refine lv_ifnull hx hb dX11_join_60 ?_
        show W p l e _ s m _ below meth c _ _ _ _ QQ (F0 m 63 ls5540 [])
        refine lv_aloadN hx hb dX11_join_63 (lv_at hl 0 rfl) ?_
        refine lv_ifnonnullN hx hb dX11_join_65 ?_
        refine lv_iconst (v := (-1)) hx hb dX11_join_68 (by decide) ?_
        rw [← hQ]
        exact W.iret (v := (-1)) hx hb hr (fun zt ht hW => ⟨⟨(-1), (), rfl, by simp [zjoin, zwork, zface1, c_1_b5528, c_30_b5534, z5539], (show zt.heap.size = s.heap.size by rw [ht])⟩, hS.F ht⟩) hS.2.2 dX11_join_69
      · have z5539 : zok z = true := zslot_s hw
        clear hw
        show W p l e _ s m _ below meth c _ _ _ _ QQ (F0 m 51 ls5535 [.ref q5538])
        refine lv_astore (lv' := [(8, .ref q5538), (7, .ref a), (6, .ref a), (5, .int 0), (0, .ref h0), (1, .int o), (2, .int x), (3, .int y), (4, .int z)]) hx hb dX11_join_51 hl (by decide) rfl (fun ls5541 hl' => ?_)
        clear hl
        have hl : lv_has ls5541 9 [(8, .ref q5538), (7, .ref a), (6, .ref a), (5, .int 0), (0, .ref h0), (1, .int o), (2, .int x), (3, .int y), (4, .int z)] := hl'
        clear hl'
        refine lv_aload hx hb dX11_join_53 (lv_at hl 2 rfl) ?_
        refine lv_ifnull hx hb dX11_join_55 ?_
        refine lv_aload hx hb dX11_join_58 (lv_at hl 1 rfl) ?_
        refine lv_ifnull hx hb dX11_join_60 ?_
        show W p l e _ s m _ below meth c _ _ _ _ QQ (F0 m 63 ls5541 [])
        refine lv_aload hx hb dX11_join_63 (lv_at hl 0 rfl) ?_
        refine lv_ifnonnull (tgt := 70) hx hb dX11_join_65 (by decide) ?_
        refine lv_aload hx hb dX11_join_70 (lv_at hl 2 rfl) ?_
        refine va_get (D := (dC, dI)) (ci := 5) (v := .int 0) (C := RX6) (T := TX6) (N := 12) hx hb hall zx_6 hown hK.1 hP 2 rfl rfl 0 (by decide) (hall _ zw_212) (fun _ h9 => h9) rfl dX11_join_72 ?_
        refine lv_iconst (v := 4) hx hb dX11_join_75 (by decide) ?_
        refine lv_icmp_ne (tgt := 106) hx hb dX11_join_76 (by decide) (fun _ => ?_) (fun c_76_b5542 => absurd c_76_b5542 (by decide))
        show W p l e _ s m _ below meth c _ _ _ _ QQ (F0 m 106 ls5541 [])
        refine lv_bipush (v := (-3)) hx hb dX11_join_106 (by decide) ?_
        rw [← hQ]
        exact W.iret (v := (-3)) hx hb hr (fun zt ht hW => ⟨⟨(-3), (), rfl, by simp [zjoin, zwork, zface1, c_1_b5528, c_30_b5534, z5539], (show zt.heap.size = s.heap.size by rw [ht])⟩, hS.F ht⟩) hS.2.2 dX11_join_108
    · refine lv_aload_n hx hb dX11_join_33 rfl (lv_at hl 2 rfl) ?_
      refine lv_iload_n hx hb dX11_join_34 rfl (lv_at hl 5 rfl) ?_
      refine zro_q hS hA (va_runV (As := [.int y]) (rest := []) ⟨hx, hb, hml, hown, hall⟩ (c_X11_slotAt l dC dI aC h0 b y s.heap.size) (cwV 1 hall (zgV zw_225 zw_227 zw_228 zw_802 g_X11_slotAt rfl) rfl rfl rfl (by decide +kernel) ⟨Nat.le_of_ble_eq_true rfl, Nat.le_of_ble_eq_true rfl⟩) (zPre_V (As := [.int y]) hK hP hD [0, 1] rfl (by decide +kernel) (ci := 10) (q0 := 0) rfl rfl) rfl rfl hl.1 rfl (lv_room (Nat.le_of_ble_eq_true rfl)) dX11_join_35 ⟨Nat.le_of_ble_eq_true rfl, Nat.le_of_ble_eq_true rfl⟩) (fun r5543 L5544 hw hS' => ?_)
      clear hS
      have hS := hS'
      clear hS'
      rcases r5543 with _ | q5545
      · have z5546 : ¬ zok y = true := zslot_n hw
        clear hw
        show W p l e _ s m _ below meth c _ _ _ _ QQ (F0 m 38 ls5532 [.null])
        refine lv_goto (tgt := 43) hx hb dX11_join_38 (by decide) ?_
        refine lv_astoreN (lv' := [(7, .null), (6, .ref a), (5, .int 0), (0, .ref h0), (1, .int o), (2, .int x), (3, .int y), (4, .int z)]) hx hb dX11_join_43 hl (by decide) rfl (fun ls5547 hl' => ?_)
        clear hl
        have hl : lv_has ls5547 9 [(7, .null), (6, .ref a), (5, .int 0), (0, .ref h0), (1, .int o), (2, .int x), (3, .int y), (4, .int z)] := hl'
        clear hl'
        refine lv_aload_n hx hb dX11_join_45 rfl (lv_at hl 3 rfl) ?_
        refine lv_iload hx hb dX11_join_46 (lv_at hl 7 rfl) ?_
        refine zro_q hS hA (va_runV (As := [.int z]) (rest := []) ⟨hx, hb, hml, hown, hall⟩ (c_X11_slotAt l dC dI aC h0 b z s.heap.size) (cwV 1 hall (zgV zw_225 zw_227 zw_228 zw_802 g_X11_slotAt rfl) rfl rfl rfl (by decide +kernel) ⟨Nat.le_of_ble_eq_true rfl, Nat.le_of_ble_eq_true rfl⟩) (zPre_V (As := [.int z]) hK hP hD [0, 1] rfl (by decide +kernel) (ci := 10) (q0 := 0) rfl rfl) rfl rfl hl.1 rfl (lv_room (Nat.le_of_ble_eq_true rfl)) dX11_join_48 ⟨Nat.le_of_ble_eq_true rfl, Nat.le_of_ble_eq_true rfl⟩) (fun r5548 L5549 hw hS' => ?_)
        clear hS
        have hS := hS'
        clear hS'
        rcases r5548 with _ | q5550
        · have z5551 : ¬ zok z = true := zslot_n hw
          clear hw
          show W p l e _ s m _ below meth c _ _ _ _ QQ (F0 m 51 ls5547 [.null])
          refine lv_astoreN (lv' := [(8, .null), (7, .null), (6, .ref a), (5, .int 0), (0, .ref h0), (1, .int o), (2, .int x), (3, .int y), (4, .int z)]) hx hb dX11_join_51 hl (by decide) rfl (fun ls5552 hl' => ?_)
          clear hl
          have hl : lv_has ls5552 9 [(8, .null), (7, .null), (6, .ref a), (5, .int 0), (0, .ref h0), (1, .int o), (2, .int x), (3, .int y), (4, .int z)] := hl'
          clear hl'
          refine lv_aload hx hb dX11_join_53 (lv_at hl 2 rfl) ?_
          refine lv_ifnull hx hb dX11_join_55 ?_
          refine lv_aloadN hx hb dX11_join_58 (lv_at hl 1 rfl) ?_
          refine lv_ifnullN (tgt := 68) hx hb dX11_join_60 (by decide) ?_
          show W p l e _ s m _ below meth c _ _ _ _ QQ (F0 m 68 ls5552 [])
          refine lv_iconst (v := (-1)) hx hb dX11_join_68 (by decide) ?_
          rw [← hQ]
          exact W.iret (v := (-1)) hx hb hr (fun zt ht hW => ⟨⟨(-1), (), rfl, by simp [zjoin, zwork, zface1, c_1_b5528, c_30_b5534, z5546, z5551], (show zt.heap.size = s.heap.size by rw [ht])⟩, hS.F ht⟩) hS.2.2 dX11_join_69
        · have z5551 : zok z = true := zslot_s hw
          clear hw
          show W p l e _ s m _ below meth c _ _ _ _ QQ (F0 m 51 ls5547 [.ref q5550])
          refine lv_astore (lv' := [(8, .ref q5550), (7, .null), (6, .ref a), (5, .int 0), (0, .ref h0), (1, .int o), (2, .int x), (3, .int y), (4, .int z)]) hx hb dX11_join_51 hl (by decide) rfl (fun ls5553 hl' => ?_)
          clear hl
          have hl : lv_has ls5553 9 [(8, .ref q5550), (7, .null), (6, .ref a), (5, .int 0), (0, .ref h0), (1, .int o), (2, .int x), (3, .int y), (4, .int z)] := hl'
          clear hl'
          refine lv_aload hx hb dX11_join_53 (lv_at hl 2 rfl) ?_
          refine lv_ifnull hx hb dX11_join_55 ?_
          refine lv_aloadN hx hb dX11_join_58 (lv_at hl 1 rfl) ?_
          refine lv_ifnullN (tgt := 68) hx hb dX11_join_60 (by decide) ?_
          show W p l e _ s m _ below meth c _ _ _ _ QQ (F0 m 68 ls5553 [])
          refine lv_iconst (v := (-1)) hx hb dX11_join_68 (by decide) ?_
          rw [← hQ]
          exact W.iret (v := (-1)) hx hb hr (fun zt ht hW => ⟨⟨(-1), (), rfl, by simp [zjoin, zwork, zface1, c_1_b5528, c_30_b5534, z5546, z5551], (show zt.heap.size = s.heap.size by rw [ht])⟩, hS.F ht⟩) hS.2.2 dX11_join_69
      · have z5546 : zok y = true := zslot_s hw
        clear hw
        show W p l e _ s m _ below meth c _ _ _ _ QQ (F0 m 38 ls5532 [.ref q5545])
        refine lv_goto (tgt := 43) hx hb dX11_join_38 (by decide) ?_
        refine lv_astore (lv' := [(7, .ref q5545), (6, .ref a), (5, .int 0), (0, .ref h0), (1, .int o), (2, .int x), (3, .int y), (4, .int z)]) hx hb dX11_join_43 hl (by decide) rfl (fun ls5554 hl' => ?_)
        clear hl
        have hl : lv_has ls5554 9 [(7, .ref q5545), (6, .ref a), (5, .int 0), (0, .ref h0), (1, .int o), (2, .int x), (3, .int y), (4, .int z)] := hl'
        clear hl'
        refine lv_aload_n hx hb dX11_join_45 rfl (lv_at hl 3 rfl) ?_
        refine lv_iload hx hb dX11_join_46 (lv_at hl 7 rfl) ?_
        refine zro_q hS hA (va_runV (As := [.int z]) (rest := []) ⟨hx, hb, hml, hown, hall⟩ (c_X11_slotAt l dC dI aC h0 b z s.heap.size) (cwV 1 hall (zgV zw_225 zw_227 zw_228 zw_802 g_X11_slotAt rfl) rfl rfl rfl (by decide +kernel) ⟨Nat.le_of_ble_eq_true rfl, Nat.le_of_ble_eq_true rfl⟩) (zPre_V (As := [.int z]) hK hP hD [0, 1] rfl (by decide +kernel) (ci := 10) (q0 := 0) rfl rfl) rfl rfl hl.1 rfl (lv_room (Nat.le_of_ble_eq_true rfl)) dX11_join_48 ⟨Nat.le_of_ble_eq_true rfl, Nat.le_of_ble_eq_true rfl⟩) (fun r5555 L5556 hw hS' => ?_)
        clear hS
        have hS := hS'
        clear hS'
        rcases r5555 with _ | q5557
        · have z5558 : ¬ zok z = true := zslot_n hw
          clear hw
          show W p l e _ s m _ below meth c _ _ _ _ QQ (F0 m 51 ls5554 [.null])
          refine lv_astoreN (lv' := [(8, .null), (7, .ref q5545), (6, .ref a), (5, .int 0), (0, .ref h0), (1, .int o), (2, .int x), (3, .int y), (4, .int z)]) hx hb dX11_join_51 hl (by decide) rfl (fun ls5559 hl' => ?_)
          clear hl
          have hl : lv_has ls5559 9 [(8, .null), (7, .ref q5545), (6, .ref a), (5, .int 0), (0, .ref h0), (1, .int o), (2, .int x), (3, .int y), (4, .int z)] := hl'
          clear hl'
          refine lv_aload hx hb dX11_join_53 (lv_at hl 2 rfl) ?_
          refine lv_ifnull hx hb dX11_join_55 ?_
          refine lv_aload hx hb dX11_join_58 (lv_at hl 1 rfl) ?_
          refine lv_ifnull hx hb dX11_join_60 ?_
          show W p l e _ s m _ below meth c _ _ _ _ QQ (F0 m 63 ls5559 [])
          refine lv_aloadN hx hb dX11_join_63 (lv_at hl 0 rfl) ?_
          refine lv_ifnonnullN hx hb dX11_join_65 ?_
          refine lv_iconst (v := (-1)) hx hb dX11_join_68 (by decide) ?_
          rw [← hQ]
          exact W.iret (v := (-1)) hx hb hr (fun zt ht hW => ⟨⟨(-1), (), rfl, by simp [zjoin, zwork, zface1, c_1_b5528, c_30_b5534, z5546, z5558], (show zt.heap.size = s.heap.size by rw [ht])⟩, hS.F ht⟩) hS.2.2 dX11_join_69
        · have z5558 : zok z = true := zslot_s hw
          clear hw
          show W p l e _ s m _ below meth c _ _ _ _ QQ (F0 m 51 ls5554 [.ref q5557])
          refine lv_astore (lv' := [(8, .ref q5557), (7, .ref q5545), (6, .ref a), (5, .int 0), (0, .ref h0), (1, .int o), (2, .int x), (3, .int y), (4, .int z)]) hx hb dX11_join_51 hl (by decide) rfl (fun ls5560 hl' => ?_)
          clear hl
          have hl : lv_has ls5560 9 [(8, .ref q5557), (7, .ref q5545), (6, .ref a), (5, .int 0), (0, .ref h0), (1, .int o), (2, .int x), (3, .int y), (4, .int z)] := hl'
          clear hl'
          refine lv_aload hx hb dX11_join_53 (lv_at hl 2 rfl) ?_
          refine lv_ifnull hx hb dX11_join_55 ?_
          refine lv_aload hx hb dX11_join_58 (lv_at hl 1 rfl) ?_
          refine lv_ifnull hx hb dX11_join_60 ?_
          show W p l e _ s m _ below meth c _ _ _ _ QQ (F0 m 63 ls5560 [])
          refine lv_aload hx hb dX11_join_63 (lv_at hl 0 rfl) ?_
          refine lv_ifnonnull (tgt := 70) hx hb dX11_join_65 (by decide) ?_
          refine lv_aload hx hb dX11_join_70 (lv_at hl 2 rfl) ?_
          refine va_get (D := (dC, dI)) (ci := 5) (v := .int 0) (C := RX6) (T := TX6) (N := 12) hx hb hall zx_6 hown hK.1 hP 2 rfl rfl 0 (by decide) (hall _ zw_212) (fun _ h9 => h9) rfl dX11_join_72 ?_
          refine lv_iconst (v := 4) hx hb dX11_join_75 (by decide) ?_
          refine lv_icmp_ne (tgt := 106) hx hb dX11_join_76 (by decide) (fun _ => ?_) (fun c_76_b5561 => absurd c_76_b5561 (by decide))
          show W p l e _ s m _ below meth c _ _ _ _ QQ (F0 m 106 ls5560 [])
          refine lv_bipush (v := (-3)) hx hb dX11_join_106 (by decide) ?_
          rw [← hQ]
          exact W.iret (v := (-3)) hx hb hr (fun zt ht hW => ⟨⟨(-3), (), rfl, by simp [zjoin, zwork, zface1, c_1_b5528, c_30_b5534, z5546, z5558], (show zt.heap.size = s.heap.size by rw [ht])⟩, hS.F ht⟩) hS.2.2 dX11_join_108
  · refine lv_iload_n hx hb dX11_join_4 rfl (lv_at hl 1 rfl) ?_
    refine lv_iconst (v := 2) hx hb dX11_join_5 (by decide) ?_
    refine lv_icmp_gt (tgt := 13) hx hb dX11_join_6 (by decide) (fun c_6_b5562 => ?_) (fun c_6_b5562 => ?_)
    · refine lv_iconst (v := 0) hx hb dX11_join_13 (by decide) ?_
      refine lv_istore (lv' := [(5, .int 0), (0, .ref h0), (1, .int o), (2, .int x), (3, .int y), (4, .int z)]) hx hb dX11_join_14 hl (by decide) rfl (fun ls5563 hl' => ?_)
      clear hl
      have hl : lv_has ls5563 9 [(5, .int 0), (0, .ref h0), (1, .int o), (2, .int x), (3, .int y), (4, .int z)] := hl'
      clear hl'
      show W p l e _ s m _ below meth c _ _ _ _ QQ (F0 m 16 ls5563 [])
      refine lv_aload_n hx hb dX11_join_16 rfl (lv_at hl 1 rfl) ?_
      refine lv_iload_n hx hb dX11_join_17 rfl (lv_at hl 3 rfl) ?_
      refine zro_q hS hA (va_runV (As := [.int x]) (rest := []) ⟨hx, hb, hml, hown, hall⟩ (c_X11_slotAt l dC dI aC h0 b x s.heap.size) (cwV 1 hall (zgV zw_225 zw_227 zw_228 zw_802 g_X11_slotAt rfl) rfl rfl rfl (by decide +kernel) ⟨Nat.le_of_ble_eq_true rfl, Nat.le_of_ble_eq_true rfl⟩) (zPre_V (As := [.int x]) hK hP hD [0, 1] rfl (by decide +kernel) (ci := 10) (q0 := 0) rfl rfl) rfl rfl hl.1 rfl (lv_room (Nat.le_of_ble_eq_true rfl)) dX11_join_18 ⟨Nat.le_of_ble_eq_true rfl, Nat.le_of_ble_eq_true rfl⟩) (fun r5564 L5565 hw hS' => ?_)
      clear hS
      have hS := hS'
      clear hS'
      obtain rfl : r5564 = some a := hw.trans hxm
      try clear hw
      refine lv_astore (lv' := [(6, .ref a), (5, .int 0), (0, .ref h0), (1, .int o), (2, .int x), (3, .int y), (4, .int z)]) hx hb dX11_join_21 hl (by decide) rfl (fun ls5566 hl' => ?_)
      clear hl
      have hl : lv_has ls5566 9 [(6, .ref a), (5, .int 0), (0, .ref h0), (1, .int o), (2, .int x), (3, .int y), (4, .int z)] := hl'
      clear hl'
      refine lv_iload hx hb dX11_join_23 (lv_at hl 1 rfl) ?_
      refine lv_if_ne (tgt := 33) hx hb dX11_join_25 (by decide) (fun c_25_b5567 => absurd (by decide) c_25_b5567) (fun _ => ?_)
      show W p l e _ s m _ below meth c _ _ _ _ QQ (F0 m 28 ls5566 [])
      refine lv_iload_n hx hb dX11_join_28 rfl (lv_at hl 3 rfl) ?_
      refine lv_iconst (v := 5) hx hb dX11_join_29 (by decide) ?_
      refine lv_icmp_ne (tgt := 41) hx hb dX11_join_30 (by decide) (fun c_30_b5568 => ?_) (fun c_30_b5568 => ?_)
      · refine lv_aload hx hb dX11_join_41 (lv_at hl 0 rfl) ?_
        refine lv_astore (lv' := [(7, .ref a), (6, .ref a), (5, .int 0), (0, .ref h0), (1, .int o), (2, .int x), (3, .int y), (4, .int z)]) hx hb dX11_join_43 hl (by decide) rfl (fun ls5569 hl' => ?_)
        clear hl
        have hl : lv_has ls5569 9 [(7, .ref a), (6, .ref a), (5, .int 0), (0, .ref h0), (1, .int o), (2, .int x), (3, .int y), (4, .int z)] := hl'
        clear hl'
        refine lv_aload_n hx hb dX11_join_45 rfl (lv_at hl 3 rfl) ?_
        show W p l e _ s m _ below meth c _ _ _ _ QQ (F0 m 46 ls5569 [.ref h0])
        refine lv_iload hx hb dX11_join_46 (lv_at hl 7 rfl) ?_
        refine zro_q hS hA (va_runV (As := [.int z]) (rest := []) ⟨hx, hb, hml, hown, hall⟩ (c_X11_slotAt l dC dI aC h0 b z s.heap.size) (cwV 1 hall (zgV zw_225 zw_227 zw_228 zw_802 g_X11_slotAt rfl) rfl rfl rfl (by decide +kernel) ⟨Nat.le_of_ble_eq_true rfl, Nat.le_of_ble_eq_true rfl⟩) (zPre_V (As := [.int z]) hK hP hD [0, 1] rfl (by decide +kernel) (ci := 10) (q0 := 0) rfl rfl) rfl rfl hl.1 rfl (lv_room (Nat.le_of_ble_eq_true rfl)) dX11_join_48 ⟨Nat.le_of_ble_eq_true rfl, Nat.le_of_ble_eq_true rfl⟩) (fun r5570 L5571 hw hS' => ?_)
        clear hS
        have hS := hS'
        clear hS'
        rcases r5570 with _ | q5572
        · have z5573 : ¬ zok z = true := zslot_n hw
          clear hw
          show W p l e _ s m _ below meth c _ _ _ _ QQ (F0 m 51 ls5569 [.null])
          refine lv_astoreN (lv' := [(8, .null), (7, .ref a), (6, .ref a), (5, .int 0), (0, .ref h0), (1, .int o), (2, .int x), (3, .int y), (4, .int z)]) hx hb dX11_join_51 hl (by decide) rfl (fun ls5574 hl' => ?_)
          clear hl
          have hl : lv_has ls5574 9 [(8, .null), (7, .ref a), (6, .ref a), (5, .int 0), (0, .ref h0), (1, .int o), (2, .int x), (3, .int y), (4, .int z)] := hl'
          clear hl'
          refine lv_aload hx hb dX11_join_53 (lv_at hl 2 rfl) ?_
          refine lv_ifnull hx hb dX11_join_55 ?_
          refine lv_aload hx hb dX11_join_58 (lv_at hl 1 rfl) ?_
          refine lv_ifnull hx hb dX11_join_60 ?_
          show W p l e _ s m _ below meth c _ _ _ _ QQ (F0 m 63 ls5574 [])
          refine lv_aloadN hx hb dX11_join_63 (lv_at hl 0 rfl) ?_
          refine lv_ifnonnullN hx hb dX11_join_65 ?_
          refine lv_iconst (v := (-1)) hx hb dX11_join_68 (by decide) ?_
          rw [← hQ]
          exact W.iret (v := (-1)) hx hb hr (fun zt ht hW => ⟨⟨(-1), (), rfl, by simp [zjoin, zwork, zface1, c_1_b5528, c_6_b5562, c_30_b5568, z5573], (show zt.heap.size = s.heap.size by rw [ht])⟩, hS.F ht⟩) hS.2.2 dX11_join_69
        · have z5573 : zok z = true := zslot_s hw
          clear hw
          show W p l e _ s m _ below meth c _ _ _ _ QQ (F0 m 51 ls5569 [.ref q5572])
          refine lv_astore (lv' := [(8, .ref q5572), (7, .ref a), (6, .ref a), (5, .int 0), (0, .ref h0), (1, .int o), (2, .int x), (3, .int y), (4, .int z)]) hx hb dX11_join_51 hl (by decide) rfl (fun ls5575 hl' => ?_)
          clear hl
          have hl : lv_has ls5575 9 [(8, .ref q5572), (7, .ref a), (6, .ref a), (5, .int 0), (0, .ref h0), (1, .int o), (2, .int x), (3, .int y), (4, .int z)] := hl'
          clear hl'
          refine lv_aload hx hb dX11_join_53 (lv_at hl 2 rfl) ?_
          refine lv_ifnull hx hb dX11_join_55 ?_
          refine lv_aload hx hb dX11_join_58 (lv_at hl 1 rfl) ?_
          refine lv_ifnull hx hb dX11_join_60 ?_
          show W p l e _ s m _ below meth c _ _ _ _ QQ (F0 m 63 ls5575 [])
          refine lv_aload hx hb dX11_join_63 (lv_at hl 0 rfl) ?_
          refine lv_ifnonnull (tgt := 70) hx hb dX11_join_65 (by decide) ?_
          refine lv_aload hx hb dX11_join_70 (lv_at hl 2 rfl) ?_
          refine va_get (D := (dC, dI)) (ci := 5) (v := .int 0) (C := RX6) (T := TX6) (N := 12) hx hb hall zx_6 hown hK.1 hP 2 rfl rfl 0 (by decide) (hall _ zw_212) (fun _ h9 => h9) rfl dX11_join_72 ?_
          refine lv_iconst (v := 4) hx hb dX11_join_75 (by decide) ?_
          refine lv_icmp_ne (tgt := 106) hx hb dX11_join_76 (by decide) (fun _ => ?_) (fun c_76_b5576 => absurd c_76_b5576 (by decide))
          show W p l e _ s m _ below meth c _ _ _ _ QQ (F0 m 106 ls5575 [])
          refine lv_bipush (v := (-3)) hx hb dX11_join_106 (by decide) ?_
          rw [← hQ]
          exact W.iret (v := (-3)) hx hb hr (fun zt ht hW => ⟨⟨(-3), (), rfl, by simp [zjoin, zwork, zface1, c_1_b5528, c_6_b5562, c_30_b5568, z5573], (show zt.heap.size = s.heap.size by rw [ht])⟩, hS.F ht⟩) hS.2.2 dX11_join_108
      · refine lv_aload_n hx hb dX11_join_33 rfl (lv_at hl 2 rfl) ?_
        refine lv_iload_n hx hb dX11_join_34 rfl (lv_at hl 5 rfl) ?_
        refine zro_q hS hA (va_runV (As := [.int y]) (rest := []) ⟨hx, hb, hml, hown, hall⟩ (c_X11_slotAt l dC dI aC h0 b y s.heap.size) (cwV 1 hall (zgV zw_225 zw_227 zw_228 zw_802 g_X11_slotAt rfl) rfl rfl rfl (by decide +kernel) ⟨Nat.le_of_ble_eq_true rfl, Nat.le_of_ble_eq_true rfl⟩) (zPre_V (As := [.int y]) hK hP hD [0, 1] rfl (by decide +kernel) (ci := 10) (q0 := 0) rfl rfl) rfl rfl hl.1 rfl (lv_room (Nat.le_of_ble_eq_true rfl)) dX11_join_35 ⟨Nat.le_of_ble_eq_true rfl, Nat.le_of_ble_eq_true rfl⟩) (fun r5577 L5578 hw hS' => ?_)
        clear hS
        have hS := hS'
        clear hS'
        rcases r5577 with _ | q5579
        · have z5580 : ¬ zok y = true := zslot_n hw
          clear hw
          show W p l e _ s m _ below meth c _ _ _ _ QQ (F0 m 38 ls5566 [.null])
          refine lv_goto (tgt := 43) hx hb dX11_join_38 (by decide) ?_
          refine lv_astoreN (lv' := [(7, .null), (6, .ref a), (5, .int 0), (0, .ref h0), (1, .int o), (2, .int x), (3, .int y), (4, .int z)]) hx hb dX11_join_43 hl (by decide) rfl (fun ls5581 hl' => ?_)
          clear hl
          have hl : lv_has ls5581 9 [(7, .null), (6, .ref a), (5, .int 0), (0, .ref h0), (1, .int o), (2, .int x), (3, .int y), (4, .int z)] := hl'
          clear hl'
          refine lv_aload_n hx hb dX11_join_45 rfl (lv_at hl 3 rfl) ?_
          refine lv_iload hx hb dX11_join_46 (lv_at hl 7 rfl) ?_
          refine zro_q hS hA (va_runV (As := [.int z]) (rest := []) ⟨hx, hb, hml, hown, hall⟩ (c_X11_slotAt l dC dI aC h0 b z s.heap.size) (cwV 1 hall (zgV zw_225 zw_227 zw_228 zw_802 g_X11_slotAt rfl) rfl rfl rfl (by decide +kernel) ⟨Nat.le_of_ble_eq_true rfl, Nat.le_of_ble_eq_true rfl⟩) (zPre_V (As := [.int z]) hK hP hD [0, 1] rfl (by decide +kernel) (ci := 10) (q0 := 0) rfl rfl) rfl rfl hl.1 rfl (lv_room (Nat.le_of_ble_eq_true rfl)) dX11_join_48 ⟨Nat.le_of_ble_eq_true rfl, Nat.le_of_ble_eq_true rfl⟩) (fun r5582 L5583 hw hS' => ?_)
          clear hS
          have hS := hS'
          clear hS'
          rcases r5582 with _ | q5584
          · have z5585 : ¬ zok z = true := zslot_n hw
            clear hw
            show W p l e _ s m _ below meth c _ _ _ _ QQ (F0 m 51 ls5581 [.null])
            refine lv_astoreN (lv' := [(8, .null), (7, .null), (6, .ref a), (5, .int 0), (0, .ref h0), (1, .int o), (2, .int x), (3, .int y), (4, .int z)]) hx hb dX11_join_51 hl (by decide) rfl (fun ls5586 hl' => ?_)
            clear hl
            have hl : lv_has ls5586 9 [(8, .null), (7, .null), (6, .ref a), (5, .int 0), (0, .ref h0), (1, .int o), (2, .int x), (3, .int y), (4, .int z)] := hl'
            clear hl'
            refine lv_aload hx hb dX11_join_53 (lv_at hl 2 rfl) ?_
            refine lv_ifnull hx hb dX11_join_55 ?_
            refine lv_aloadN hx hb dX11_join_58 (lv_at hl 1 rfl) ?_
            refine lv_ifnullN (tgt := 68) hx hb dX11_join_60 (by decide) ?_
            show W p l e _ s m _ below meth c _ _ _ _ QQ (F0 m 68 ls5586 [])
            refine lv_iconst (v := (-1)) hx hb dX11_join_68 (by decide) ?_
            rw [← hQ]
            exact W.iret (v := (-1)) hx hb hr (fun zt ht hW => ⟨⟨(-1), (), rfl, by simp [zjoin, zwork, zface1, c_1_b5528, c_6_b5562, c_30_b5568, z5580, z5585], (show zt.heap.size = s.heap.size by rw [ht])⟩, hS.F ht⟩) hS.2.2 dX11_join_69
          · have z5585 : zok z = true := zslot_s hw
            clear hw
            show W p l e _ s m _ below meth c _ _ _ _ QQ (F0 m 51 ls5581 [.ref q5584])
            refine lv_astore (lv' := [(8, .ref q5584), (7, .null), (6, .ref a), (5, .int 0), (0, .ref h0), (1, .int o), (2, .int x), (3, .int y), (4, .int z)]) hx hb dX11_join_51 hl (by decide) rfl (fun ls5587 hl' => ?_)
            clear hl
            have hl : lv_has ls5587 9 [(8, .ref q5584), (7, .null), (6, .ref a), (5, .int 0), (0, .ref h0), (1, .int o), (2, .int x), (3, .int y), (4, .int z)] := hl'
            clear hl'
            refine lv_aload hx hb dX11_join_53 (lv_at hl 2 rfl) ?_
            refine lv_ifnull hx hb dX11_join_55 ?_
            refine lv_aloadN hx hb dX11_join_58 (lv_at hl 1 rfl) ?_
            refine lv_ifnullN (tgt := 68) hx hb dX11_join_60 (by decide) ?_
            show W p l e _ s m _ below meth c _ _ _ _ QQ (F0 m 68 ls5587 [])
            refine lv_iconst (v := (-1)) hx hb dX11_join_68 (by decide) ?_
            rw [← hQ]
            exact W.iret (v := (-1)) hx hb hr (fun zt ht hW => ⟨⟨(-1), (), rfl, by simp [zjoin, zwork, zface1, c_1_b5528, c_6_b5562, c_30_b5568, z5580, z5585], (show zt.heap.size = s.heap.size by rw [ht])⟩, hS.F ht⟩) hS.2.2 dX11_join_69
        · have z5580 : zok y = true := zslot_s hw
          clear hw
          show W p l e _ s m _ below meth c _ _ _ _ QQ (F0 m 38 ls5566 [.ref q5579])
          refine lv_goto (tgt := 43) hx hb dX11_join_38 (by decide) ?_
          refine lv_astore (lv' := [(7, .ref q5579), (6, .ref a), (5, .int 0), (0, .ref h0), (1, .int o), (2, .int x), (3, .int y), (4, .int z)]) hx hb dX11_join_43 hl (by decide) rfl (fun ls5588 hl' => ?_)
          clear hl
          have hl : lv_has ls5588 9 [(7, .ref q5579), (6, .ref a), (5, .int 0), (0, .ref h0), (1, .int o), (2, .int x), (3, .int y), (4, .int z)] := hl'
          clear hl'
          refine lv_aload_n hx hb dX11_join_45 rfl (lv_at hl 3 rfl) ?_
          refine lv_iload hx hb dX11_join_46 (lv_at hl 7 rfl) ?_
          refine zro_q hS hA (va_runV (As := [.int z]) (rest := []) ⟨hx, hb, hml, hown, hall⟩ (c_X11_slotAt l dC dI aC h0 b z s.heap.size) (cwV 1 hall (zgV zw_225 zw_227 zw_228 zw_802 g_X11_slotAt rfl) rfl rfl rfl (by decide +kernel) ⟨Nat.le_of_ble_eq_true rfl, Nat.le_of_ble_eq_true rfl⟩) (zPre_V (As := [.int z]) hK hP hD [0, 1] rfl (by decide +kernel) (ci := 10) (q0 := 0) rfl rfl) rfl rfl hl.1 rfl (lv_room (Nat.le_of_ble_eq_true rfl)) dX11_join_48 ⟨Nat.le_of_ble_eq_true rfl, Nat.le_of_ble_eq_true rfl⟩) (fun r5589 L5590 hw hS' => ?_)
          clear hS
          have hS := hS'
          clear hS'
          rcases r5589 with _ | q5591
          · have z5592 : ¬ zok z = true := zslot_n hw
            clear hw
            show W p l e _ s m _ below meth c _ _ _ _ QQ (F0 m 51 ls5588 [.null])
            refine lv_astoreN (lv' := [(8, .null), (7, .ref q5579), (6, .ref a), (5, .int 0), (0, .ref h0), (1, .int o), (2, .int x), (3, .int y), (4, .int z)]) hx hb dX11_join_51 hl (by decide) rfl (fun ls5593 hl' => ?_)
            clear hl
            have hl : lv_has ls5593 9 [(8, .null), (7, .ref q5579), (6, .ref a), (5, .int 0), (0, .ref h0), (1, .int o), (2, .int x), (3, .int y), (4, .int z)] := hl'
            clear hl'
            refine lv_aload hx hb dX11_join_53 (lv_at hl 2 rfl) ?_
            refine lv_ifnull hx hb dX11_join_55 ?_
            refine lv_aload hx hb dX11_join_58 (lv_at hl 1 rfl) ?_
            refine lv_ifnull hx hb dX11_join_60 ?_
            show W p l e _ s m _ below meth c _ _ _ _ QQ (F0 m 63 ls5593 [])
            refine lv_aloadN hx hb dX11_join_63 (lv_at hl 0 rfl) ?_
            refine lv_ifnonnullN hx hb dX11_join_65 ?_
            refine lv_iconst (v := (-1)) hx hb dX11_join_68 (by decide) ?_
            rw [← hQ]
            exact W.iret (v := (-1)) hx hb hr (fun zt ht hW => ⟨⟨(-1), (), rfl, by simp [zjoin, zwork, zface1, c_1_b5528, c_6_b5562, c_30_b5568, z5580, z5592], (show zt.heap.size = s.heap.size by rw [ht])⟩, hS.F ht⟩) hS.2.2 dX11_join_69
          · have z5592 : zok z = true := zslot_s hw
            clear hw
            show W p l e _ s m _ below meth c _ _ _ _ QQ (F0 m 51 ls5588 [.ref q5591])
            refine lv_astore (lv' := [(8, .ref q5591), (7, .ref q5579), (6, .ref a), (5, .int 0), (0, .ref h0), (1, .int o), (2, .int x), (3, .int y), (4, .int z)]) hx hb dX11_join_51 hl (by decide) rfl (fun ls5594 hl' => ?_)
            clear hl
            have hl : lv_has ls5594 9 [(8, .ref q5591), (7, .ref q5579), (6, .ref a), (5, .int 0), (0, .ref h0), (1, .int o), (2, .int x), (3, .int y), (4, .int z)] := hl'
            clear hl'
            refine lv_aload hx hb dX11_join_53 (lv_at hl 2 rfl) ?_
            refine lv_ifnull hx hb dX11_join_55 ?_
            refine lv_aload hx hb dX11_join_58 (lv_at hl 1 rfl) ?_
            refine lv_ifnull hx hb dX11_join_60 ?_
            show W p l e _ s m _ below meth c _ _ _ _ QQ (F0 m 63 ls5594 [])
            refine lv_aload hx hb dX11_join_63 (lv_at hl 0 rfl) ?_
            refine lv_ifnonnull (tgt := 70) hx hb dX11_join_65 (by decide) ?_
            refine lv_aload hx hb dX11_join_70 (lv_at hl 2 rfl) ?_
            refine va_get (D := (dC, dI)) (ci := 5) (v := .int 0) (C := RX6) (T := TX6) (N := 12) hx hb hall zx_6 hown hK.1 hP 2 rfl rfl 0 (by decide) (hall _ zw_212) (fun _ h9 => h9) rfl dX11_join_72 ?_
            refine lv_iconst (v := 4) hx hb dX11_join_75 (by decide) ?_
            refine lv_icmp_ne (tgt := 106) hx hb dX11_join_76 (by decide) (fun _ => ?_) (fun c_76_b5595 => absurd c_76_b5595 (by decide))
            show W p l e _ s m _ below meth c _ _ _ _ QQ (F0 m 106 ls5594 [])
            refine lv_bipush (v := (-3)) hx hb dX11_join_106 (by decide) ?_
            rw [← hQ]
            exact W.iret (v := (-3)) hx hb hr (fun zt ht hW => ⟨⟨(-3), (), rfl, by simp [zjoin, zwork, zface1, c_1_b5528, c_6_b5562, c_30_b5568, z5580, z5592], (show zt.heap.size = s.heap.size by rw [ht])⟩, hS.F ht⟩) hS.2.2 dX11_join_108
    · refine lv_iconst (v := 1) hx hb dX11_join_9 (by decide) ?_
      refine lv_goto (tgt := 14) hx hb dX11_join_10 (by decide) ?_
      show W p l e _ s m _ below meth c _ _ _ _ QQ (F0 m 14 ls [.int 1])
      refine lv_istore (lv' := [(5, .int 1), (0, .ref h0), (1, .int o), (2, .int x), (3, .int y), (4, .int z)]) hx hb dX11_join_14 hl (by decide) rfl (fun ls5596 hl' => ?_)
      clear hl
      have hl : lv_has ls5596 9 [(5, .int 1), (0, .ref h0), (1, .int o), (2, .int x), (3, .int y), (4, .int z)] := hl'
      clear hl'
      refine lv_aload_n hx hb dX11_join_16 rfl (lv_at hl 1 rfl) ?_
      refine lv_iload_n hx hb dX11_join_17 rfl (lv_at hl 3 rfl) ?_
      refine zro_q hS hA (va_runV (As := [.int x]) (rest := []) ⟨hx, hb, hml, hown, hall⟩ (c_X11_slotAt l dC dI aC h0 b x s.heap.size) (cwV 1 hall (zgV zw_225 zw_227 zw_228 zw_802 g_X11_slotAt rfl) rfl rfl rfl (by decide +kernel) ⟨Nat.le_of_ble_eq_true rfl, Nat.le_of_ble_eq_true rfl⟩) (zPre_V (As := [.int x]) hK hP hD [0, 1] rfl (by decide +kernel) (ci := 10) (q0 := 0) rfl rfl) rfl rfl hl.1 rfl (lv_room (Nat.le_of_ble_eq_true rfl)) dX11_join_18 ⟨Nat.le_of_ble_eq_true rfl, Nat.le_of_ble_eq_true rfl⟩) (fun r5597 L5598 hw hS' => ?_)
      clear hS
      have hS := hS'
      clear hS'
      obtain rfl : r5597 = some a := hw.trans hxm
      try clear hw
      refine lv_astore (lv' := [(6, .ref a), (5, .int 1), (0, .ref h0), (1, .int o), (2, .int x), (3, .int y), (4, .int z)]) hx hb dX11_join_21 hl (by decide) rfl (fun ls5599 hl' => ?_)
      clear hl
      have hl : lv_has ls5599 9 [(6, .ref a), (5, .int 1), (0, .ref h0), (1, .int o), (2, .int x), (3, .int y), (4, .int z)] := hl'
      clear hl'
      show W p l e _ s m _ below meth c _ _ _ _ QQ (F0 m 23 ls5599 [])
      refine lv_iload hx hb dX11_join_23 (lv_at hl 1 rfl) ?_
      refine lv_if_ne (tgt := 33) hx hb dX11_join_25 (by decide) (fun _ => ?_) (fun c_25_b5600 => absurd c_25_b5600 (by decide))
      refine lv_aload_n hx hb dX11_join_33 rfl (lv_at hl 2 rfl) ?_
      refine lv_iload_n hx hb dX11_join_34 rfl (lv_at hl 5 rfl) ?_
      refine zro_q hS hA (va_runV (As := [.int y]) (rest := []) ⟨hx, hb, hml, hown, hall⟩ (c_X11_slotAt l dC dI aC h0 b y s.heap.size) (cwV 1 hall (zgV zw_225 zw_227 zw_228 zw_802 g_X11_slotAt rfl) rfl rfl rfl (by decide +kernel) ⟨Nat.le_of_ble_eq_true rfl, Nat.le_of_ble_eq_true rfl⟩) (zPre_V (As := [.int y]) hK hP hD [0, 1] rfl (by decide +kernel) (ci := 10) (q0 := 0) rfl rfl) rfl rfl hl.1 rfl (lv_room (Nat.le_of_ble_eq_true rfl)) dX11_join_35 ⟨Nat.le_of_ble_eq_true rfl, Nat.le_of_ble_eq_true rfl⟩) (fun r5601 L5602 hw hS' => ?_)
      clear hS
      have hS := hS'
      clear hS'
      rcases r5601 with _ | q5603
      · have z5604 : ¬ zok y = true := zslot_n hw
        clear hw
        show W p l e _ s m _ below meth c _ _ _ _ QQ (F0 m 38 ls5599 [.null])
        refine lv_goto (tgt := 43) hx hb dX11_join_38 (by decide) ?_
        refine lv_astoreN (lv' := [(7, .null), (6, .ref a), (5, .int 1), (0, .ref h0), (1, .int o), (2, .int x), (3, .int y), (4, .int z)]) hx hb dX11_join_43 hl (by decide) rfl (fun ls5605 hl' => ?_)
        clear hl
        have hl : lv_has ls5605 9 [(7, .null), (6, .ref a), (5, .int 1), (0, .ref h0), (1, .int o), (2, .int x), (3, .int y), (4, .int z)] := hl'
        clear hl'
        refine lv_aload_n hx hb dX11_join_45 rfl (lv_at hl 3 rfl) ?_
        refine lv_iload hx hb dX11_join_46 (lv_at hl 7 rfl) ?_
        refine zro_q hS hA (va_runV (As := [.int z]) (rest := []) ⟨hx, hb, hml, hown, hall⟩ (c_X11_slotAt l dC dI aC h0 b z s.heap.size) (cwV 1 hall (zgV zw_225 zw_227 zw_228 zw_802 g_X11_slotAt rfl) rfl rfl rfl (by decide +kernel) ⟨Nat.le_of_ble_eq_true rfl, Nat.le_of_ble_eq_true rfl⟩) (zPre_V (As := [.int z]) hK hP hD [0, 1] rfl (by decide +kernel) (ci := 10) (q0 := 0) rfl rfl) rfl rfl hl.1 rfl (lv_room (Nat.le_of_ble_eq_true rfl)) dX11_join_48 ⟨Nat.le_of_ble_eq_true rfl, Nat.le_of_ble_eq_true rfl⟩) (fun r5606 L5607 hw hS' => ?_)
        clear hS
        have hS := hS'
        clear hS'
        rcases r5606 with _ | q5608
        · have z5609 : ¬ zok z = true := zslot_n hw
          clear hw
          show W p l e _ s m _ below meth c _ _ _ _ QQ (F0 m 51 ls5605 [.null])
          refine lv_astoreN (lv' := [(8, .null), (7, .null), (6, .ref a), (5, .int 1), (0, .ref h0), (1, .int o), (2, .int x), (3, .int y), (4, .int z)]) hx hb dX11_join_51 hl (by decide) rfl (fun ls5610 hl' => ?_)
          clear hl
          have hl : lv_has ls5610 9 [(8, .null), (7, .null), (6, .ref a), (5, .int 1), (0, .ref h0), (1, .int o), (2, .int x), (3, .int y), (4, .int z)] := hl'
          clear hl'
          refine lv_aload hx hb dX11_join_53 (lv_at hl 2 rfl) ?_
          refine lv_ifnull hx hb dX11_join_55 ?_
          refine lv_aloadN hx hb dX11_join_58 (lv_at hl 1 rfl) ?_
          refine lv_ifnullN (tgt := 68) hx hb dX11_join_60 (by decide) ?_
          show W p l e _ s m _ below meth c _ _ _ _ QQ (F0 m 68 ls5610 [])
          refine lv_iconst (v := (-1)) hx hb dX11_join_68 (by decide) ?_
          rw [← hQ]
          exact W.iret (v := (-1)) hx hb hr (fun zt ht hW => ⟨⟨(-1), (), rfl, by simp [zjoin, zwork, zface1, c_1_b5528, c_6_b5562, z5604, z5609], (show zt.heap.size = s.heap.size by rw [ht])⟩, hS.F ht⟩) hS.2.2 dX11_join_69
        · have z5609 : zok z = true := zslot_s hw
          clear hw
          show W p l e _ s m _ below meth c _ _ _ _ QQ (F0 m 51 ls5605 [.ref q5608])
          refine lv_astore (lv' := [(8, .ref q5608), (7, .null), (6, .ref a), (5, .int 1), (0, .ref h0), (1, .int o), (2, .int x), (3, .int y), (4, .int z)]) hx hb dX11_join_51 hl (by decide) rfl (fun ls5611 hl' => ?_)
          clear hl
          have hl : lv_has ls5611 9 [(8, .ref q5608), (7, .null), (6, .ref a), (5, .int 1), (0, .ref h0), (1, .int o), (2, .int x), (3, .int y), (4, .int z)] := hl'
          clear hl'
          refine lv_aload hx hb dX11_join_53 (lv_at hl 2 rfl) ?_
          refine lv_ifnull hx hb dX11_join_55 ?_
          refine lv_aloadN hx hb dX11_join_58 (lv_at hl 1 rfl) ?_
          refine lv_ifnullN (tgt := 68) hx hb dX11_join_60 (by decide) ?_
          show W p l e _ s m _ below meth c _ _ _ _ QQ (F0 m 68 ls5611 [])
          refine lv_iconst (v := (-1)) hx hb dX11_join_68 (by decide) ?_
          rw [← hQ]
          exact W.iret (v := (-1)) hx hb hr (fun zt ht hW => ⟨⟨(-1), (), rfl, by simp [zjoin, zwork, zface1, c_1_b5528, c_6_b5562, z5604, z5609], (show zt.heap.size = s.heap.size by rw [ht])⟩, hS.F ht⟩) hS.2.2 dX11_join_69
      · have z5604 : zok y = true := zslot_s hw
        clear hw
        show W p l e _ s m _ below meth c _ _ _ _ QQ (F0 m 38 ls5599 [.ref q5603])
        refine lv_goto (tgt := 43) hx hb dX11_join_38 (by decide) ?_
        refine lv_astore (lv' := [(7, .ref q5603), (6, .ref a), (5, .int 1), (0, .ref h0), (1, .int o), (2, .int x), (3, .int y), (4, .int z)]) hx hb dX11_join_43 hl (by decide) rfl (fun ls5612 hl' => ?_)
        clear hl
        have hl : lv_has ls5612 9 [(7, .ref q5603), (6, .ref a), (5, .int 1), (0, .ref h0), (1, .int o), (2, .int x), (3, .int y), (4, .int z)] := hl'
        clear hl'
        refine lv_aload_n hx hb dX11_join_45 rfl (lv_at hl 3 rfl) ?_
        refine lv_iload hx hb dX11_join_46 (lv_at hl 7 rfl) ?_
        refine zro_q hS hA (va_runV (As := [.int z]) (rest := []) ⟨hx, hb, hml, hown, hall⟩ (c_X11_slotAt l dC dI aC h0 b z s.heap.size) (cwV 1 hall (zgV zw_225 zw_227 zw_228 zw_802 g_X11_slotAt rfl) rfl rfl rfl (by decide +kernel) ⟨Nat.le_of_ble_eq_true rfl, Nat.le_of_ble_eq_true rfl⟩) (zPre_V (As := [.int z]) hK hP hD [0, 1] rfl (by decide +kernel) (ci := 10) (q0 := 0) rfl rfl) rfl rfl hl.1 rfl (lv_room (Nat.le_of_ble_eq_true rfl)) dX11_join_48 ⟨Nat.le_of_ble_eq_true rfl, Nat.le_of_ble_eq_true rfl⟩) (fun r5613 L5614 hw hS' => ?_)
        clear hS
        have hS := hS'
        clear hS'
        rcases r5613 with _ | q5615
        · have z5616 : ¬ zok z = true := zslot_n hw
          clear hw
          show W p l e _ s m _ below meth c _ _ _ _ QQ (F0 m 51 ls5612 [.null])
          refine lv_astoreN (lv' := [(8, .null), (7, .ref q5603), (6, .ref a), (5, .int 1), (0, .ref h0), (1, .int o), (2, .int x), (3, .int y), (4, .int z)]) hx hb dX11_join_51 hl (by decide) rfl (fun ls5617 hl' => ?_)
          clear hl
          have hl : lv_has ls5617 9 [(8, .null), (7, .ref q5603), (6, .ref a), (5, .int 1), (0, .ref h0), (1, .int o), (2, .int x), (3, .int y), (4, .int z)] := hl'
          clear hl'
          refine lv_aload hx hb dX11_join_53 (lv_at hl 2 rfl) ?_
          refine lv_ifnull hx hb dX11_join_55 ?_
          refine lv_aload hx hb dX11_join_58 (lv_at hl 1 rfl) ?_
          refine lv_ifnull hx hb dX11_join_60 ?_
          show W p l e _ s m _ below meth c _ _ _ _ QQ (F0 m 63 ls5617 [])
          refine lv_aloadN hx hb dX11_join_63 (lv_at hl 0 rfl) ?_
          refine lv_ifnonnullN hx hb dX11_join_65 ?_
          refine lv_iconst (v := (-1)) hx hb dX11_join_68 (by decide) ?_
          rw [← hQ]
          exact W.iret (v := (-1)) hx hb hr (fun zt ht hW => ⟨⟨(-1), (), rfl, by simp [zjoin, zwork, zface1, c_1_b5528, c_6_b5562, z5604, z5616], (show zt.heap.size = s.heap.size by rw [ht])⟩, hS.F ht⟩) hS.2.2 dX11_join_69
        · have z5616 : zok z = true := zslot_s hw
          clear hw
          show W p l e _ s m _ below meth c _ _ _ _ QQ (F0 m 51 ls5612 [.ref q5615])
          refine lv_astore (lv' := [(8, .ref q5615), (7, .ref q5603), (6, .ref a), (5, .int 1), (0, .ref h0), (1, .int o), (2, .int x), (3, .int y), (4, .int z)]) hx hb dX11_join_51 hl (by decide) rfl (fun ls5618 hl' => ?_)
          clear hl
          have hl : lv_has ls5618 9 [(8, .ref q5615), (7, .ref q5603), (6, .ref a), (5, .int 1), (0, .ref h0), (1, .int o), (2, .int x), (3, .int y), (4, .int z)] := hl'
          clear hl'
          refine lv_aload hx hb dX11_join_53 (lv_at hl 2 rfl) ?_
          refine lv_ifnull hx hb dX11_join_55 ?_
          refine lv_aload hx hb dX11_join_58 (lv_at hl 1 rfl) ?_
          refine lv_ifnull hx hb dX11_join_60 ?_
          show W p l e _ s m _ below meth c _ _ _ _ QQ (F0 m 63 ls5618 [])
          refine lv_aload hx hb dX11_join_63 (lv_at hl 0 rfl) ?_
          refine lv_ifnonnull (tgt := 70) hx hb dX11_join_65 (by decide) ?_
          refine lv_aload hx hb dX11_join_70 (lv_at hl 2 rfl) ?_
          refine va_get (D := (dC, dI)) (ci := 5) (v := .int 0) (C := RX6) (T := TX6) (N := 12) hx hb hall zx_6 hown hK.1 hP 2 rfl rfl 0 (by decide) (hall _ zw_212) (fun _ h9 => h9) rfl dX11_join_72 ?_
          refine lv_iconst (v := 4) hx hb dX11_join_75 (by decide) ?_
          refine lv_icmp_ne (tgt := 106) hx hb dX11_join_76 (by decide) (fun _ => ?_) (fun c_76_b5619 => absurd c_76_b5619 (by decide))
          show W p l e _ s m _ below meth c _ _ _ _ QQ (F0 m 106 ls5618 [])
          refine lv_bipush (v := (-3)) hx hb dX11_join_106 (by decide) ?_
          rw [← hQ]
          exact W.iret (v := (-3)) hx hb hr (fun zt ht hW => ⟨⟨(-3), (), rfl, by simp [zjoin, zwork, zface1, c_1_b5528, c_6_b5562, z5604, z5616], (show zt.heap.size = s.heap.size by rw [ht])⟩, hS.F ht⟩) hS.2.2 dX11_join_108

set_option maxHeartbeats 4000000 in
set_option maxRecDepth 100000 in
theorem c_X11_roots_out (l : Launch) (dC : Nat → ClassId) (dI : Nat → Nat → Nat) (aC : Nat → ClassId) (h0 b : Nat) (x : Int32) (sz : Nat) (hxm : zslot b x = none) : Met l yX11_roots w_X11_roots ({ frames := 2, cells := 0, slots := 0, locals := 45 }) (zPre (dC, dI) aC [(h0, .inr (10, [.ref (b + 0), .ref (b + 73), .ref (b + 75), .ref (b + 76), .ref (b + 80), .ref (b + 81), .ref (b + 88), .ref (b + 95), .ref (b + 100), .ref (b + 106), .int 0, .ref (b + 107), .int 0])), (b + 0, .inl (aC 3, 12, .inr (.inr (.inr (.inr (zrefs (fun i => b + (1 + 6 * i)) 12))))))] sz [.ref h0, .int x]) (va_Qi (fun (r : Int32) (_ : Unit) => r = -1) (fun _ zt => zt.heap.size = sz) (zN sz)) 0 0 (zN sz) := by
  refine Met.ofW (cc := cX11_roots) (maxL := 3) (ret := (some .int)) (by decide) rfl ?_
  intro p e s m args below meth c s₁ B hml hv
  generalize hQ : MQ below _ _ s _ _ _ = QQ
  obtain ⟨rfl, hsz, hP, hK, hD0⟩ := hv
  have hx := B.exec
  have hb := B.bytes
  have hr := B.returns
  have hts := atoms_spec (ws := w_X11_roots) B.pre
  have hall := fun (w : Cond) (h : w ∈ zAll) => hts w (List.mem_cons_of_mem _ h)
  have hown : s.vm.findClass RX11 = some m.cls := findClass_of_methodNamed B.named
  have hlocks := B.notSynchronized
  subst hsz
  have hA : ∀ q : Nat, s.heap.size ≤ q → zN s.heap.size q := fun q h => h
  have hS : va_S (zN s.heap.size) s.heap s.heap [] := va_S.rf
  have hD := hD0
  have hl := lv_entry ([.ref h0, .int x]) (n := 3) (Nat.le_of_ble_eq_true rfl)
  rw [lg_entry_eq]
  generalize (lg_sl ([.ref h0, .int x]) ++ List.replicate (3 - (lg_sl ([.ref h0, .int x])).length) Slot.unset).toArray = ls at hl ⊢
  have hl : lv_has ls 3 [(0, .ref h0), (1, .int x)] := hl
  refine lv_aload_n hx hb dX11_roots_0 rfl (lv_at hl 0 rfl) ?_
  refine lv_iload_n hx hb dX11_roots_1 rfl (lv_at hl 1 rfl) ?_
  refine zro_q hS hA (va_runV (As := [.int x]) (rest := []) ⟨hx, hb, hml, hown, hall⟩ (c_X11_slotAt l dC dI aC h0 b x s.heap.size) (cwV 1 hall (zgV zw_225 zw_227 zw_228 zw_802 g_X11_slotAt rfl) rfl rfl rfl (by decide +kernel) ⟨Nat.le_of_ble_eq_true rfl, Nat.le_of_ble_eq_true rfl⟩) (zPre_V (As := [.int x]) hK hP hD [0, 1] rfl (by decide +kernel) (ci := 10) (q0 := 0) rfl rfl) rfl rfl hl.1 rfl (lv_room (Nat.le_of_ble_eq_true rfl)) dX11_roots_2 ⟨Nat.le_of_ble_eq_true rfl, Nat.le_of_ble_eq_true rfl⟩) (fun r5620 L5621 hw hS' => ?_)
  clear hS
  have hS := hS'
  clear hS'
  obtain rfl : r5620 = none := hw.trans hxm
  try clear hw
  refine lv_astore_nN (lv' := [(2, .null), (0, .ref h0), (1, .int x)]) hx hb dX11_roots_5 rfl hl (by decide) rfl (fun ls5622 hl' => ?_)
  clear hl
  have hl : lv_has ls5622 3 [(2, .null), (0, .ref h0), (1, .int x)] := hl'
  clear hl'
  refine lv_aload_nN hx hb dX11_roots_6 rfl (lv_at hl 0 rfl) ?_
  refine lv_ifnonnullN hx hb dX11_roots_7 ?_
  show W p l e _ s m _ below meth c _ _ _ _ QQ (F0 m 10 ls5622 [])
  refine lv_iconst (v := (-1)) hx hb dX11_roots_10 (by decide) ?_
  rw [← hQ]
  exact W.iret (v := (-1)) hx hb hr (fun zt ht hW => ⟨⟨(-1), (), rfl, rfl, (show zt.heap.size = s.heap.size by rw [ht])⟩, hS.F ht⟩) hS.2.2 dX11_roots_11

set_option maxHeartbeats 4000000 in
set_option maxRecDepth 100000 in
theorem c_X11_roots_in (l : Launch) (dC : Nat → ClassId) (dI : Nat → Nat → Nat) (aC : Nat → ClassId) (h0 b a : Nat) (x : Int32) (sz : Nat) (hxm : zslot b x = some a) : Met l yX11_roots w_X11_roots ({ frames := 3, cells := 0, slots := 0, locals := 64 }) (zPre (dC, dI) aC [(h0, .inr (10, [.ref (b + 0), .ref (b + 73), .ref (b + 75), .ref (b + 76), .ref (b + 80), .ref (b + 81), .ref (b + 88), .ref (b + 95), .ref (b + 100), .ref (b + 106), .int 0, .ref (b + 107), .int 0])), (b + 0, .inl (aC 3, 12, .inr (.inr (.inr (.inr (zrefs (fun i => b + (1 + 6 * i)) 12)))))), (a, .inr (5, [.int 0, .int 0, .int 0, .int 0, .int 0, .int 0, .int 0, .ref (a + 1), .ref (a + 2), .ref (a + 3), .ref (a + 4), .ref (a + 5)]))] sz [.ref h0, .int x]) (va_Qi (fun (r : Int32) (_ : Unit) => r = -3) (fun _ zt => zt.heap.size = sz) (zN sz)) 0 0 (zN sz) := by
  refine Met.ofW (cc := cX11_roots) (maxL := 3) (ret := (some .int)) (by decide) rfl ?_
  intro p e s m args below meth c s₁ B hml hv
  generalize hQ : MQ below _ _ s _ _ _ = QQ
  obtain ⟨rfl, hsz, hP, hK, hD0⟩ := hv
  have hx := B.exec
  have hb := B.bytes
  have hr := B.returns
  have hts := atoms_spec (ws := w_X11_roots) B.pre
  have hall := fun (w : Cond) (h : w ∈ zAll) => hts w (List.mem_cons_of_mem _ h)
  have hown : s.vm.findClass RX11 = some m.cls := findClass_of_methodNamed B.named
  have hlocks := B.notSynchronized
  subst hsz
  have hA : ∀ q : Nat, s.heap.size ≤ q → zN s.heap.size q := fun q h => h
  have hS : va_S (zN s.heap.size) s.heap s.heap [] := va_S.rf
  have hD := hD0
  have hl := lv_entry ([.ref h0, .int x]) (n := 3) (Nat.le_of_ble_eq_true rfl)
  rw [lg_entry_eq]
  generalize (lg_sl ([.ref h0, .int x]) ++ List.replicate (3 - (lg_sl ([.ref h0, .int x])).length) Slot.unset).toArray = ls at hl ⊢
  have hl : lv_has ls 3 [(0, .ref h0), (1, .int x)] := hl
  refine lv_aload_n hx hb dX11_roots_0 rfl (lv_at hl 0 rfl) ?_
  refine lv_iload_n hx hb dX11_roots_1 rfl (lv_at hl 1 rfl) ?_
  refine zro_q hS hA (va_runV (As := [.int x]) (rest := []) ⟨hx, hb, hml, hown, hall⟩ (c_X11_slotAt l dC dI aC h0 b x s.heap.size) (cwV 1 hall (zgV zw_225 zw_227 zw_228 zw_802 g_X11_slotAt rfl) rfl rfl rfl (by decide +kernel) ⟨Nat.le_of_ble_eq_true rfl, Nat.le_of_ble_eq_true rfl⟩) (zPre_V (As := [.int x]) hK hP hD [0, 1] rfl (by decide +kernel) (ci := 10) (q0 := 0) rfl rfl) rfl rfl hl.1 rfl (lv_room (Nat.le_of_ble_eq_true rfl)) dX11_roots_2 ⟨Nat.le_of_ble_eq_true rfl, Nat.le_of_ble_eq_true rfl⟩) (fun r5623 L5624 hw hS' => ?_)
  clear hS
  have hS := hS'
  clear hS'
  obtain rfl : r5623 = some a := hw.trans hxm
  try clear hw
  refine lv_astore_n (lv' := [(2, .ref a), (0, .ref h0), (1, .int x)]) hx hb dX11_roots_5 rfl hl (by decide) rfl (fun ls5625 hl' => ?_)
  clear hl
  have hl : lv_has ls5625 3 [(2, .ref a), (0, .ref h0), (1, .int x)] := hl'
  clear hl'
  refine lv_aload_n hx hb dX11_roots_6 rfl (lv_at hl 0 rfl) ?_
  refine lv_ifnonnull (tgt := 12) hx hb dX11_roots_7 (by decide) ?_
  show W p l e _ s m _ below meth c _ _ _ _ QQ (F0 m 12 ls5625 [])
  refine lv_aload_n hx hb dX11_roots_12 rfl (lv_at hl 0 rfl) ?_
  refine zro_i hS hA (va_runS (As := [.ref a]) (rest := []) ⟨hx, hb, hml, hown, hall⟩ (c_X11_isFactor l dC dI aC a s.heap.size) (va_cwS 1 hall (zgS zw_284 zw_286 zw_802 g_X11_isFactor) rfl rfl rfl (by decide +kernel) ⟨Nat.le_of_ble_eq_true rfl, Nat.le_of_ble_eq_true rfl⟩) (zPre_S (As := [.ref a]) hK hP hD [2] rfl (by decide +kernel)) rfl rfl hl.1 rfl (lv_room (Nat.le_of_ble_eq_true rfl)) dX11_roots_13 ⟨Nat.le_of_ble_eq_true rfl, Nat.le_of_ble_eq_true rfl⟩) (fun r5626 L5627 hw hS' => ?_)
  clear hS
  have hS := hS'
  clear hS'
  obtain rfl : r5626 = 0 := hw
  try clear hw
  refine lv_if_ne (tgt := 22) hx hb dX11_roots_16 (by decide) (fun c_16_b5628 => absurd (by decide) c_16_b5628) (fun _ => ?_)
  refine lv_bipush (v := (-3)) hx hb dX11_roots_19 (by decide) ?_
  rw [← hQ]
  exact W.iret (v := (-3)) hx hb hr (fun zt ht hW => ⟨⟨(-3), (), rfl, rfl, (show zt.heap.size = s.heap.size by rw [ht])⟩, hS.F ht⟩) hS.2.2 dX11_roots_21

set_option maxHeartbeats 4000000 in
set_option maxRecDepth 100000 in
theorem c_X11_solve_out (l : Launch) (dC : Nat → ClassId) (dI : Nat → Nat → Nat) (aC : Nat → ClassId) (h0 b : Nat) (x y : Int32) (sz : Nat) (hxm : zslot b x = none) : Met l yX11_solve w_X11_solve ({ frames := 2, cells := 0, slots := 0, locals := 45 }) (zPre (dC, dI) aC [(h0, .inr (10, [.ref (b + 0), .ref (b + 73), .ref (b + 75), .ref (b + 76), .ref (b + 80), .ref (b + 81), .ref (b + 88), .ref (b + 95), .ref (b + 100), .ref (b + 106), .int 0, .ref (b + 107), .int 0])), (b + 0, .inl (aC 3, 12, .inr (.inr (.inr (.inr (zrefs (fun i => b + (1 + 6 * i)) 12))))))] sz [.ref h0, .int x, .int y]) (va_Qi (fun (r : Int32) (_ : Unit) => r = -1) (fun _ zt => zt.heap.size = sz) (zN sz)) 0 0 (zN sz) := by
  refine Met.ofW (cc := cX11_solve) (maxL := 6) (ret := (some .int)) (by decide) rfl ?_
  intro p e s m args below meth c s₁ B hml hv
  generalize hQ : MQ below _ _ s _ _ _ = QQ
  obtain ⟨rfl, hsz, hP, hK, hD0⟩ := hv
  have hx := B.exec
  have hb := B.bytes
  have hr := B.returns
  have hts := atoms_spec (ws := w_X11_solve) B.pre
  have hall := fun (w : Cond) (h : w ∈ zAll) => hts w (List.mem_cons_of_mem _ h)
  have hown : s.vm.findClass RX11 = some m.cls := findClass_of_methodNamed B.named
  have hlocks := B.notSynchronized
  subst hsz
  have hA : ∀ q : Nat, s.heap.size ≤ q → zN s.heap.size q := fun q h => h
  have hS : va_S (zN s.heap.size) s.heap s.heap [] := va_S.rf
  have hD := hD0
  have hl := lv_entry ([.ref h0, .int x, .int y]) (n := 6) (Nat.le_of_ble_eq_true rfl)
  rw [lg_entry_eq]
  generalize (lg_sl ([.ref h0, .int x, .int y]) ++ List.replicate (6 - (lg_sl ([.ref h0, .int x, .int y])).length) Slot.unset).toArray = ls at hl ⊢
  have hl : lv_has ls 6 [(0, .ref h0), (1, .int x), (2, .int y)] := hl
  refine lv_aload_n hx hb dX11_solve_0 rfl (lv_at hl 0 rfl) ?_
  refine lv_iload_n hx hb dX11_solve_1 rfl (lv_at hl 1 rfl) ?_
  refine zro_q hS hA (va_runV (As := [.int x]) (rest := []) ⟨hx, hb, hml, hown, hall⟩ (c_X11_slotAt l dC dI aC h0 b x s.heap.size) (cwV 1 hall (zgV zw_225 zw_227 zw_228 zw_802 g_X11_slotAt rfl) rfl rfl rfl (by decide +kernel) ⟨Nat.le_of_ble_eq_true rfl, Nat.le_of_ble_eq_true rfl⟩) (zPre_V (As := [.int x]) hK hP hD [0, 1] rfl (by decide +kernel) (ci := 10) (q0 := 0) rfl rfl) rfl rfl hl.1 rfl (lv_room (Nat.le_of_ble_eq_true rfl)) dX11_solve_2 ⟨Nat.le_of_ble_eq_true rfl, Nat.le_of_ble_eq_true rfl⟩) (fun r5629 L5630 hw hS' => ?_)
  clear hS
  have hS := hS'
  clear hS'
  obtain rfl : r5629 = none := hw.trans hxm
  try clear hw
  refine lv_astore_nN (lv' := [(3, .null), (0, .ref h0), (1, .int x), (2, .int y)]) hx hb dX11_solve_5 rfl hl (by decide) rfl (fun ls5631 hl' => ?_)
  clear hl
  have hl : lv_has ls5631 6 [(3, .null), (0, .ref h0), (1, .int x), (2, .int y)] := hl'
  clear hl'
  refine lv_aload_n hx hb dX11_solve_6 rfl (lv_at hl 1 rfl) ?_
  show W p l e _ s m _ below meth c _ _ _ _ QQ (F0 m 7 ls5631 [.ref h0])
  refine lv_iload_n hx hb dX11_solve_7 rfl (lv_at hl 3 rfl) ?_
  refine zro_q hS hA (va_runV (As := [.int y]) (rest := []) ⟨hx, hb, hml, hown, hall⟩ (c_X11_slotAt l dC dI aC h0 b y s.heap.size) (cwV 1 hall (zgV zw_225 zw_227 zw_228 zw_802 g_X11_slotAt rfl) rfl rfl rfl (by decide +kernel) ⟨Nat.le_of_ble_eq_true rfl, Nat.le_of_ble_eq_true rfl⟩) (zPre_V (As := [.int y]) hK hP hD [0, 1] rfl (by decide +kernel) (ci := 10) (q0 := 0) rfl rfl) rfl rfl hl.1 rfl (lv_room (Nat.le_of_ble_eq_true rfl)) dX11_solve_8 ⟨Nat.le_of_ble_eq_true rfl, Nat.le_of_ble_eq_true rfl⟩) (fun r5632 L5633 hw hS' => ?_)
  clear hS
  have hS := hS'
  clear hS'
  rcases r5632 with _ | q5634
  · have z5635 : ¬ zok y = true := zslot_n hw
    clear hw
    show W p l e _ s m _ below meth c _ _ _ _ QQ (F0 m 11 ls5631 [.null])
    refine lv_astoreN (lv' := [(4, .null), (3, .null), (0, .ref h0), (1, .int x), (2, .int y)]) hx hb dX11_solve_11 hl (by decide) rfl (fun ls5636 hl' => ?_)
    clear hl
    have hl : lv_has ls5636 6 [(4, .null), (3, .null), (0, .ref h0), (1, .int x), (2, .int y)] := hl'
    clear hl'
    refine lv_aload_nN hx hb dX11_solve_13 rfl (lv_at hl 1 rfl) ?_
    refine lv_ifnullN (tgt := 22) hx hb dX11_solve_14 (by decide) ?_
    refine lv_iconst (v := (-1)) hx hb dX11_solve_22 (by decide) ?_
    rw [← hQ]
    exact W.iret (v := (-1)) hx hb hr (fun zt ht hW => ⟨⟨(-1), (), rfl, rfl, (show zt.heap.size = s.heap.size by rw [ht])⟩, hS.F ht⟩) hS.2.2 dX11_solve_23
  · have z5635 : zok y = true := zslot_s hw
    clear hw
    show W p l e _ s m _ below meth c _ _ _ _ QQ (F0 m 11 ls5631 [.ref q5634])
    refine lv_astore (lv' := [(4, .ref q5634), (3, .null), (0, .ref h0), (1, .int x), (2, .int y)]) hx hb dX11_solve_11 hl (by decide) rfl (fun ls5637 hl' => ?_)
    clear hl
    have hl : lv_has ls5637 6 [(4, .ref q5634), (3, .null), (0, .ref h0), (1, .int x), (2, .int y)] := hl'
    clear hl'
    refine lv_aload_nN hx hb dX11_solve_13 rfl (lv_at hl 1 rfl) ?_
    refine lv_ifnullN (tgt := 22) hx hb dX11_solve_14 (by decide) ?_
    refine lv_iconst (v := (-1)) hx hb dX11_solve_22 (by decide) ?_
    rw [← hQ]
    exact W.iret (v := (-1)) hx hb hr (fun zt ht hW => ⟨⟨(-1), (), rfl, rfl, (show zt.heap.size = s.heap.size by rw [ht])⟩, hS.F ht⟩) hS.2.2 dX11_solve_23

set_option maxHeartbeats 4000000 in
set_option maxRecDepth 100000 in
theorem c_X11_solve_in (l : Launch) (dC : Nat → ClassId) (dI : Nat → Nat → Nat) (aC : Nat → ClassId) (h0 b a : Nat) (x y : Int32) (sz : Nat) (hxm : zslot b x = some a) : Met l yX11_solve w_X11_solve ({ frames := 2, cells := 0, slots := 0, locals := 45 }) (zPre (dC, dI) aC [(h0, .inr (10, [.ref (b + 0), .ref (b + 73), .ref (b + 75), .ref (b + 76), .ref (b + 80), .ref (b + 81), .ref (b + 88), .ref (b + 95), .ref (b + 100), .ref (b + 106), .int 0, .ref (b + 107), .int 0])), (b + 0, .inl (aC 3, 12, .inr (.inr (.inr (.inr (zrefs (fun i => b + (1 + 6 * i)) 12)))))), (a, .inr (5, [.int 0, .int 0, .int 0, .int 0, .int 0, .int 0, .int 0, .ref (a + 1), .ref (a + 2), .ref (a + 3), .ref (a + 4), .ref (a + 5)]))] sz [.ref h0, .int x, .int y]) (va_Qi (fun (r : Int32) (_ : Unit) => r = zface1 y (-3) (-1)) (fun _ zt => zt.heap.size = sz) (zN sz)) 0 0 (zN sz) := by
  refine Met.ofW (cc := cX11_solve) (maxL := 6) (ret := (some .int)) (by decide) rfl ?_
  intro p e s m args below meth c s₁ B hml hv
  generalize hQ : MQ below _ _ s _ _ _ = QQ
  obtain ⟨rfl, hsz, hP, hK, hD0⟩ := hv
  have hx := B.exec
  have hb := B.bytes
  have hr := B.returns
  have hts := atoms_spec (ws := w_X11_solve) B.pre
  have hall := fun (w : Cond) (h : w ∈ zAll) => hts w (List.mem_cons_of_mem _ h)
  have hown : s.vm.findClass RX11 = some m.cls := findClass_of_methodNamed B.named
  have hlocks := B.notSynchronized
  subst hsz
  have hA : ∀ q : Nat, s.heap.size ≤ q → zN s.heap.size q := fun q h => h
  have hS : va_S (zN s.heap.size) s.heap s.heap [] := va_S.rf
  have hD := hD0
  have hl := lv_entry ([.ref h0, .int x, .int y]) (n := 6) (Nat.le_of_ble_eq_true rfl)
  rw [lg_entry_eq]
  generalize (lg_sl ([.ref h0, .int x, .int y]) ++ List.replicate (6 - (lg_sl ([.ref h0, .int x, .int y])).length) Slot.unset).toArray = ls at hl ⊢
  have hl : lv_has ls 6 [(0, .ref h0), (1, .int x), (2, .int y)] := hl
  refine lv_aload_n hx hb dX11_solve_0 rfl (lv_at hl 0 rfl) ?_
  refine lv_iload_n hx hb dX11_solve_1 rfl (lv_at hl 1 rfl) ?_
  refine zro_q hS hA (va_runV (As := [.int x]) (rest := []) ⟨hx, hb, hml, hown, hall⟩ (c_X11_slotAt l dC dI aC h0 b x s.heap.size) (cwV 1 hall (zgV zw_225 zw_227 zw_228 zw_802 g_X11_slotAt rfl) rfl rfl rfl (by decide +kernel) ⟨Nat.le_of_ble_eq_true rfl, Nat.le_of_ble_eq_true rfl⟩) (zPre_V (As := [.int x]) hK hP hD [0, 1] rfl (by decide +kernel) (ci := 10) (q0 := 0) rfl rfl) rfl rfl hl.1 rfl (lv_room (Nat.le_of_ble_eq_true rfl)) dX11_solve_2 ⟨Nat.le_of_ble_eq_true rfl, Nat.le_of_ble_eq_true rfl⟩) (fun r5638 L5639 hw hS' => ?_)
  clear hS
  have hS := hS'
  clear hS'
  obtain rfl : r5638 = some a := hw.trans hxm
  try clear hw
  refine lv_astore_n (lv' := [(3, .ref a), (0, .ref h0), (1, .int x), (2, .int y)]) hx hb dX11_solve_5 rfl hl (by decide) rfl (fun ls5640 hl' => ?_)
  clear hl
  have hl : lv_has ls5640 6 [(3, .ref a), (0, .ref h0), (1, .int x), (2, .int y)] := hl'
  clear hl'
  refine lv_aload_n hx hb dX11_solve_6 rfl (lv_at hl 1 rfl) ?_
  show W p l e _ s m _ below meth c _ _ _ _ QQ (F0 m 7 ls5640 [.ref h0])
  refine lv_iload_n hx hb dX11_solve_7 rfl (lv_at hl 3 rfl) ?_
  refine zro_q hS hA (va_runV (As := [.int y]) (rest := []) ⟨hx, hb, hml, hown, hall⟩ (c_X11_slotAt l dC dI aC h0 b y s.heap.size) (cwV 1 hall (zgV zw_225 zw_227 zw_228 zw_802 g_X11_slotAt rfl) rfl rfl rfl (by decide +kernel) ⟨Nat.le_of_ble_eq_true rfl, Nat.le_of_ble_eq_true rfl⟩) (zPre_V (As := [.int y]) hK hP hD [0, 1] rfl (by decide +kernel) (ci := 10) (q0 := 0) rfl rfl) rfl rfl hl.1 rfl (lv_room (Nat.le_of_ble_eq_true rfl)) dX11_solve_8 ⟨Nat.le_of_ble_eq_true rfl, Nat.le_of_ble_eq_true rfl⟩) (fun r5641 L5642 hw hS' => ?_)
  clear hS
  have hS := hS'
  clear hS'
  rcases r5641 with _ | q5643
  · have z5644 : ¬ zok y = true := zslot_n hw
    clear hw
    show W p l e _ s m _ below meth c _ _ _ _ QQ (F0 m 11 ls5640 [.null])
    refine lv_astoreN (lv' := [(4, .null), (3, .ref a), (0, .ref h0), (1, .int x), (2, .int y)]) hx hb dX11_solve_11 hl (by decide) rfl (fun ls5645 hl' => ?_)
    clear hl
    have hl : lv_has ls5645 6 [(4, .null), (3, .ref a), (0, .ref h0), (1, .int x), (2, .int y)] := hl'
    clear hl'
    refine lv_aload_n hx hb dX11_solve_13 rfl (lv_at hl 1 rfl) ?_
    refine lv_ifnull hx hb dX11_solve_14 ?_
    refine lv_aloadN hx hb dX11_solve_17 (lv_at hl 0 rfl) ?_
    refine lv_ifnonnullN hx hb dX11_solve_19 ?_
    show W p l e _ s m _ below meth c _ _ _ _ QQ (F0 m 22 ls5645 [])
    refine lv_iconst (v := (-1)) hx hb dX11_solve_22 (by decide) ?_
    rw [← hQ]
    exact W.iret (v := (-1)) hx hb hr (fun zt ht hW => ⟨⟨(-1), (), rfl, by simp [zface1, z5644], (show zt.heap.size = s.heap.size by rw [ht])⟩, hS.F ht⟩) hS.2.2 dX11_solve_23
  · have z5644 : zok y = true := zslot_s hw
    clear hw
    show W p l e _ s m _ below meth c _ _ _ _ QQ (F0 m 11 ls5640 [.ref q5643])
    refine lv_astore (lv' := [(4, .ref q5643), (3, .ref a), (0, .ref h0), (1, .int x), (2, .int y)]) hx hb dX11_solve_11 hl (by decide) rfl (fun ls5646 hl' => ?_)
    clear hl
    have hl : lv_has ls5646 6 [(4, .ref q5643), (3, .ref a), (0, .ref h0), (1, .int x), (2, .int y)] := hl'
    clear hl'
    refine lv_aload_n hx hb dX11_solve_13 rfl (lv_at hl 1 rfl) ?_
    refine lv_ifnull hx hb dX11_solve_14 ?_
    refine lv_aload hx hb dX11_solve_17 (lv_at hl 0 rfl) ?_
    refine lv_ifnonnull (tgt := 24) hx hb dX11_solve_19 (by decide) ?_
    show W p l e _ s m _ below meth c _ _ _ _ QQ (F0 m 24 ls5646 [])
    refine lv_aload_n hx hb dX11_solve_24 rfl (lv_at hl 1 rfl) ?_
    refine va_get (D := (dC, dI)) (ci := 5) (v := .int 0) (C := RX6) (T := TX6) (N := 12) hx hb hall zx_6 hown hK.1 hP 2 rfl rfl 0 (by decide) (hall _ zw_212) (fun _ h9 => h9) rfl dX11_solve_25 ?_
    refine lv_iconst (v := 3) hx hb dX11_solve_28 (by decide) ?_
    refine lv_icmp_eq (tgt := 43) hx hb dX11_solve_29 (by decide) (fun c_29_b5647 => absurd c_29_b5647 (by decide)) (fun _ => ?_)
    refine lv_aload_n hx hb dX11_solve_32 rfl (lv_at hl 1 rfl) ?_
    show W p l e _ s m _ below meth c _ _ _ _ QQ (F0 m 33 ls5646 [.ref a])
    refine va_get (D := (dC, dI)) (ci := 5) (v := .int 0) (C := RX6) (T := TX6) (N := 12) hx hb hall zx_6 hown hK.1 hP 2 rfl rfl 0 (by decide) (hall _ zw_212) (fun _ h9 => h9) rfl dX11_solve_33 ?_
    refine lv_iconst (v := 4) hx hb dX11_solve_36 (by decide) ?_
    refine lv_icmp_eq (tgt := 43) hx hb dX11_solve_37 (by decide) (fun c_37_b5648 => absurd c_37_b5648 (by decide)) (fun _ => ?_)
    refine lv_bipush (v := (-3)) hx hb dX11_solve_40 (by decide) ?_
    rw [← hQ]
    exact W.iret (v := (-3)) hx hb hr (fun zt ht hW => ⟨⟨(-3), (), rfl, by simp [zface1, z5644], (show zt.heap.size = s.heap.size by rw [ht])⟩, hS.F ht⟩) hS.2.2 dX11_solve_42
