theorem dX11_place_0 : decode cX11_place 0 = .ok (.aload_n 0, 1) := by decide +kernel
theorem dX11_place_1 : decode cX11_place 1 = .ok (.getfield 67, 3) := by decide +kernel
theorem dX11_place_4 : decode cX11_place 4 = .ok (.getfield 167, 3) := by decide +kernel
theorem dX11_place_7 : decode cX11_place 7 = .ok (.ireturn, 1) := by decide +kernel
theorem dX10_inscribed_0 : decode cX10_inscribed 0 = .ok (.iload_n 1, 1) := by decide +kernel
theorem dX10_inscribed_1 : decode cX10_inscribed 1 = .ok (.ifCond .lt 27, 3) := by decide +kernel
theorem dX10_inscribed_28 : decode cX10_inscribed 28 = .ok (.iconst (-1), 1) := by decide +kernel
theorem dX10_inscribed_29 : decode cX10_inscribed 29 = .ok (.ireturn, 1) := by decide +kernel
theorem dX10_inscribed_4 : decode cX10_inscribed 4 = .ok (.iload_n 1, 1) := by decide +kernel
theorem dX10_inscribed_5 : decode cX10_inscribed 5 = .ok (.aload_n 0, 1) := by decide +kernel
theorem dX10_inscribed_6 : decode cX10_inscribed 6 = .ok (.getfield 43, 3) := by decide +kernel
theorem dX10_inscribed_9 : decode cX10_inscribed 9 = .ok (.if_icmp .ge 19, 3) := by decide +kernel
theorem dX11_written_0 : decode cX11_written 0 = .ok (.aload_n 0, 1) := by decide +kernel
theorem dX11_written_1 : decode cX11_written 1 = .ok (.getfield 67, 3) := by decide +kernel
theorem dX11_written_4 : decode cX11_written 4 = .ok (.iload_n 1, 1) := by decide +kernel
theorem dX11_written_5 : decode cX11_written 5 = .ok (.invokevirtual 185, 3) := by decide +kernel
theorem dX11_written_8 : decode cX11_written 8 = .ok (.ireturn, 1) := by decide +kernel
theorem dX11_root_0 : decode cX11_root 0 = .ok (.iload_n 1, 1) := by decide +kernel
theorem dX11_root_1 : decode cX11_root 1 = .ok (.ifCond .lt 26, 3) := by decide +kernel
theorem dX11_root_27 : decode cX11_root 27 = .ok (.iconst (-1), 1) := by decide +kernel
theorem dX11_root_28 : decode cX11_root 28 = .ok (.ireturn, 1) := by decide +kernel
theorem dX11_root_4 : decode cX11_root 4 = .ok (.iload_n 1, 1) := by decide +kernel
theorem dX11_root_5 : decode cX11_root 5 = .ok (.aload_n 0, 1) := by decide +kernel
theorem dX11_root_6 : decode cX11_root 6 = .ok (.getfield 100, 3) := by decide +kernel
theorem dX11_root_9 : decode cX11_root 9 = .ok (.if_icmp .ge 18, 3) := by decide +kernel
theorem dX11_clear_0 : decode cX11_clear 0 = .ok (.aload_n 0, 1) := by decide +kernel
theorem dX11_clear_1 : decode cX11_clear 1 = .ok (.getfield 93, 3) := by decide +kernel
theorem dX11_clear_4 : decode cX11_clear 4 = .ok (.istore_n 1, 1) := by decide +kernel
theorem dX11_clear_5 : decode cX11_clear 5 = .ok (.aload_n 0, 1) := by decide +kernel
theorem dX11_clear_6 : decode cX11_clear 6 = .ok (.iconst 0, 1) := by decide +kernel
theorem dX11_clear_7 : decode cX11_clear 7 = .ok (.putfield 93, 3) := by decide +kernel
theorem dX11_clear_10 : decode cX11_clear 10 = .ok (.iload_n 1, 1) := by decide +kernel
theorem dX11_clear_11 : decode cX11_clear 11 = .ok (.ireturn, 1) := by decide +kernel
theorem dX10_retype_0 : decode cX10_retype 0 = .ok (.aload_n 0, 1) := by decide +kernel
theorem dX10_retype_1 : decode cX10_retype 1 = .ok (.getfield 43, 3) := by decide +kernel
theorem dX10_retype_4 : decode cX10_retype 4 = .ok (.sipush 400, 3) := by decide +kernel
theorem dX10_retype_7 : decode cX10_retype 7 = .ok (.if_icmp .le 6, 3) := by decide +kernel
theorem dX10_retype_13 : decode cX10_retype 13 = .ok (.iconst 0, 1) := by decide +kernel
theorem dX10_retype_14 : decode cX10_retype 14 = .ok (.istore_n 1, 1) := by decide +kernel
theorem dX10_retype_15 : decode cX10_retype 15 = .ok (.iload_n 1, 1) := by decide +kernel
theorem dX10_retype_16 : decode cX10_retype 16 = .ok (.aload_n 0, 1) := by decide +kernel
theorem dX10_retype_17 : decode cX10_retype 17 = .ok (.getfield 43, 3) := by decide +kernel
theorem dX10_retype_20 : decode cX10_retype 20 = .ok (.if_icmp .ge 28, 3) := by decide +kernel
theorem dX10_retype_48 : decode cX10_retype 48 = .ok (.aload_n 0, 1) := by decide +kernel
theorem dX10_retype_49 : decode cX10_retype 49 = .ok (.aload_n 0, 1) := by decide +kernel
theorem dX10_retype_50 : decode cX10_retype 50 = .ok (.getfield 43, 3) := by decide +kernel
theorem dX10_retype_53 : decode cX10_retype 53 = .ok (.putfield 38, 3) := by decide +kernel
theorem dX10_retype_56 : decode cX10_retype 56 = .ok (.aload_n 0, 1) := by decide +kernel
theorem dX10_retype_57 : decode cX10_retype 57 = .ok (.getfield 38, 3) := by decide +kernel
theorem dX10_retype_60 : decode cX10_retype 60 = .ok (.ireturn, 1) := by decide +kernel
theorem dX11_again_0 : decode cX11_again 0 = .ok (.aload_n 0, 1) := by decide +kernel
theorem dX11_again_1 : decode cX11_again 1 = .ok (.getfield 67, 3) := by decide +kernel
theorem dX11_again_4 : decode cX11_again 4 = .ok (.invokevirtual 188, 3) := by decide +kernel
theorem dX11_again_7 : decode cX11_again 7 = .ok (.ireturn, 1) := by decide +kernel
theorem dX11_count_0 : decode cX11_count 0 = .ok (.iload_n 1, 1) := by decide +kernel
theorem dX11_count_1 : decode cX11_count 1 = .ok (.ifCond .lt 8, 3) := by decide +kernel
theorem dX11_count_9 : decode cX11_count 9 = .ok (.iconst (-1), 1) := by decide +kernel
theorem dX11_count_10 : decode cX11_count 10 = .ok (.ireturn, 1) := by decide +kernel
theorem dX11_count_4 : decode cX11_count 4 = .ok (.iload_n 1, 1) := by decide +kernel
theorem dX11_count_5 : decode cX11_count 5 = .ok (.iconst 5, 1) := by decide +kernel
theorem dX11_count_6 : decode cX11_count 6 = .ok (.if_icmp .le 5, 3) := by decide +kernel
theorem dX11_count_11 : decode cX11_count 11 = .ok (.iload_n 1, 1) := by decide +kernel
theorem dX11_count_12 : decode cX11_count 12 = .ok (.iconst 1, 1) := by decide +kernel
theorem dX11_count_13 : decode cX11_count 13 = .ok (.if_icmp .gt 25, 3) := by decide +kernel
theorem dX11_count_38 : decode cX11_count 38 = .ok (.iload_n 1, 1) := by decide +kernel
theorem dX11_count_39 : decode cX11_count 39 = .ok (.iconst 3, 1) := by decide +kernel
theorem dX11_count_40 : decode cX11_count 40 = .ok (.if_icmp .gt 20, 3) := by decide +kernel
theorem dX11_count_60 : decode cX11_count 60 = .ok (.iconst 0, 1) := by decide +kernel
theorem dX11_count_61 : decode cX11_count 61 = .ok (.istore_n 2, 1) := by decide +kernel
theorem dX11_count_62 : decode cX11_count 62 = .ok (.iconst 0, 1) := by decide +kernel
theorem dX11_count_63 : decode cX11_count 63 = .ok (.istore_n 3, 1) := by decide +kernel
theorem dX11_count_64 : decode cX11_count 64 = .ok (.iload_n 3, 1) := by decide +kernel
theorem dX11_count_65 : decode cX11_count 65 = .ok (.bipush 12, 2) := by decide +kernel
theorem dX11_count_67 : decode cX11_count 67 = .ok (.if_icmp .ge 42, 3) := by decide +kernel
theorem dX11_count_70 : decode cX11_count 70 = .ok (.aload_n 0, 1) := by decide +kernel
theorem dX11_count_71 : decode cX11_count 71 = .ok (.getfield 11, 3) := by decide +kernel
theorem dX11_count_74 : decode cX11_count 74 = .ok (.iload_n 3, 1) := by decide +kernel
theorem dX11_count_75 : decode cX11_count 75 = .ok (.aaload, 1) := by decide +kernel
theorem dX11_count_76 : decode cX11_count 76 = .ok (.getfield 191, 3) := by decide +kernel
theorem dX11_count_79 : decode cX11_count 79 = .ok (.istore 4, 2) := by decide +kernel
theorem dX11_count_81 : decode cX11_count 81 = .ok (.iload_n 1, 1) := by decide +kernel
theorem dX11_count_82 : decode cX11_count 82 = .ok (.iconst 4, 1) := by decide +kernel
theorem dX11_count_83 : decode cX11_count 83 = .ok (.if_icmp .ne 11, 3) := by decide +kernel
theorem dX11_count_94 : decode cX11_count 94 = .ok (.iload 4, 2) := by decide +kernel
theorem dX11_count_96 : decode cX11_count 96 = .ok (.iconst 3, 1) := by decide +kernel
theorem dX11_count_97 : decode cX11_count 97 = .ok (.if_icmp .ne 6, 3) := by decide +kernel
theorem dX11_count_103 : decode cX11_count 103 = .ok (.iinc 3 1, 3) := by decide +kernel
theorem dX11_count_106 : decode cX11_count 106 = .ok (.goto (-42), 3) := by decide +kernel
theorem dX11_count_109 : decode cX11_count 109 = .ok (.iload_n 2, 1) := by decide +kernel
theorem dX11_count_110 : decode cX11_count 110 = .ok (.ireturn, 1) := by decide +kernel
theorem dX11_count_86 : decode cX11_count 86 = .ok (.iload 4, 2) := by decide +kernel
theorem dX11_count_88 : decode cX11_count 88 = .ok (.ifCond .eq 15, 3) := by decide +kernel
theorem dX11_count_43 : decode cX11_count 43 = .ok (.iload_n 1, 1) := by decide +kernel
theorem dX11_count_44 : decode cX11_count 44 = .ok (.iconst 2, 1) := by decide +kernel
theorem dX11_count_45 : decode cX11_count 45 = .ok (.if_icmp .ne 10, 3) := by decide +kernel
theorem dX11_count_55 : decode cX11_count 55 = .ok (.aload_n 0, 1) := by decide +kernel
theorem dX11_count_56 : decode cX11_count 56 = .ok (.getfield 100, 3) := by decide +kernel
theorem dX11_count_59 : decode cX11_count 59 = .ok (.ireturn, 1) := by decide +kernel
theorem dX11_count_48 : decode cX11_count 48 = .ok (.aload_n 0, 1) := by decide +kernel
theorem dX11_count_49 : decode cX11_count 49 = .ok (.getfield 93, 3) := by decide +kernel
theorem dX11_count_52 : decode cX11_count 52 = .ok (.goto 7, 3) := by decide +kernel
theorem dX11_count_16 : decode cX11_count 16 = .ok (.iload_n 1, 1) := by decide +kernel
theorem dX11_count_17 : decode cX11_count 17 = .ok (.ifCond .ne 13, 3) := by decide +kernel
theorem dX11_count_30 : decode cX11_count 30 = .ok (.aload_n 0, 1) := by decide +kernel
theorem dX11_count_31 : decode cX11_count 31 = .ok (.getfield 67, 3) := by decide +kernel
theorem dX11_count_34 : decode cX11_count 34 = .ok (.getfield 231, 3) := by decide +kernel
theorem dX11_count_37 : decode cX11_count 37 = .ok (.ireturn, 1) := by decide +kernel
theorem dX11_count_20 : decode cX11_count 20 = .ok (.aload_n 0, 1) := by decide +kernel
theorem dX11_count_21 : decode cX11_count 21 = .ok (.getfield 67, 3) := by decide +kernel
theorem dX11_count_24 : decode cX11_count 24 = .ok (.getfield 228, 3) := by decide +kernel
theorem dX11_count_27 : decode cX11_count 27 = .ok (.goto 10, 3) := by decide +kernel
theorem dX11_feed_0 : decode cX11_feed 0 = .ok (.aload_n 0, 1) := by decide +kernel
theorem dX11_feed_1 : decode cX11_feed 1 = .ok (.getfield 93, 3) := by decide +kernel
theorem dX11_feed_4 : decode cX11_feed 4 = .ok (.ifCond .lt 12, 3) := by decide +kernel
theorem dX11_feed_7 : decode cX11_feed 7 = .ok (.aload_n 0, 1) := by decide +kernel
theorem dX11_feed_8 : decode cX11_feed 8 = .ok (.getfield 93, 3) := by decide +kernel
theorem dX11_feed_11 : decode cX11_feed 11 = .ok (.bipush 60, 2) := by decide +kernel
theorem dX11_feed_13 : decode cX11_feed 13 = .ok (.if_icmp .lt 6, 3) := by decide +kernel
theorem dX11_feed_19 : decode cX11_feed 19 = .ok (.aload_n 0, 1) := by decide +kernel
theorem dX11_feed_20 : decode cX11_feed 20 = .ok (.getfield 89, 3) := by decide +kernel
theorem dX11_feed_23 : decode cX11_feed 23 = .ok (.aload_n 0, 1) := by decide +kernel
theorem dX11_feed_24 : decode cX11_feed 24 = .ok (.getfield 93, 3) := by decide +kernel
theorem dX11_feed_27 : decode cX11_feed 27 = .ok (.iload_n 1, 1) := by decide +kernel
theorem dX11_feed_28 : decode cX11_feed 28 = .ok (.i2l, 1) := by decide +kernel
theorem dX11_feed_29 : decode cX11_feed 29 = .ok (.invokestatic 278, 3) := by decide +kernel
theorem dX11_feed_32 : decode cX11_feed 32 = .ok (.iastore, 1) := by decide +kernel
theorem dX11_feed_33 : decode cX11_feed 33 = .ok (.aload_n 0, 1) := by decide +kernel
theorem dX11_feed_34 : decode cX11_feed 34 = .ok (.dup, 1) := by decide +kernel
theorem dX11_feed_35 : decode cX11_feed 35 = .ok (.getfield 93, 3) := by decide +kernel
theorem dX11_feed_38 : decode cX11_feed 38 = .ok (.iconst 1, 1) := by decide +kernel
theorem dX11_feed_39 : decode cX11_feed 39 = .ok (.iadd, 1) := by decide +kernel
theorem dX11_feed_40 : decode cX11_feed 40 = .ok (.putfield 93, 3) := by decide +kernel
theorem dX11_feed_43 : decode cX11_feed 43 = .ok (.aload_n 0, 1) := by decide +kernel
theorem dX11_feed_44 : decode cX11_feed 44 = .ok (.getfield 93, 3) := by decide +kernel
theorem dX11_feed_47 : decode cX11_feed 47 = .ok (.ireturn, 1) := by decide +kernel
theorem dX6_wipe_0 : decode cX6_wipe 0 = .ok (.aload_n 0, 1) := by decide +kernel
theorem dX6_wipe_1 : decode cX6_wipe 1 = .ok (.iconst 0, 1) := by decide +kernel
theorem dX6_wipe_2 : decode cX6_wipe 2 = .ok (.putfield 27, 3) := by decide +kernel
theorem dX6_wipe_5 : decode cX6_wipe 5 = .ok (.aload_n 0, 1) := by decide +kernel
theorem dX6_wipe_6 : decode cX6_wipe 6 = .ok (.iconst 1, 1) := by decide +kernel
theorem dX6_wipe_7 : decode cX6_wipe 7 = .ok (.putfield 31, 3) := by decide +kernel
theorem dX6_wipe_10 : decode cX6_wipe 10 = .ok (.aload_n 0, 1) := by decide +kernel
theorem dX6_wipe_11 : decode cX6_wipe 11 = .ok (.iconst 1, 1) := by decide +kernel
theorem dX6_wipe_12 : decode cX6_wipe 12 = .ok (.putfield 34, 3) := by decide +kernel
theorem dX6_wipe_15 : decode cX6_wipe 15 = .ok (.aload_n 0, 1) := by decide +kernel
theorem dX6_wipe_16 : decode cX6_wipe 16 = .ok (.iconst 0, 1) := by decide +kernel
theorem dX6_wipe_17 : decode cX6_wipe 17 = .ok (.putfield 37, 3) := by decide +kernel
theorem dX6_wipe_20 : decode cX6_wipe 20 = .ok (.aload_n 0, 1) := by decide +kernel
theorem dX6_wipe_21 : decode cX6_wipe 21 = .ok (.iconst 0, 1) := by decide +kernel
theorem dX6_wipe_22 : decode cX6_wipe 22 = .ok (.putfield 40, 3) := by decide +kernel
theorem dX6_wipe_25 : decode cX6_wipe 25 = .ok (.aload_n 0, 1) := by decide +kernel
theorem dX6_wipe_26 : decode cX6_wipe 26 = .ok (.iconst 0, 1) := by decide +kernel
theorem dX6_wipe_27 : decode cX6_wipe 27 = .ok (.putfield 43, 3) := by decide +kernel
theorem dX6_wipe_30 : decode cX6_wipe 30 = .ok (.aload_n 0, 1) := by decide +kernel
theorem dX6_wipe_31 : decode cX6_wipe 31 = .ok (.iconst 0, 1) := by decide +kernel
theorem dX6_wipe_32 : decode cX6_wipe 32 = .ok (.putfield 46, 3) := by decide +kernel
theorem dX6_wipe_35 : decode cX6_wipe 35 = .ok (.return_, 1) := by decide +kernel
theorem dX11_drop_0 : decode cX11_drop 0 = .ok (.aload_n 0, 1) := by decide +kernel
theorem dX11_drop_1 : decode cX11_drop 1 = .ok (.iload_n 1, 1) := by decide +kernel
theorem dX11_drop_2 : decode cX11_drop 2 = .ok (.invokevirtual 107, 3) := by decide +kernel
theorem dX11_drop_5 : decode cX11_drop 5 = .ok (.astore_n 2, 1) := by decide +kernel
theorem dX11_drop_6 : decode cX11_drop 6 = .ok (.aload_n 2, 1) := by decide +kernel
theorem dX11_drop_7 : decode cX11_drop 7 = .ok (.ifnonnull 5, 3) := by decide +kernel
theorem dX11_drop_10 : decode cX11_drop 10 = .ok (.iconst (-1), 1) := by decide +kernel
theorem dX11_drop_11 : decode cX11_drop 11 = .ok (.ireturn, 1) := by decide +kernel
theorem dX11_drop_12 : decode cX11_drop 12 = .ok (.aload_n 2, 1) := by decide +kernel
theorem dX11_drop_13 : decode cX11_drop 13 = .ok (.getfield 191, 3) := by decide +kernel
theorem dX11_drop_16 : decode cX11_drop 16 = .ok (.istore_n 3, 1) := by decide +kernel
theorem dX11_drop_17 : decode cX11_drop 17 = .ok (.aload_n 2, 1) := by decide +kernel
theorem dX11_drop_18 : decode cX11_drop 18 = .ok (.invokevirtual 194, 3) := by decide +kernel
theorem dX11_drop_21 : decode cX11_drop 21 = .ok (.iload_n 3, 1) := by decide +kernel
theorem dX11_drop_22 : decode cX11_drop 22 = .ok (.ireturn, 1) := by decide +kernel
theorem dX5_guessed_0 : decode cX5_guessed 0 = .ok (.iconst 1, 1) := by decide +kernel
theorem dX5_guessed_1 : decode cX5_guessed 1 = .ok (.istore 4, 2) := by decide +kernel
theorem dX5_guessed_3 : decode cX5_guessed 3 = .ok (.iload 4, 2) := by decide +kernel
theorem dX5_guessed_5 : decode cX5_guessed 5 = .ok (.iconst 4, 1) := by decide +kernel
theorem dX5_guessed_6 : decode cX5_guessed 6 = .ok (.if_icmp .gt 75, 3) := by decide +kernel
theorem dX5_guessed_9 : decode cX5_guessed 9 = .ok (.iconst 0, 1) := by decide +kernel
theorem dX5_guessed_10 : decode cX5_guessed 10 = .ok (.istore 5, 2) := by decide +kernel
theorem dX5_guessed_12 : decode cX5_guessed 12 = .ok (.iload 5, 2) := by decide +kernel
theorem dX5_guessed_14 : decode cX5_guessed 14 = .ok (.bipush 8, 2) := by decide +kernel
theorem dX5_guessed_16 : decode cX5_guessed 16 = .ok (.if_icmp .gt 59, 3) := by decide +kernel
theorem dX5_guessed_19 : decode cX5_guessed 19 = .ok (.iload 4, 2) := by decide +kernel
theorem dX5_guessed_21 : decode cX5_guessed 21 = .ok (.iconst 1, 1) := by decide +kernel
theorem dX5_guessed_22 : decode cX5_guessed 22 = .ok (.iadd, 1) := by decide +kernel
theorem dX5_guessed_23 : decode cX5_guessed 23 = .ok (.iload 5, 2) := by decide +kernel
theorem dX5_guessed_25 : decode cX5_guessed 25 = .ok (.iconst 1, 1) := by decide +kernel
theorem dX5_guessed_26 : decode cX5_guessed 26 = .ok (.iadd, 1) := by decide +kernel
theorem dX5_guessed_27 : decode cX5_guessed 27 = .ok (.imul, 1) := by decide +kernel
theorem dX5_guessed_28 : decode cX5_guessed 28 = .ok (.iconst 4, 1) := by decide +kernel
theorem dX5_guessed_29 : decode cX5_guessed 29 = .ok (.iadd, 1) := by decide +kernel
theorem dX5_guessed_30 : decode cX5_guessed 30 = .ok (.iload_n 2, 1) := by decide +kernel
theorem dX5_guessed_31 : decode cX5_guessed 31 = .ok (.iload 4, 2) := by decide +kernel
theorem dX5_guessed_33 : decode cX5_guessed 33 = .ok (.isub, 1) := by decide +kernel
theorem dX5_guessed_34 : decode cX5_guessed 34 = .ok (.if_icmp .gt 41, 3) := by decide +kernel
theorem dX5_guessed_75 : decode cX5_guessed 75 = .ok (.iinc 4 1, 3) := by decide +kernel
theorem dX5_guessed_78 : decode cX5_guessed 78 = .ok (.goto (-75), 3) := by decide +kernel
theorem dX5_guessed_81 : decode cX5_guessed 81 = .ok (.iconst (-1), 1) := by decide +kernel
theorem dX5_guessed_82 : decode cX5_guessed 82 = .ok (.ireturn, 1) := by decide +kernel
theorem dX11_guess_0 : decode cX11_guess 0 = .ok (.aload_n 0, 1) := by decide +kernel
theorem dX11_guess_1 : decode cX11_guess 1 = .ok (.iload_n 1, 1) := by decide +kernel
theorem dX11_guess_2 : decode cX11_guess 2 = .ok (.invokevirtual 107, 3) := by decide +kernel
theorem dX11_guess_5 : decode cX11_guess 5 = .ok (.astore_n 2, 1) := by decide +kernel
theorem dX11_guess_6 : decode cX11_guess 6 = .ok (.aload_n 2, 1) := by decide +kernel
theorem dX11_guess_7 : decode cX11_guess 7 = .ok (.ifnonnull 5, 3) := by decide +kernel
theorem dX11_guess_10 : decode cX11_guess 10 = .ok (.iconst (-1), 1) := by decide +kernel
theorem dX11_guess_11 : decode cX11_guess 11 = .ok (.ireturn, 1) := by decide +kernel
theorem dX11_guess_12 : decode cX11_guess 12 = .ok (.aload_n 0, 1) := by decide +kernel
theorem dX11_guess_13 : decode cX11_guess 13 = .ok (.getfield 42, 3) := by decide +kernel
theorem dX11_guess_16 : decode cX11_guess 16 = .ok (.invokevirtual 111, 3) := by decide +kernel
theorem dX11_guess_19 : decode cX11_guess 19 = .ok (.aload_n 0, 1) := by decide +kernel
theorem dX11_guess_20 : decode cX11_guess 20 = .ok (.getfield 85, 3) := by decide +kernel
theorem dX11_guess_23 : decode cX11_guess 23 = .ok (.aload_n 0, 1) := by decide +kernel
theorem dX11_guess_24 : decode cX11_guess 24 = .ok (.getfield 89, 3) := by decide +kernel
theorem dX11_guess_27 : decode cX11_guess 27 = .ok (.aload_n 0, 1) := by decide +kernel
theorem dX11_guess_28 : decode cX11_guess 28 = .ok (.getfield 93, 3) := by decide +kernel
theorem dX11_guess_31 : decode cX11_guess 31 = .ok (.aload_n 2, 1) := by decide +kernel
theorem dX11_guess_32 : decode cX11_guess 32 = .ok (.invokevirtual 417, 3) := by decide +kernel
theorem dX11_guess_35 : decode cX11_guess 35 = .ok (.ireturn, 1) := by decide +kernel
theorem dX10_compile_0 : decode cX10_compile 0 = .ok (.aload_n 0, 1) := by decide +kernel
theorem dX10_compile_1 : decode cX10_compile 1 = .ok (.iconst 0, 1) := by decide +kernel
theorem dX10_compile_2 : decode cX10_compile 2 = .ok (.putfield 46, 3) := by decide +kernel
theorem dX10_compile_5 : decode cX10_compile 5 = .ok (.aload_n 0, 1) := by decide +kernel
theorem dX10_compile_6 : decode cX10_compile 6 = .ok (.iconst 0, 1) := by decide +kernel
theorem dX10_compile_7 : decode cX10_compile 7 = .ok (.putfield 49, 3) := by decide +kernel
theorem dX10_compile_10 : decode cX10_compile 10 = .ok (.aload_n 0, 1) := by decide +kernel
theorem dX10_compile_11 : decode cX10_compile 11 = .ok (.iconst 0, 1) := by decide +kernel
theorem dX10_compile_12 : decode cX10_compile 12 = .ok (.putfield 52, 3) := by decide +kernel
theorem dX10_compile_15 : decode cX10_compile 15 = .ok (.aload_n 0, 1) := by decide +kernel
theorem dX10_compile_16 : decode cX10_compile 16 = .ok (.iconst 0, 1) := by decide +kernel
theorem dX10_compile_17 : decode cX10_compile 17 = .ok (.putfield 55, 3) := by decide +kernel
theorem dX10_compile_20 : decode cX10_compile 20 = .ok (.aload_n 0, 1) := by decide +kernel
theorem dX10_compile_21 : decode cX10_compile 21 = .ok (.iconst 0, 1) := by decide +kernel
theorem dX10_compile_22 : decode cX10_compile 22 = .ok (.putfield 58, 3) := by decide +kernel
theorem dX10_compile_25 : decode cX10_compile 25 = .ok (.iconst 0, 1) := by decide +kernel
theorem dX10_compile_26 : decode cX10_compile 26 = .ok (.istore_n 1, 1) := by decide +kernel
theorem dX10_compile_27 : decode cX10_compile 27 = .ok (.iconst 0, 1) := by decide +kernel
theorem dX10_compile_28 : decode cX10_compile 28 = .ok (.istore_n 2, 1) := by decide +kernel
theorem dX10_compile_29 : decode cX10_compile 29 = .ok (.iload_n 2, 1) := by decide +kernel
theorem dX10_compile_30 : decode cX10_compile 30 = .ok (.sipush 400, 3) := by decide +kernel
theorem dX10_compile_33 : decode cX10_compile 33 = .ok (.if_icmp .gt 117, 3) := by decide +kernel
theorem dX10_compile_36 : decode cX10_compile 36 = .ok (.iload_n 1, 1) := by decide +kernel
theorem dX10_compile_37 : decode cX10_compile 37 = .ok (.aload_n 0, 1) := by decide +kernel
theorem dX10_compile_38 : decode cX10_compile 38 = .ok (.getfield 38, 3) := by decide +kernel
theorem dX10_compile_41 : decode cX10_compile 41 = .ok (.if_icmp .ge 109, 3) := by decide +kernel
theorem dX10_compile_150 : decode cX10_compile 150 = .ok (.aload_n 0, 1) := by decide +kernel
theorem dX10_compile_151 : decode cX10_compile 151 = .ok (.getfield 58, 3) := by decide +kernel
theorem dX10_compile_154 : decode cX10_compile 154 = .ok (.bipush 6, 2) := by decide +kernel
theorem dX10_compile_156 : decode cX10_compile 156 = .ok (.if_icmp .eq 26, 3) := by decide +kernel
theorem dX10_compile_159 : decode cX10_compile 159 = .ok (.aload_n 0, 1) := by decide +kernel
theorem dX10_compile_160 : decode cX10_compile 160 = .ok (.getfield 52, 3) := by decide +kernel
theorem dX10_compile_163 : decode cX10_compile 163 = .ok (.ifCond .gt 19, 3) := by decide +kernel
theorem dX10_compile_166 : decode cX10_compile 166 = .ok (.aload_n 0, 1) := by decide +kernel
theorem dX10_compile_167 : decode cX10_compile 167 = .ok (.getfield 58, 3) := by decide +kernel
theorem dX10_compile_170 : decode cX10_compile 170 = .ok (.iconst 2, 1) := by decide +kernel
theorem dX10_compile_171 : decode cX10_compile 171 = .ok (.if_icmp .lt 11, 3) := by decide +kernel
theorem dX10_compile_182 : decode cX10_compile 182 = .ok (.aload_n 0, 1) := by decide +kernel
theorem dX10_compile_183 : decode cX10_compile 183 = .ok (.iload_n 1, 1) := by decide +kernel
theorem dX10_compile_184 : decode cX10_compile 184 = .ok (.putfield 34, 3) := by decide +kernel
theorem dX10_compile_187 : decode cX10_compile 187 = .ok (.iconst 1, 1) := by decide +kernel
theorem dX10_compile_188 : decode cX10_compile 188 = .ok (.ireturn, 1) := by decide +kernel
theorem dX10_emptyTape_0 : decode cX10_emptyTape 0 = .ok (.aload_n 0, 1) := by decide +kernel
theorem dX10_emptyTape_1 : decode cX10_emptyTape 1 = .ok (.iconst 0, 1) := by decide +kernel
theorem dX10_emptyTape_2 : decode cX10_emptyTape 2 = .ok (.putfield 38, 3) := by decide +kernel
theorem dX10_emptyTape_5 : decode cX10_emptyTape 5 = .ok (.return_, 1) := by decide +kernel
theorem dX11_read_0 : decode cX11_read 0 = .ok (.aload_n 0, 1) := by decide +kernel
theorem dX11_read_1 : decode cX11_read 1 = .ok (.iload_n 1, 1) := by decide +kernel
theorem dX11_read_2 : decode cX11_read 2 = .ok (.invokevirtual 107, 3) := by decide +kernel
theorem dX11_read_5 : decode cX11_read 5 = .ok (.astore_n 2, 1) := by decide +kernel
theorem dX11_read_6 : decode cX11_read 6 = .ok (.aload_n 2, 1) := by decide +kernel
theorem dX11_read_7 : decode cX11_read 7 = .ok (.ifnonnull 5, 3) := by decide +kernel
theorem dX11_read_10 : decode cX11_read 10 = .ok (.iconst (-1), 1) := by decide +kernel
theorem dX11_read_11 : decode cX11_read 11 = .ok (.ireturn, 1) := by decide +kernel
theorem dX11_read_12 : decode cX11_read 12 = .ok (.aload_n 0, 1) := by decide +kernel
theorem dX11_read_13 : decode cX11_read 13 = .ok (.getfield 42, 3) := by decide +kernel
theorem dX11_read_16 : decode cX11_read 16 = .ok (.invokevirtual 111, 3) := by decide +kernel
theorem dX11_read_19 : decode cX11_read 19 = .ok (.aload_n 0, 1) := by decide +kernel
theorem dX11_read_20 : decode cX11_read 20 = .ok (.getfield 67, 3) := by decide +kernel
theorem dX11_read_23 : decode cX11_read 23 = .ok (.invokevirtual 114, 3) := by decide +kernel
theorem dX11_read_26 : decode cX11_read 26 = .ok (.istore_n 3, 1) := by decide +kernel
theorem dX11_read_27 : decode cX11_read 27 = .ok (.iconst 0, 1) := by decide +kernel
theorem dX11_read_28 : decode cX11_read 28 = .ok (.istore 4, 2) := by decide +kernel
theorem dX11_read_30 : decode cX11_read 30 = .ok (.iload 4, 2) := by decide +kernel
theorem dX11_read_32 : decode cX11_read 32 = .ok (.aload_n 0, 1) := by decide +kernel
theorem dX11_read_33 : decode cX11_read 33 = .ok (.getfield 67, 3) := by decide +kernel
theorem dX11_read_36 : decode cX11_read 36 = .ok (.getfield 118, 3) := by decide +kernel
theorem dX11_read_39 : decode cX11_read 39 = .ok (.if_icmp .ge 301, 3) := by decide +kernel
theorem dX11_read_340 : decode cX11_read 340 = .ok (.aload_n 0, 1) := by decide +kernel
theorem dX11_read_341 : decode cX11_read 341 = .ok (.getfield 67, 3) := by decide +kernel
theorem dX11_read_344 : decode cX11_read 344 = .ok (.invokevirtual 160, 3) := by decide +kernel
theorem dX11_read_347 : decode cX11_read 347 = .ok (.iload_n 3, 1) := by decide +kernel
theorem dX11_read_348 : decode cX11_read 348 = .ok (.ifCond .ne 15, 3) := by decide +kernel
theorem dX11_read_363 : decode cX11_read 363 = .ok (.iload_n 3, 1) := by decide +kernel
theorem dX11_read_364 : decode cX11_read 364 = .ok (.ifCond .eq 8, 3) := by decide +kernel
theorem dX11_read_367 : decode cX11_read 367 = .ok (.bipush (-10), 2) := by decide +kernel
theorem dX11_read_369 : decode cX11_read 369 = .ok (.iload_n 3, 1) := by decide +kernel
theorem dX11_read_370 : decode cX11_read 370 = .ok (.isub, 1) := by decide +kernel
theorem dX11_read_371 : decode cX11_read 371 = .ok (.ireturn, 1) := by decide +kernel
theorem dX10_append_0 : decode cX10_append 0 = .ok (.iload_n 3, 1) := by decide +kernel
theorem dX10_append_1 : decode cX10_append 1 = .ok (.iconst 1, 1) := by decide +kernel
theorem dX10_append_2 : decode cX10_append 2 = .ok (.if_icmp .lt 21, 3) := by decide +kernel
theorem dX10_append_23 : decode cX10_append 23 = .ok (.iconst (-1), 1) := by decide +kernel
theorem dX10_append_24 : decode cX10_append 24 = .ok (.ireturn, 1) := by decide +kernel
theorem dX10_append_5 : decode cX10_append 5 = .ok (.iload_n 3, 1) := by decide +kernel
theorem dX10_append_6 : decode cX10_append 6 = .ok (.bipush 8, 2) := by decide +kernel
theorem dX10_append_8 : decode cX10_append 8 = .ok (.if_icmp .gt 15, 3) := by decide +kernel
theorem dX10_append_11 : decode cX10_append 11 = .ok (.iload_n 3, 1) := by decide +kernel
theorem dX10_append_12 : decode cX10_append 12 = .ok (.sipush 400, 3) := by decide +kernel
theorem dX10_append_15 : decode cX10_append 15 = .ok (.aload_n 0, 1) := by decide +kernel
theorem dX10_append_16 : decode cX10_append 16 = .ok (.getfield 38, 3) := by decide +kernel
theorem dX10_append_19 : decode cX10_append 19 = .ok (.isub, 1) := by decide +kernel
theorem dX10_append_20 : decode cX10_append 20 = .ok (.if_icmp .le 5, 3) := by decide +kernel
theorem dX10_append_25 : decode cX10_append 25 = .ok (.iload_n 3, 1) := by decide +kernel
theorem dX10_append_26 : decode cX10_append 26 = .ok (.iconst 1, 1) := by decide +kernel
theorem dX10_append_27 : decode cX10_append 27 = .ok (.isub, 1) := by decide +kernel
theorem dX10_append_28 : decode cX10_append 28 = .ok (.istore 4, 2) := by decide +kernel
theorem dX10_append_30 : decode cX10_append 30 = .ok (.iload 4, 2) := by decide +kernel
theorem dX10_append_32 : decode cX10_append 32 = .ok (.ifCond .lt 57, 3) := by decide +kernel
theorem dX10_append_35 : decode cX10_append 35 = .ok (.aload_n 0, 1) := by decide +kernel
theorem dX10_append_36 : decode cX10_append 36 = .ok (.getfield 38, 3) := by decide +kernel
theorem dX10_append_39 : decode cX10_append 39 = .ok (.ifCond .lt 44, 3) := by decide +kernel
theorem dX10_append_42 : decode cX10_append 42 = .ok (.aload_n 0, 1) := by decide +kernel
theorem dX10_append_43 : decode cX10_append 43 = .ok (.getfield 38, 3) := by decide +kernel
theorem dX10_append_46 : decode cX10_append 46 = .ok (.sipush 400, 3) := by decide +kernel
theorem dX10_append_49 : decode cX10_append 49 = .ok (.if_icmp .ge 34, 3) := by decide +kernel
theorem dX10_append_52 : decode cX10_append 52 = .ok (.aload_n 0, 1) := by decide +kernel
theorem dX10_append_53 : decode cX10_append 53 = .ok (.getfield 15, 3) := by decide +kernel
theorem dX10_append_56 : decode cX10_append 56 = .ok (.aload_n 0, 1) := by decide +kernel
theorem dX10_append_57 : decode cX10_append 57 = .ok (.getfield 38, 3) := by decide +kernel
theorem dX10_append_60 : decode cX10_append 60 = .ok (.lload_n 1, 1) := by decide +kernel
theorem dX10_append_61 : decode cX10_append 61 = .ok (.bipush 8, 2) := by decide +kernel
theorem dX10_append_63 : decode cX10_append 63 = .ok (.iload 4, 2) := by decide +kernel
theorem dX10_append_65 : decode cX10_append 65 = .ok (.imul, 1) := by decide +kernel
theorem dX10_append_66 : decode cX10_append 66 = .ok (.lshr, 1) := by decide +kernel
theorem dX10_append_67 : decode cX10_append 67 = .ok (.ldc2_w 41, 3) := by decide +kernel
theorem dX10_append_70 : decode cX10_append 70 = .ok (.land, 1) := by decide +kernel
theorem dX10_append_71 : decode cX10_append 71 = .ok (.l2i, 1) := by decide +kernel
theorem dX10_append_72 : decode cX10_append 72 = .ok (.iastore, 1) := by decide +kernel
theorem dX10_append_73 : decode cX10_append 73 = .ok (.aload_n 0, 1) := by decide +kernel
theorem dX10_append_74 : decode cX10_append 74 = .ok (.dup, 1) := by decide +kernel
theorem dX10_append_75 : decode cX10_append 75 = .ok (.getfield 38, 3) := by decide +kernel
theorem dX10_append_78 : decode cX10_append 78 = .ok (.iconst 1, 1) := by decide +kernel
theorem dX10_append_79 : decode cX10_append 79 = .ok (.iadd, 1) := by decide +kernel
theorem dX10_append_80 : decode cX10_append 80 = .ok (.putfield 38, 3) := by decide +kernel
theorem dX10_append_83 : decode cX10_append 83 = .ok (.iinc 4 (-1), 3) := by decide +kernel
theorem dX10_append_86 : decode cX10_append 86 = .ok (.goto (-56), 3) := by decide +kernel
theorem dX10_append_89 : decode cX10_append 89 = .ok (.aload_n 0, 1) := by decide +kernel
theorem dX10_append_90 : decode cX10_append 90 = .ok (.getfield 38, 3) := by decide +kernel
theorem dX10_append_93 : decode cX10_append 93 = .ok (.ireturn, 1) := by decide +kernel
theorem dX11_type_0 : decode cX11_type 0 = .ok (.aload_n 0, 1) := by decide +kernel
theorem dX11_type_1 : decode cX11_type 1 = .ok (.getfield 67, 3) := by decide +kernel
theorem dX11_type_4 : decode cX11_type 4 = .ok (.lload_n 1, 1) := by decide +kernel
theorem dX11_type_5 : decode cX11_type 5 = .ok (.iload_n 3, 1) := by decide +kernel
theorem dX11_type_6 : decode cX11_type 6 = .ok (.invokevirtual 103, 3) := by decide +kernel
theorem dX11_type_9 : decode cX11_type 9 = .ok (.ireturn, 1) := by decide +kernel
theorem zrefs_k {f : Nat → Nat} {n k : Nat} {x : Int32} (h : x.toNatClampNeg = k) (hk : k < n) : zrefs f n x.toNatClampNeg = some (f k) := by
  rw [h]; exact if_pos hk
theorem zvp {i : Int32} {n : Nat} (h : ¬ (i < 0 ∨ n ≤ i.toNatClampNeg)) : vp_in i n := h
def zcount (x : Int32) : Int32 := if x < 0 then -1 else if 5 < x then -1 else 0
def ztype (x : Int32) : Int32 := if x < 1 then -1 else if 8 < x then -1 else x
def ztape (v : Int64) (N : Nat) : Nat → Nat → Int32
  | 0 => fun _ => 0
  | j + 1 => upd (ztape v N j) j (((v >>> ((8 * ((nI N) - 1 - (nI j))).toInt64 &&& 63)) &&& 255).toInt32)
theorem zdl : ∀ N, N < 9 → ∀ j, j < N → ¬ (nI N) - 1 - (nI j) < 0 := by decide
theorem zde : ∀ N, N < 9 → (nI N) - 1 - (nI N) < 0 := by decide
theorem zdn : ∀ N, N < 9 → ∀ j, j < N → ((nI N) - 1 - (nI j)) + (-1) = (nI N) - 1 - (nI (j + 1)) := by decide
theorem zd0 : ∀ N, N < 9 → (nI N) - 1 = (nI N) - 1 - (nI 0) := by decide
theorem ztyp {x : Int32} (h1 : ¬ x < 1) (h2 : ¬ 8 < x) : ∃ N : Nat, N < 9 ∧ x = nI N := by
  rcases pk_ix x (n := 9) (by decide) with h | h | ⟨j, hj, rfl⟩
  · exact absurd (Int32.lt_trans h (by decide)) h1
  · exact absurd (Int32.lt_of_lt_of_le (by decide) h) h2
  · exact ⟨j, hj, rfl⟩

set_option maxHeartbeats 4000000 in
set_option maxRecDepth 100000 in
theorem c_X11_place (l : Launch) (dC : Nat → ClassId) (dI : Nat → Nat → Nat) (aC : Nat → ClassId) (h0 b : Nat) (sz : Nat) : Met l yX11_place w_X11_place ({ frames := 1, cells := 0, slots := 0, locals := 24 }) (zPre (dC, dI) aC [(h0, .inr (10, [.ref (b + 0), .ref (b + 73), .ref (b + 75), .ref (b + 76), .ref (b + 80), .ref (b + 81), .ref (b + 88), .ref (b + 95), .ref (b + 100), .ref (b + 106), .int 0, .ref (b + 107), .int 0])), (b + 88, .inr (9, [.ref (b + 81), .ref (b + 89), .int 0, .ref (b + 90), .int 0, .ref (b + 91), .int 0, .ref (b + 92), .int 0, .ref (b + 93), .int 0, .int 0, .int 0, .ref (b + 94), .int 0, .int 0, .int 0, .int 0, .int (-1)]))] sz [.ref h0]) (va_Qi (fun (r : Int32) (_ : Unit) => r = -1) (fun _ zt => zt.heap.size = sz) (zN sz)) 0 0 (zN sz) := by
  refine Met.ofW (cc := cX11_place) (maxL := 1) (ret := (some .int)) (by decide) rfl ?_
  intro p e s m args below meth c s₁ B hml hv
  generalize hQ : MQ below _ _ s _ _ _ = QQ
  obtain ⟨rfl, hsz, hP, hK, hD0⟩ := hv
  have hx := B.exec
  have hb := B.bytes
  have hr := B.returns
  have hts := atoms_spec (ws := w_X11_place) B.pre
  have hall := fun (w : Cond) (h : w ∈ zAll) => hts w (List.mem_cons_of_mem _ h)
  have hown : s.vm.findClass RX11 = some m.cls := findClass_of_methodNamed B.named
  have hlocks := B.notSynchronized
  subst hsz
  have hA : ∀ q : Nat, s.heap.size ≤ q → zN s.heap.size q := fun q h => h
  have hS : va_S (zN s.heap.size) s.heap s.heap [] := va_S.rf
  have hD := hD0
  have hl := lv_entry ([.ref h0]) (n := 1) (Nat.le_of_ble_eq_true rfl)
  rw [lg_entry_eq]
  generalize (lg_sl ([.ref h0]) ++ List.replicate (1 - (lg_sl ([.ref h0])).length) Slot.unset).toArray = ls at hl ⊢
  have hl : lv_has ls 1 [(0, .ref h0)] := hl
  refine lv_aload_n hx hb dX11_place_0 rfl (lv_at hl 0 rfl) ?_
  refine va_get (D := (dC, dI)) (ci := 10) (v := .ref (b + 88)) (C := RX11) (T := TX11) (N := 13) hx hb hall zx_11 hown hK.1 hP 0 rfl rfl 6 (by decide) (hall _ zw_197) (fun _ h9 => h9) rfl dX11_place_1 ?_
  refine va_get (D := (dC, dI)) (ci := 9) (v := .int (-1)) (C := RX10) (T := TX10) (N := 19) hx hb hall zx_10 hown hK.1 hP 1 rfl rfl 18 (by decide) (hall _ zw_247) (fun _ h9 => h9) rfl dX11_place_4 ?_
  rw [← hQ]
  exact W.iret (v := (-1)) hx hb hr (fun zt ht hW => ⟨⟨(-1), (), rfl, rfl, (show zt.heap.size = s.heap.size by rw [ht])⟩, hS.F ht⟩) hS.2.2 dX11_place_7

set_option maxHeartbeats 4000000 in
set_option maxRecDepth 100000 in
theorem c_X10_inscribed (l : Launch) (dC : Nat → ClassId) (dI : Nat → Nat → Nat) (aC : Nat → ClassId) (b : Nat) (x : Int32) (sz : Nat) : Met l yX10_inscribed w_X10_inscribed ({ frames := 1, cells := 0, slots := 0, locals := 24 }) (zPre (dC, dI) aC [(b + 88, .inr (9, [.ref (b + 81), .ref (b + 89), .int 0, .ref (b + 90), .int 0, .ref (b + 91), .int 0, .ref (b + 92), .int 0, .ref (b + 93), .int 0, .int 0, .int 0, .ref (b + 94), .int 0, .int 0, .int 0, .int 0, .int (-1)]))] sz [.ref (b + 88), .int x]) (va_Qi (fun (r : Int32) (_ : Unit) => r = -1) (fun _ zt => zt.heap.size = sz) (zN sz)) 0 0 (zN sz) := by
  refine Met.ofW (cc := cX10_inscribed) (maxL := 2) (ret := (some .int)) (by decide) rfl ?_
  intro p e s m args below meth c s₁ B hml hv
  generalize hQ : MQ below _ _ s _ _ _ = QQ
  obtain ⟨rfl, hsz, hP, hK, hD0⟩ := hv
  have hx := B.exec
  have hb := B.bytes
  have hr := B.returns
  have hts := atoms_spec (ws := w_X10_inscribed) B.pre
  have hall := fun (w : Cond) (h : w ∈ zAll) => hts w (List.mem_cons_of_mem _ h)
  have hown : s.vm.findClass RX10 = some m.cls := findClass_of_methodNamed B.named
  have hlocks := B.notSynchronized
  subst hsz
  have hA : ∀ q : Nat, s.heap.size ≤ q → zN s.heap.size q := fun q h => h
  have hS : va_S (zN s.heap.size) s.heap s.heap [] := va_S.rf
  have hD := hD0
  have hl := lv_entry ([.ref (b + 88), .int x]) (n := 2) (Nat.le_of_ble_eq_true rfl)
  rw [lg_entry_eq]
  generalize (lg_sl ([.ref (b + 88), .int x]) ++ List.replicate (2 - (lg_sl ([.ref (b + 88), .int x])).length) Slot.unset).toArray = ls at hl ⊢
  have hl : lv_has ls 2 [(0, .ref (b + 88)), (1, .int x)] := hl
  refine lv_iload_n hx hb dX10_inscribed_0 rfl (lv_at hl 1 rfl) ?_
  refine lv_if_lt (tgt := 28) hx hb dX10_inscribed_1 (by decide) (fun c_1_b9001 => ?_) (fun c_1_b9001 => ?_)
  · refine lv_iconst (v := (-1)) hx hb dX10_inscribed_28 (by decide) ?_
    rw [← hQ]
    exact W.iret (v := (-1)) hx hb hr (fun zt ht hW => ⟨⟨(-1), (), rfl, rfl, (show zt.heap.size = s.heap.size by rw [ht])⟩, hS.F ht⟩) hS.2.2 dX10_inscribed_29
  · refine lv_iload_n hx hb dX10_inscribed_4 rfl (lv_at hl 1 rfl) ?_
    refine lv_aload_n hx hb dX10_inscribed_5 rfl (lv_at hl 0 rfl) ?_
    refine va_get (D := (dC, dI)) (ci := 9) (v := .int 0) (C := RX10) (T := TX10) (N := 19) hx hb hall zx_10 hown hK.1 hP 0 rfl rfl 4 (by decide) (hall _ zw_157) (fun _ h9 => h9) rfl dX10_inscribed_6 ?_
    refine lv_icmp_ge (tgt := 28) hx hb dX10_inscribed_9 (by decide) (fun _ => ?_) (fun c_9_b9002 => absurd (Int32.not_lt.mp c_1_b9001) c_9_b9002)
    show W p l e _ s m _ below meth c _ _ _ _ QQ (F0 m 28 ls [])
    refine lv_iconst (v := (-1)) hx hb dX10_inscribed_28 (by decide) ?_
    rw [← hQ]
    exact W.iret (v := (-1)) hx hb hr (fun zt ht hW => ⟨⟨(-1), (), rfl, rfl, (show zt.heap.size = s.heap.size by rw [ht])⟩, hS.F ht⟩) hS.2.2 dX10_inscribed_29

set_option maxHeartbeats 4000000 in
set_option maxRecDepth 100000 in
theorem c_X11_written (l : Launch) (dC : Nat → ClassId) (dI : Nat → Nat → Nat) (aC : Nat → ClassId) (h0 b : Nat) (x : Int32) (sz : Nat) : Met l yX11_written w_X11_written ({ frames := 2, cells := 0, slots := 0, locals := 45 }) (zPre (dC, dI) aC [(h0, .inr (10, [.ref (b + 0), .ref (b + 73), .ref (b + 75), .ref (b + 76), .ref (b + 80), .ref (b + 81), .ref (b + 88), .ref (b + 95), .ref (b + 100), .ref (b + 106), .int 0, .ref (b + 107), .int 0])), (b + 88, .inr (9, [.ref (b + 81), .ref (b + 89), .int 0, .ref (b + 90), .int 0, .ref (b + 91), .int 0, .ref (b + 92), .int 0, .ref (b + 93), .int 0, .int 0, .int 0, .ref (b + 94), .int 0, .int 0, .int 0, .int 0, .int (-1)]))] sz [.ref h0, .int x]) (va_Qi (fun (r : Int32) (_ : Unit) => r = -1) (fun _ zt => zt.heap.size = sz) (zN sz)) 0 0 (zN sz) := by
  refine Met.ofW (cc := cX11_written) (maxL := 2) (ret := (some .int)) (by decide) rfl ?_
  intro p e s m args below meth c s₁ B hml hv
  generalize hQ : MQ below _ _ s _ _ _ = QQ
  obtain ⟨rfl, hsz, hP, hK, hD0⟩ := hv
  have hx := B.exec
  have hb := B.bytes
  have hr := B.returns
  have hts := atoms_spec (ws := w_X11_written) B.pre
  have hall := fun (w : Cond) (h : w ∈ zAll) => hts w (List.mem_cons_of_mem _ h)
  have hown : s.vm.findClass RX11 = some m.cls := findClass_of_methodNamed B.named
  have hlocks := B.notSynchronized
  subst hsz
  have hA : ∀ q : Nat, s.heap.size ≤ q → zN s.heap.size q := fun q h => h
  have hS : va_S (zN s.heap.size) s.heap s.heap [] := va_S.rf
  have hD := hD0
  have hl := lv_entry ([.ref h0, .int x]) (n := 2) (Nat.le_of_ble_eq_true rfl)
  rw [lg_entry_eq]
  generalize (lg_sl ([.ref h0, .int x]) ++ List.replicate (2 - (lg_sl ([.ref h0, .int x])).length) Slot.unset).toArray = ls at hl ⊢
  have hl : lv_has ls 2 [(0, .ref h0), (1, .int x)] := hl
  refine lv_aload_n hx hb dX11_written_0 rfl (lv_at hl 0 rfl) ?_
  refine va_get (D := (dC, dI)) (ci := 10) (v := .ref (b + 88)) (C := RX11) (T := TX11) (N := 13) hx hb hall zx_11 hown hK.1 hP 0 rfl rfl 6 (by decide) (hall _ zw_197) (fun _ h9 => h9) rfl dX11_written_1 ?_
  refine lv_iload_n hx hb dX11_written_4 rfl (lv_at hl 1 rfl) ?_
  refine zro_i hS hA (va_runV (As := [.int x]) (rest := []) ⟨hx, hb, hml, hown, hall⟩ (c_X10_inscribed l dC dI aC b x s.heap.size) (cwV 1 hall (zgV zw_251 zw_253 zw_254 zw_800 g_X10_inscribed rfl) rfl rfl rfl (by decide +kernel) ⟨Nat.le_of_ble_eq_true rfl, Nat.le_of_ble_eq_true rfl⟩) (zPre_V (As := [.int x]) hK hP hD [1] rfl (by decide +kernel) (ci := 9) (q0 := 0) rfl rfl) rfl rfl hl.1 rfl (lv_room (Nat.le_of_ble_eq_true rfl)) dX11_written_5 ⟨Nat.le_of_ble_eq_true rfl, Nat.le_of_ble_eq_true rfl⟩) (fun r9003 L9004 hw hS' => ?_)
  clear hS
  have hS := hS'
  clear hS'
  obtain rfl : r9003 = (-1) := hw
  try clear hw
  rw [← hQ]
  exact W.iret (v := (-1)) hx hb hr (fun zt ht hW => ⟨⟨(-1), (), rfl, rfl, (show zt.heap.size = s.heap.size by rw [ht])⟩, hS.F ht⟩) hS.2.2 dX11_written_8

set_option maxHeartbeats 4000000 in
set_option maxRecDepth 100000 in
theorem c_X11_root (l : Launch) (dC : Nat → ClassId) (dI : Nat → Nat → Nat) (aC : Nat → ClassId) (h0 b : Nat) (x : Int32) (sz : Nat) : Met l yX11_root w_X11_root ({ frames := 1, cells := 0, slots := 0, locals := 24 }) (zPre (dC, dI) aC [(h0, .inr (10, [.ref (b + 0), .ref (b + 73), .ref (b + 75), .ref (b + 76), .ref (b + 80), .ref (b + 81), .ref (b + 88), .ref (b + 95), .ref (b + 100), .ref (b + 106), .int 0, .ref (b + 107), .int 0]))] sz [.ref h0, .int x]) (va_Qi (fun (r : Int32) (_ : Unit) => r = -1) (fun _ zt => zt.heap.size = sz) (zN sz)) 0 0 (zN sz) := by
  refine Met.ofW (cc := cX11_root) (maxL := 2) (ret := (some .int)) (by decide) rfl ?_
  intro p e s m args below meth c s₁ B hml hv
  generalize hQ : MQ below _ _ s _ _ _ = QQ
  obtain ⟨rfl, hsz, hP, hK, hD0⟩ := hv
  have hx := B.exec
  have hb := B.bytes
  have hr := B.returns
  have hts := atoms_spec (ws := w_X11_root) B.pre
  have hall := fun (w : Cond) (h : w ∈ zAll) => hts w (List.mem_cons_of_mem _ h)
  have hown : s.vm.findClass RX11 = some m.cls := findClass_of_methodNamed B.named
  have hlocks := B.notSynchronized
  subst hsz
  have hA : ∀ q : Nat, s.heap.size ≤ q → zN s.heap.size q := fun q h => h
  have hS : va_S (zN s.heap.size) s.heap s.heap [] := va_S.rf
  have hD := hD0
  have hl := lv_entry ([.ref h0, .int x]) (n := 2) (Nat.le_of_ble_eq_true rfl)
  rw [lg_entry_eq]
  generalize (lg_sl ([.ref h0, .int x]) ++ List.replicate (2 - (lg_sl ([.ref h0, .int x])).length) Slot.unset).toArray = ls at hl ⊢
  have hl : lv_has ls 2 [(0, .ref h0), (1, .int x)] := hl
  refine lv_iload_n hx hb dX11_root_0 rfl (lv_at hl 1 rfl) ?_
  refine lv_if_lt (tgt := 27) hx hb dX11_root_1 (by decide) (fun c_1_b9005 => ?_) (fun c_1_b9005 => ?_)
  · refine lv_iconst (v := (-1)) hx hb dX11_root_27 (by decide) ?_
    rw [← hQ]
    exact W.iret (v := (-1)) hx hb hr (fun zt ht hW => ⟨⟨(-1), (), rfl, rfl, (show zt.heap.size = s.heap.size by rw [ht])⟩, hS.F ht⟩) hS.2.2 dX11_root_28
  · refine lv_iload_n hx hb dX11_root_4 rfl (lv_at hl 1 rfl) ?_
    refine lv_aload_n hx hb dX11_root_5 rfl (lv_at hl 0 rfl) ?_
    refine va_get (D := (dC, dI)) (ci := 10) (v := .int 0) (C := RX11) (T := TX11) (N := 13) hx hb hall zx_11 hown hK.1 hP 0 rfl rfl 12 (by decide) (hall _ zw_211) (fun _ h9 => h9) rfl dX11_root_6 ?_
    refine lv_icmp_ge (tgt := 27) hx hb dX11_root_9 (by decide) (fun _ => ?_) (fun c_9_b9006 => absurd (Int32.not_lt.mp c_1_b9005) c_9_b9006)
    show W p l e _ s m _ below meth c _ _ _ _ QQ (F0 m 27 ls [])
    refine lv_iconst (v := (-1)) hx hb dX11_root_27 (by decide) ?_
    rw [← hQ]
    exact W.iret (v := (-1)) hx hb hr (fun zt ht hW => ⟨⟨(-1), (), rfl, rfl, (show zt.heap.size = s.heap.size by rw [ht])⟩, hS.F ht⟩) hS.2.2 dX11_root_28

set_option maxHeartbeats 4000000 in
set_option maxRecDepth 100000 in
theorem c_X11_clear (l : Launch) (dC : Nat → ClassId) (dI : Nat → Nat → Nat) (aC : Nat → ClassId) (h0 b : Nat) (sz : Nat) : Met l yX11_clear w_X11_clear ({ frames := 1, cells := 0, slots := 0, locals := 24 }) (zPre (dC, dI) aC [(h0, .inr (10, [.ref (b + 0), .ref (b + 73), .ref (b + 75), .ref (b + 76), .ref (b + 80), .ref (b + 81), .ref (b + 88), .ref (b + 95), .ref (b + 100), .ref (b + 106), .int 0, .ref (b + 107), .int 0]))] sz [.ref h0]) (va_Qi (fun (r : Int32) (u : Unit) => r = 0) (fun u zt => zB (dC, dI) [] (va_A [(h0, .inr (10, [.ref (b + 0), .ref (b + 73), .ref (b + 75), .ref (b + 76), .ref (b + 80), .ref (b + 81), .ref (b + 88), .ref (b + 95), .ref (b + 100), .ref (b + 106), .int 0, .ref (b + 107), .int 0]))] sz) (sz + 0) zt) (va_A [(h0, .inr (10, [.ref (b + 0), .ref (b + 73), .ref (b + 75), .ref (b + 76), .ref (b + 80), .ref (b + 81), .ref (b + 88), .ref (b + 95), .ref (b + 100), .ref (b + 106), .int 0, .ref (b + 107), .int 0]))] sz)) 0 0 (va_A [(h0, .inr (10, [.ref (b + 0), .ref (b + 73), .ref (b + 75), .ref (b + 76), .ref (b + 80), .ref (b + 81), .ref (b + 88), .ref (b + 95), .ref (b + 100), .ref (b + 106), .int 0, .ref (b + 107), .int 0]))] sz) := by
  refine Met.ofW (cc := cX11_clear) (maxL := 2) (ret := (some .int)) (by decide) rfl ?_
  intro p e s m args below meth c s₁ B hml hv
  generalize hQ : MQ below _ _ s _ _ _ = QQ
  obtain ⟨rfl, hsz, hP, hK, hD0⟩ := hv
  have hx := B.exec
  have hb := B.bytes
  have hr := B.returns
  have hts := atoms_spec (ws := w_X11_clear) B.pre
  have hall := fun (w : Cond) (h : w ∈ zAll) => hts w (List.mem_cons_of_mem _ h)
  have hown : s.vm.findClass RX11 = some m.cls := findClass_of_methodNamed B.named
  have hlocks := B.notSynchronized
  subst hsz
  have hD := hD0.self (sz := s.heap.size)
  generalize hAe : va_A [(h0, .inr (10, [.ref (b + 0), .ref (b + 73), .ref (b + 75), .ref (b + 76), .ref (b + 80), .ref (b + 81), .ref (b + 88), .ref (b + 95), .ref (b + 100), .ref (b + 106), .int 0, .ref (b + 107), .int 0]))] s.heap.size = A at hD ⊢
  have hA : ∀ q : Nat, s.heap.size ≤ q → A q := fun q h => by rw [← hAe]; exact Or.inr h
  have hS : va_S A s.heap s.heap [] := va_S.rf
  have hz0 : s.heap.size = s.heap.size + 0 := rfl
  have hl := lv_entry ([.ref h0]) (n := 2) (Nat.le_of_ble_eq_true rfl)
  rw [lg_entry_eq]
  generalize (lg_sl ([.ref h0]) ++ List.replicate (2 - (lg_sl ([.ref h0])).length) Slot.unset).toArray = ls at hl ⊢
  have hl : lv_has ls 2 [(0, .ref h0)] := hl
  refine lv_aload_n hx hb dX11_clear_0 rfl (lv_at hl 0 rfl) ?_
  refine va_get (D := (dC, dI)) (ci := 10) (v := .int 0) (C := RX11) (T := TX11) (N := 13) hx hb hall zx_11 hown hK.1 hP 0 rfl rfl 10 (by decide) (hall _ zw_209) (fun _ h9 => h9) rfl dX11_clear_1 ?_
  refine lv_istore_n (lv' := [(1, .int 0), (0, .ref h0)]) hx hb dX11_clear_4 rfl hl (by decide) rfl (fun ls9007 hl' => ?_)
  clear hl
  have hl : lv_has ls9007 2 [(1, .int 0), (0, .ref h0)] := hl'
  clear hl'
  refine lv_aload_n hx hb dX11_clear_5 rfl (lv_at hl 1 rfl) ?_
  refine lv_iconst (v := 0) hx hb dX11_clear_6 (by decide) ?_
  show W p l e _ s m _ below meth c _ _ _ _ QQ (F0 m 7 ls9007 [.int 0, .ref h0])
  refine zput (D := (dC, dI)) (ci := 10) (v := .int 0) (ty := .int) (C := RX11) (T := TX11) (N := 13) hx hb hall zx_11 tyX11 tyX11_ok nmX11 hown hK.1 hP hD hS 0 rfl rfl 10 (by decide) (hall _ zw_209) (fun _ h9 => h9) rfl (by decide +kernel) rfl rfl (Nat.le_of_ble_eq_true rfl) dX11_clear_7 (fun H9008 L9009 hB hP' hD' hS' => ?_)
  replace hz0 : H9008.size = s.heap.size + 0 := hB.1.trans hz0
  clear hP hD hS hB
  have hP : va_P (dC, dI) vwCl [(h0, .inr (10, [.ref (b + 0), .ref (b + 73), .ref (b + 75), .ref (b + 76), .ref (b + 80), .ref (b + 81), .ref (b + 88), .ref (b + 95), .ref (b + 100), .ref (b + 106), .int 0, .ref (b + 107), .int 0]))] H9008 := hP'
  have hD : va_D A [(h0, .inr (10, [.ref (b + 0), .ref (b + 73), .ref (b + 75), .ref (b + 76), .ref (b + 80), .ref (b + 81), .ref (b + 88), .ref (b + 95), .ref (b + 100), .ref (b + 106), .int 0, .ref (b + 107), .int 0]))] := hD'
  have hS : va_S A s.heap H9008 L9009 := hS'
  clear hP' hD' hS'
  refine lv_iload_n hx hb dX11_clear_10 rfl (lv_at hl 0 rfl) ?_
  refine W.widen (k := 0) (n := 0) (Nat.le_of_ble_eq_true rfl) (Nat.le_of_ble_eq_true rfl) ?_
  rw [← hQ, hAe]
  have hP := zsubP (wc := []) hP [] rfl
  have hD := hD.sub (ws' := []) [] (by decide) rfl
  exact W.iret (v := 0) hx hb hr (fun zt ht hW => ⟨⟨0, (), rfl, rfl, by rw [ht]; exact hP, hD, by rw [ht]; exact hz0⟩, hS.F ht⟩) hS.2.2 dX11_clear_11

set_option maxHeartbeats 4000000 in
set_option maxRecDepth 100000 in
theorem c_X10_retype (l : Launch) (dC : Nat → ClassId) (dI : Nat → Nat → Nat) (aC : Nat → ClassId) (b : Nat) (sz : Nat) : Met l yX10_retype w_X10_retype ({ frames := 1, cells := 0, slots := 0, locals := 24 }) (zPre (dC, dI) aC [(b + 88, .inr (9, [.ref (b + 81), .ref (b + 89), .int 0, .ref (b + 90), .int 0, .ref (b + 91), .int 0, .ref (b + 92), .int 0, .ref (b + 93), .int 0, .int 0, .int 0, .ref (b + 94), .int 0, .int 0, .int 0, .int 0, .int (-1)]))] sz [.ref (b + 88)]) (va_Qi (fun (r : Int32) (u : Unit) => r = 0) (fun u zt => zB (dC, dI) [] (va_A [(b + 88, .inr (9, [.ref (b + 81), .ref (b + 89), .int 0, .ref (b + 90), .int 0, .ref (b + 91), .int 0, .ref (b + 92), .int 0, .ref (b + 93), .int 0, .int 0, .int 0, .ref (b + 94), .int 0, .int 0, .int 0, .int 0, .int (-1)]))] sz) (sz + 0) zt) (va_A [(b + 88, .inr (9, [.ref (b + 81), .ref (b + 89), .int 0, .ref (b + 90), .int 0, .ref (b + 91), .int 0, .ref (b + 92), .int 0, .ref (b + 93), .int 0, .int 0, .int 0, .ref (b + 94), .int 0, .int 0, .int 0, .int 0, .int (-1)]))] sz)) 0 0 (va_A [(b + 88, .inr (9, [.ref (b + 81), .ref (b + 89), .int 0, .ref (b + 90), .int 0, .ref (b + 91), .int 0, .ref (b + 92), .int 0, .ref (b + 93), .int 0, .int 0, .int 0, .ref (b + 94), .int 0, .int 0, .int 0, .int 0, .int (-1)]))] sz) := by
  refine Met.ofW (cc := cX10_retype) (maxL := 2) (ret := (some .int)) (by decide) rfl ?_
  intro p e s m args below meth c s₁ B hml hv
  generalize hQ : MQ below _ _ s _ _ _ = QQ
  obtain ⟨rfl, hsz, hP, hK, hD0⟩ := hv
  have hx := B.exec
  have hb := B.bytes
  have hr := B.returns
  have hts := atoms_spec (ws := w_X10_retype) B.pre
  have hall := fun (w : Cond) (h : w ∈ zAll) => hts w (List.mem_cons_of_mem _ h)
  have hown : s.vm.findClass RX10 = some m.cls := findClass_of_methodNamed B.named
  have hlocks := B.notSynchronized
  subst hsz
  have hD := hD0.self (sz := s.heap.size)
  generalize hAe : va_A [(b + 88, .inr (9, [.ref (b + 81), .ref (b + 89), .int 0, .ref (b + 90), .int 0, .ref (b + 91), .int 0, .ref (b + 92), .int 0, .ref (b + 93), .int 0, .int 0, .int 0, .ref (b + 94), .int 0, .int 0, .int 0, .int 0, .int (-1)]))] s.heap.size = A at hD ⊢
  have hA : ∀ q : Nat, s.heap.size ≤ q → A q := fun q h => by rw [← hAe]; exact Or.inr h
  have hS : va_S A s.heap s.heap [] := va_S.rf
  have hz0 : s.heap.size = s.heap.size + 0 := rfl
  have hl := lv_entry ([.ref (b + 88)]) (n := 2) (Nat.le_of_ble_eq_true rfl)
  rw [lg_entry_eq]
  generalize (lg_sl ([.ref (b + 88)]) ++ List.replicate (2 - (lg_sl ([.ref (b + 88)])).length) Slot.unset).toArray = ls at hl ⊢
  have hl : lv_has ls 2 [(0, .ref (b + 88))] := hl
  refine lv_aload_n hx hb dX10_retype_0 rfl (lv_at hl 0 rfl) ?_
  refine va_get (D := (dC, dI)) (ci := 9) (v := .int 0) (C := RX10) (T := TX10) (N := 19) hx hb hall zx_10 hown hK.1 hP 0 rfl rfl 4 (by decide) (hall _ zw_157) (fun _ h9 => h9) rfl dX10_retype_1 ?_
  refine lv_sipush (v := 400) hx hb dX10_retype_4 (by decide) ?_
  refine lv_icmp_le (tgt := 13) hx hb dX10_retype_7 (by decide) (fun _ => ?_) (fun c_7_b9010 => absurd (by decide) c_7_b9010)
  refine lv_iconst (v := 0) hx hb dX10_retype_13 (by decide) ?_
  show W p l e _ s m _ below meth c _ _ _ _ QQ (F0 m 14 ls [.int 0])
  refine lv_istore_n (lv' := [(1, .int 0), (0, .ref (b + 88))]) hx hb dX10_retype_14 rfl hl (by decide) rfl (fun ls9011 hl' => ?_)
  clear hl
  have hl : lv_has ls9011 2 [(1, .int 0), (0, .ref (b + 88))] := hl'
  clear hl'
  refine lv_iload_n hx hb dX10_retype_15 rfl (lv_at hl 0 rfl) ?_
  refine lv_aload_n hx hb dX10_retype_16 rfl (lv_at hl 1 rfl) ?_
  refine va_get (D := (dC, dI)) (ci := 9) (v := .int 0) (C := RX10) (T := TX10) (N := 19) hx hb hall zx_10 hown hK.1 hP 0 rfl rfl 4 (by decide) (hall _ zw_157) (fun _ h9 => h9) rfl dX10_retype_17 ?_
  refine lv_icmp_ge (tgt := 48) hx hb dX10_retype_20 (by decide) (fun _ => ?_) (fun c_20_b9012 => absurd (by decide) c_20_b9012)
  show W p l e _ s m _ below meth c _ _ _ _ QQ (F0 m 48 ls9011 [])
  refine lv_aload_n hx hb dX10_retype_48 rfl (lv_at hl 1 rfl) ?_
  refine lv_aload_n hx hb dX10_retype_49 rfl (lv_at hl 1 rfl) ?_
  refine va_get (D := (dC, dI)) (ci := 9) (v := .int 0) (C := RX10) (T := TX10) (N := 19) hx hb hall zx_10 hown hK.1 hP 0 rfl rfl 4 (by decide) (hall _ zw_157) (fun _ h9 => h9) rfl dX10_retype_50 ?_
  refine zput (D := (dC, dI)) (ci := 9) (v := .int 0) (ty := .int) (C := RX10) (T := TX10) (N := 19) hx hb hall zx_10 tyX10 tyX10_ok nmX10 hown hK.1 hP hD hS 0 rfl rfl 2 (by decide) (hall _ zw_150) (fun _ h9 => h9) rfl (by decide +kernel) rfl rfl (Nat.le_of_ble_eq_true rfl) dX10_retype_53 (fun H9013 L9014 hB hP' hD' hS' => ?_)
  replace hz0 : H9013.size = s.heap.size + 0 := hB.1.trans hz0
  clear hP hD hS hB
  have hP : va_P (dC, dI) vwCl [(b + 88, .inr (9, [.ref (b + 81), .ref (b + 89), .int 0, .ref (b + 90), .int 0, .ref (b + 91), .int 0, .ref (b + 92), .int 0, .ref (b + 93), .int 0, .int 0, .int 0, .ref (b + 94), .int 0, .int 0, .int 0, .int 0, .int (-1)]))] H9013 := hP'
  have hD : va_D A [(b + 88, .inr (9, [.ref (b + 81), .ref (b + 89), .int 0, .ref (b + 90), .int 0, .ref (b + 91), .int 0, .ref (b + 92), .int 0, .ref (b + 93), .int 0, .int 0, .int 0, .ref (b + 94), .int 0, .int 0, .int 0, .int 0, .int (-1)]))] := hD'
  have hS : va_S A s.heap H9013 L9014 := hS'
  clear hP' hD' hS'
  refine lv_aload_n hx hb dX10_retype_56 rfl (lv_at hl 1 rfl) ?_
  show W p l e _ s m _ below meth c _ _ _ _ QQ (F0 m 57 ls9011 [.ref (b + 88)])
  refine va_get (D := (dC, dI)) (ci := 9) (v := .int 0) (C := RX10) (T := TX10) (N := 19) hx hb hall zx_10 hown hK.1 hP 0 rfl rfl 2 (by decide) (hall _ zw_150) (fun _ h9 => h9) rfl dX10_retype_57 ?_
  refine W.widen (k := 0) (n := 0) (Nat.le_of_ble_eq_true rfl) (Nat.le_of_ble_eq_true rfl) ?_
  rw [← hQ, hAe]
  have hP := zsubP (wc := []) hP [] rfl
  have hD := hD.sub (ws' := []) [] (by decide) rfl
  exact W.iret (v := 0) hx hb hr (fun zt ht hW => ⟨⟨0, (), rfl, rfl, by rw [ht]; exact hP, hD, by rw [ht]; exact hz0⟩, hS.F ht⟩) hS.2.2 dX10_retype_60

set_option maxHeartbeats 4000000 in
set_option maxRecDepth 100000 in
theorem c_X11_again (l : Launch) (dC : Nat → ClassId) (dI : Nat → Nat → Nat) (aC : Nat → ClassId) (h0 b : Nat) (sz : Nat) : Met l yX11_again w_X11_again ({ frames := 2, cells := 0, slots := 0, locals := 45 }) (zPre (dC, dI) aC [(h0, .inr (10, [.ref (b + 0), .ref (b + 73), .ref (b + 75), .ref (b + 76), .ref (b + 80), .ref (b + 81), .ref (b + 88), .ref (b + 95), .ref (b + 100), .ref (b + 106), .int 0, .ref (b + 107), .int 0])), (b + 88, .inr (9, [.ref (b + 81), .ref (b + 89), .int 0, .ref (b + 90), .int 0, .ref (b + 91), .int 0, .ref (b + 92), .int 0, .ref (b + 93), .int 0, .int 0, .int 0, .ref (b + 94), .int 0, .int 0, .int 0, .int 0, .int (-1)]))] sz [.ref h0]) (va_Qi (fun (r : Int32) (u : Unit) => r = 0) (fun u zt => zB (dC, dI) [] (va_A [(h0, .inr (10, [.ref (b + 0), .ref (b + 73), .ref (b + 75), .ref (b + 76), .ref (b + 80), .ref (b + 81), .ref (b + 88), .ref (b + 95), .ref (b + 100), .ref (b + 106), .int 0, .ref (b + 107), .int 0])), (b + 88, .inr (9, [.ref (b + 81), .ref (b + 89), .int 0, .ref (b + 90), .int 0, .ref (b + 91), .int 0, .ref (b + 92), .int 0, .ref (b + 93), .int 0, .int 0, .int 0, .ref (b + 94), .int 0, .int 0, .int 0, .int 0, .int (-1)]))] sz) (sz + 0) zt) (va_A [(h0, .inr (10, [.ref (b + 0), .ref (b + 73), .ref (b + 75), .ref (b + 76), .ref (b + 80), .ref (b + 81), .ref (b + 88), .ref (b + 95), .ref (b + 100), .ref (b + 106), .int 0, .ref (b + 107), .int 0])), (b + 88, .inr (9, [.ref (b + 81), .ref (b + 89), .int 0, .ref (b + 90), .int 0, .ref (b + 91), .int 0, .ref (b + 92), .int 0, .ref (b + 93), .int 0, .int 0, .int 0, .ref (b + 94), .int 0, .int 0, .int 0, .int 0, .int (-1)]))] sz)) 0 0 (va_A [(h0, .inr (10, [.ref (b + 0), .ref (b + 73), .ref (b + 75), .ref (b + 76), .ref (b + 80), .ref (b + 81), .ref (b + 88), .ref (b + 95), .ref (b + 100), .ref (b + 106), .int 0, .ref (b + 107), .int 0])), (b + 88, .inr (9, [.ref (b + 81), .ref (b + 89), .int 0, .ref (b + 90), .int 0, .ref (b + 91), .int 0, .ref (b + 92), .int 0, .ref (b + 93), .int 0, .int 0, .int 0, .ref (b + 94), .int 0, .int 0, .int 0, .int 0, .int (-1)]))] sz) := by
  refine Met.ofW (cc := cX11_again) (maxL := 1) (ret := (some .int)) (by decide) rfl ?_
  intro p e s m args below meth c s₁ B hml hv
  generalize hQ : MQ below _ _ s _ _ _ = QQ
  obtain ⟨rfl, hsz, hP, hK, hD0⟩ := hv
  have hx := B.exec
  have hb := B.bytes
  have hr := B.returns
  have hts := atoms_spec (ws := w_X11_again) B.pre
  have hall := fun (w : Cond) (h : w ∈ zAll) => hts w (List.mem_cons_of_mem _ h)
  have hown : s.vm.findClass RX11 = some m.cls := findClass_of_methodNamed B.named
  have hlocks := B.notSynchronized
  subst hsz
  have hD := hD0.self (sz := s.heap.size)
  generalize hAe : va_A [(h0, .inr (10, [.ref (b + 0), .ref (b + 73), .ref (b + 75), .ref (b + 76), .ref (b + 80), .ref (b + 81), .ref (b + 88), .ref (b + 95), .ref (b + 100), .ref (b + 106), .int 0, .ref (b + 107), .int 0])), (b + 88, .inr (9, [.ref (b + 81), .ref (b + 89), .int 0, .ref (b + 90), .int 0, .ref (b + 91), .int 0, .ref (b + 92), .int 0, .ref (b + 93), .int 0, .int 0, .int 0, .ref (b + 94), .int 0, .int 0, .int 0, .int 0, .int (-1)]))] s.heap.size = A at hD ⊢
  have hA : ∀ q : Nat, s.heap.size ≤ q → A q := fun q h => by rw [← hAe]; exact Or.inr h
  have hS : va_S A s.heap s.heap [] := va_S.rf
  have hz0 : s.heap.size = s.heap.size + 0 := rfl
  have hl := lv_entry ([.ref h0]) (n := 1) (Nat.le_of_ble_eq_true rfl)
  rw [lg_entry_eq]
  generalize (lg_sl ([.ref h0]) ++ List.replicate (1 - (lg_sl ([.ref h0])).length) Slot.unset).toArray = ls at hl ⊢
  have hl : lv_has ls 1 [(0, .ref h0)] := hl
  refine lv_aload_n hx hb dX11_again_0 rfl (lv_at hl 0 rfl) ?_
  refine va_get (D := (dC, dI)) (ci := 10) (v := .ref (b + 88)) (C := RX11) (T := TX11) (N := 13) hx hb hall zx_11 hown hK.1 hP 0 rfl rfl 6 (by decide) (hall _ zw_197) (fun _ h9 => h9) rfl dX11_again_1 ?_
  refine zrw_i (f := fun _ => False) (B := fun _ _ => True) (k := 0) (wr := [(h0, .inr (10, [.ref (b + 0), .ref (b + 73), .ref (b + 75), .ref (b + 76), .ref (b + 80), .ref (b + 81), .ref (b + 88), .ref (b + 95), .ref (b + 100), .ref (b + 106), .int 0, .ref (b + 107), .int 0]))]) (wc := [(b + 88, .inr (9, [.ref (b + 81), .ref (b + 89), .int 0, .ref (b + 90), .int 0, .ref (b + 91), .int 0, .ref (b + 92), .int 0, .ref (b + 93), .int 0, .int 0, .int 0, .ref (b + 94), .int 0, .int 0, .int 0, .int 0, .int (-1)]))]) (w1 := fun _ => []) hP hD hS hA [1] [0] rfl rfl (by decide +kernel) (by decide +kernel) (va_runV (As := []) (rest := []) ⟨hx, hb, hml, hown, hall⟩ (c_X10_retype l dC dI aC b s.heap.size) (cwV 0 hall (zgV zw_255 zw_257 zw_258 zw_800 g_X10_retype rfl) rfl rfl rfl (by decide +kernel) ⟨Nat.le_of_ble_eq_true rfl, Nat.le_of_ble_eq_true rfl⟩) (zPre_V (As := []) hK hP hD [1] rfl (by decide +kernel) (ci := 9) (q0 := 0) rfl rfl) rfl rfl hl.1 rfl (lv_room (Nat.le_of_ble_eq_true rfl)) dX11_again_4 ⟨Nat.le_of_ble_eq_true rfl, Nat.le_of_ble_eq_true rfl⟩) (fun r9015 u H9016 L9017 hw hz hk hP' hD' hS' => ?_)
  try rw [hz0] at hP'
  try rw [hz0] at hD'
  rw [hz0] at hz
  replace hz0 : H9016.size = s.heap.size + 0 := by omega
  clear hz
  clear hP hD hS hk
  have hP : va_P (dC, dI) vwCl [(h0, .inr (10, [.ref (b + 0), .ref (b + 73), .ref (b + 75), .ref (b + 76), .ref (b + 80), .ref (b + 81), .ref (b + 88), .ref (b + 95), .ref (b + 100), .ref (b + 106), .int 0, .ref (b + 107), .int 0]))] H9016 := hP'
  have hD : va_D A [(h0, .inr (10, [.ref (b + 0), .ref (b + 73), .ref (b + 75), .ref (b + 76), .ref (b + 80), .ref (b + 81), .ref (b + 88), .ref (b + 95), .ref (b + 100), .ref (b + 106), .int 0, .ref (b + 107), .int 0]))] := hD'
  have hS : va_S A s.heap H9016 L9017 := hS'
  clear hP' hD' hS'
  obtain rfl : r9015 = 0 := hw
  try clear hw
  refine W.widen (k := 0) (n := 0) (Nat.le_of_ble_eq_true rfl) (Nat.le_of_ble_eq_true rfl) ?_
  rw [← hQ, hAe]
  have hP := zsubP (wc := []) hP [] rfl
  have hD := hD.sub (ws' := []) [] (by decide) rfl
  exact W.iret (v := 0) hx hb hr (fun zt ht hW => ⟨⟨0, (), rfl, rfl, by rw [ht]; exact hP, hD, by rw [ht]; exact hz0⟩, hS.F ht⟩) hS.2.2 dX11_again_7

set_option maxHeartbeats 4000000 in
set_option maxRecDepth 100000 in
theorem c_X11_count (l : Launch) (dC : Nat → ClassId) (dI : Nat → Nat → Nat) (aC : Nat → ClassId) (h0 b : Nat) (x : Int32) (sz : Nat) : Met l yX11_count w_X11_count ({ frames := 1, cells := 0, slots := 0, locals := 24 }) (zPre (dC, dI) aC [(h0, .inr (10, [.ref (b + 0), .ref (b + 73), .ref (b + 75), .ref (b + 76), .ref (b + 80), .ref (b + 81), .ref (b + 88), .ref (b + 95), .ref (b + 100), .ref (b + 106), .int 0, .ref (b + 107), .int 0])), (b + 0, .inl (aC 3, 12, .inr (.inr (.inr (.inr (zrefs (fun i => b + (1 + 6 * i)) 12)))))), (b + 1, .inr (5, [.int 0, .int 0, .int 0, .int 0, .int 0, .int 0, .int 0, .ref (b + 2), .ref (b + 3), .ref (b + 4), .ref (b + 5), .ref (b + 6)])), (b + 7, .inr (5, [.int 0, .int 0, .int 0, .int 0, .int 0, .int 0, .int 0, .ref (b + 8), .ref (b + 9), .ref (b + 10), .ref (b + 11), .ref (b + 12)])), (b + 13, .inr (5, [.int 0, .int 0, .int 0, .int 0, .int 0, .int 0, .int 0, .ref (b + 14), .ref (b + 15), .ref (b + 16), .ref (b + 17), .ref (b + 18)])), (b + 19, .inr (5, [.int 0, .int 0, .int 0, .int 0, .int 0, .int 0, .int 0, .ref (b + 20), .ref (b + 21), .ref (b + 22), .ref (b + 23), .ref (b + 24)])), (b + 25, .inr (5, [.int 0, .int 0, .int 0, .int 0, .int 0, .int 0, .int 0, .ref (b + 26), .ref (b + 27), .ref (b + 28), .ref (b + 29), .ref (b + 30)])), (b + 31, .inr (5, [.int 0, .int 0, .int 0, .int 0, .int 0, .int 0, .int 0, .ref (b + 32), .ref (b + 33), .ref (b + 34), .ref (b + 35), .ref (b + 36)])), (b + 37, .inr (5, [.int 0, .int 0, .int 0, .int 0, .int 0, .int 0, .int 0, .ref (b + 38), .ref (b + 39), .ref (b + 40), .ref (b + 41), .ref (b + 42)])), (b + 43, .inr (5, [.int 0, .int 0, .int 0, .int 0, .int 0, .int 0, .int 0, .ref (b + 44), .ref (b + 45), .ref (b + 46), .ref (b + 47), .ref (b + 48)])), (b + 49, .inr (5, [.int 0, .int 0, .int 0, .int 0, .int 0, .int 0, .int 0, .ref (b + 50), .ref (b + 51), .ref (b + 52), .ref (b + 53), .ref (b + 54)])), (b + 55, .inr (5, [.int 0, .int 0, .int 0, .int 0, .int 0, .int 0, .int 0, .ref (b + 56), .ref (b + 57), .ref (b + 58), .ref (b + 59), .ref (b + 60)])), (b + 61, .inr (5, [.int 0, .int 0, .int 0, .int 0, .int 0, .int 0, .int 0, .ref (b + 62), .ref (b + 63), .ref (b + 64), .ref (b + 65), .ref (b + 66)])), (b + 67, .inr (5, [.int 0, .int 0, .int 0, .int 0, .int 0, .int 0, .int 0, .ref (b + 68), .ref (b + 69), .ref (b + 70), .ref (b + 71), .ref (b + 72)])), (b + 88, .inr (9, [.ref (b + 81), .ref (b + 89), .int 0, .ref (b + 90), .int 0, .ref (b + 91), .int 0, .ref (b + 92), .int 0, .ref (b + 93), .int 0, .int 0, .int 0, .ref (b + 94), .int 0, .int 0, .int 0, .int 0, .int (-1)]))] sz [.ref h0, .int x]) (va_Qi (fun (r : Int32) (_ : Unit) => r = zcount x) (fun _ zt => zt.heap.size = sz) (zN sz)) 0 0 (zN sz) := by
  refine Met.ofW (cc := cX11_count) (maxL := 5) (ret := (some .int)) (by decide) rfl ?_
  intro p e s m args below meth c s₁ B hml hv
  generalize hQ : MQ below _ _ s _ _ _ = QQ
  obtain ⟨rfl, hsz, hP, hK, hD0⟩ := hv
  have hx := B.exec
  have hb := B.bytes
  have hr := B.returns
  have hts := atoms_spec (ws := w_X11_count) B.pre
  have hall := fun (w : Cond) (h : w ∈ zAll) => hts w (List.mem_cons_of_mem _ h)
  have hown : s.vm.findClass RX11 = some m.cls := findClass_of_methodNamed B.named
  have hlocks := B.notSynchronized
  subst hsz
  have hA : ∀ q : Nat, s.heap.size ≤ q → zN s.heap.size q := fun q h => h
  have hS : va_S (zN s.heap.size) s.heap s.heap [] := va_S.rf
  have hD := hD0
  have hl := lv_entry ([.ref h0, .int x]) (n := 5) (Nat.le_of_ble_eq_true rfl)
  rw [lg_entry_eq]
  generalize (lg_sl ([.ref h0, .int x]) ++ List.replicate (5 - (lg_sl ([.ref h0, .int x])).length) Slot.unset).toArray = ls at hl ⊢
  have hl : lv_has ls 5 [(0, .ref h0), (1, .int x)] := hl
  refine lv_iload_n hx hb dX11_count_0 rfl (lv_at hl 1 rfl) ?_
  refine lv_if_lt (tgt := 9) hx hb dX11_count_1 (by decide) (fun c_1_b9018 => ?_) (fun c_1_b9018 => ?_)
  · refine lv_iconst (v := (-1)) hx hb dX11_count_9 (by decide) ?_
    rw [← hQ]
    exact W.iret (v := (-1)) hx hb hr (fun zt ht hW => ⟨⟨(-1), (), rfl, by simp [zcount, c_1_b9018], (show zt.heap.size = s.heap.size by rw [ht])⟩, hS.F ht⟩) hS.2.2 dX11_count_10
  · refine lv_iload_n hx hb dX11_count_4 rfl (lv_at hl 1 rfl) ?_
    refine lv_iconst (v := 5) hx hb dX11_count_5 (by decide) ?_
    refine lv_icmp_le (tgt := 11) hx hb dX11_count_6 (by decide) (fun c_6_b9019 => ?_) (fun c_6_b9019 => ?_)
    · refine lv_iload_n hx hb dX11_count_11 rfl (lv_at hl 1 rfl) ?_
      refine lv_iconst (v := 1) hx hb dX11_count_12 (by decide) ?_
      refine lv_icmp_gt (tgt := 38) hx hb dX11_count_13 (by decide) (fun c_13_b9020 => ?_) (fun c_13_b9020 => ?_)
      · refine lv_iload_n hx hb dX11_count_38 rfl (lv_at hl 1 rfl) ?_
        show W p l e _ s m _ below meth c _ _ _ _ QQ (F0 m 39 ls [.int x])
        refine lv_iconst (v := 3) hx hb dX11_count_39 (by decide) ?_
        refine lv_icmp_gt (tgt := 60) hx hb dX11_count_40 (by decide) (fun c_40_b9021 => ?_) (fun c_40_b9021 => ?_)
        · refine lv_iconst (v := 0) hx hb dX11_count_60 (by decide) ?_
          refine lv_istore_n (lv' := [(2, .int 0), (0, .ref h0), (1, .int x)]) hx hb dX11_count_61 rfl hl (by decide) rfl (fun ls9022 hl' => ?_)
          clear hl
          have hl : lv_has ls9022 5 [(2, .int 0), (0, .ref h0), (1, .int x)] := hl'
          clear hl'
          refine lv_iconst (v := 0) hx hb dX11_count_62 (by decide) ?_
          refine lv_istore_n (lv' := [(3, .int 0), (2, .int 0), (0, .ref h0), (1, .int x)]) hx hb dX11_count_63 rfl hl (by decide) rfl (fun ls9023 hl' => ?_)
          clear hl
          have hl : lv_has ls9023 5 [(3, .int 0), (2, .int 0), (0, .ref h0), (1, .int x)] := hl'
          clear hl'
          show W p l e _ s m _ below meth c _ _ _ _ QQ (F0 m 64 ls9023 [])
          refine lv_iload_n hx hb dX11_count_64 rfl (lv_at hl 0 rfl) ?_
          refine lv_bipush (v := 12) hx hb dX11_count_65 (by decide) ?_
          refine lv_icmp_ge (tgt := 109) hx hb dX11_count_67 (by decide) (fun c_67_b9024 => absurd c_67_b9024 (by decide)) (fun _ => ?_)
          refine lv_aload_n hx hb dX11_count_70 rfl (lv_at hl 2 rfl) ?_
          refine va_get (D := (dC, dI)) (ci := 10) (v := .ref (b + 0)) (C := RX11) (T := TX11) (N := 13) hx hb hall zx_11 hown hK.1 hP 0 rfl rfl 0 (by decide) (hall _ zw_160) (fun _ h9 => h9) rfl dX11_count_71 ?_
          show W p l e _ s m _ below meth c _ _ _ _ QQ (F0 m 74 ls9023 [.ref (b + 0)])
          refine lv_iload_n hx hb dX11_count_74 rfl (lv_at hl 0 rfl) ?_
          refine zaldr hx hb hK.1 hP 1 3 rfl rfl (zvp (by decide)) (zrefs_k (k := 0) (by decide +kernel) (by decide)) dX11_count_75 ?_
          refine va_get (D := (dC, dI)) (ci := 5) (v := .int 0) (C := RX6) (T := TX6) (N := 12) hx hb hall zx_6 hown hK.1 hP 2 rfl rfl 0 (by decide) (hall _ zw_212) (fun _ h9 => h9) rfl dX11_count_76 ?_
          refine lv_istore (lv' := [(4, .int 0), (3, .int 0), (2, .int 0), (0, .ref h0), (1, .int x)]) hx hb dX11_count_79 hl (by decide) rfl (fun ls9025 hl' => ?_)
          clear hl
          have hl : lv_has ls9025 5 [(4, .int 0), (3, .int 0), (2, .int 0), (0, .ref h0), (1, .int x)] := hl'
          clear hl'
          refine lv_iload_n hx hb dX11_count_81 rfl (lv_at hl 4 rfl) ?_
          show W p l e _ s m _ below meth c _ _ _ _ QQ (F0 m 82 ls9025 [.int x])
          refine lv_iconst (v := 4) hx hb dX11_count_82 (by decide) ?_
          refine lv_icmp_ne (tgt := 94) hx hb dX11_count_83 (by decide) (fun c_83_b9026 => ?_) (fun c_83_b9026 => ?_)
          · refine lv_iload hx hb dX11_count_94 (lv_at hl 0 rfl) ?_
            refine lv_iconst (v := 3) hx hb dX11_count_96 (by decide) ?_
            refine lv_icmp_ne (tgt := 103) hx hb dX11_count_97 (by decide) (fun _ => ?_) (fun c_97_b9027 => absurd c_97_b9027 (by decide))
            refine lv_iinc (v := 1) (lv' := [(3, .int 1), (4, .int 0), (2, .int 0), (0, .ref h0), (1, .int x)]) hx hb dX11_count_103 hl (k := 1) rfl (by decide) (by decide) rfl (fun ls9028 hl' => ?_)
            clear hl
            have hl : lv_has ls9028 5 [(3, .int 1), (4, .int 0), (2, .int 0), (0, .ref h0), (1, .int x)] := hl'
            clear hl'
            refine lv_goto (tgt := 64) hx hb dX11_count_106 (by decide) ?_
            show W p l e _ s m _ below meth c _ _ _ _ QQ (F0 m 64 ls9028 [])
            refine lv_iload_n hx hb dX11_count_64 rfl (lv_at hl 0 rfl) ?_
            refine lv_bipush (v := 12) hx hb dX11_count_65 (by decide) ?_
            refine lv_icmp_ge (tgt := 109) hx hb dX11_count_67 (by decide) (fun c_67_b9029 => absurd c_67_b9029 (by decide)) (fun _ => ?_)
            refine lv_aload_n hx hb dX11_count_70 rfl (lv_at hl 3 rfl) ?_
            refine va_get (D := (dC, dI)) (ci := 10) (v := .ref (b + 0)) (C := RX11) (T := TX11) (N := 13) hx hb hall zx_11 hown hK.1 hP 0 rfl rfl 0 (by decide) (hall _ zw_160) (fun _ h9 => h9) rfl dX11_count_71 ?_
            show W p l e _ s m _ below meth c _ _ _ _ QQ (F0 m 74 ls9028 [.ref (b + 0)])
            refine lv_iload_n hx hb dX11_count_74 rfl (lv_at hl 0 rfl) ?_
            refine zaldr hx hb hK.1 hP 1 3 rfl rfl (zvp (by decide)) (zrefs_k (k := 1) (by decide +kernel) (by decide)) dX11_count_75 ?_
            refine va_get (D := (dC, dI)) (ci := 5) (v := .int 0) (C := RX6) (T := TX6) (N := 12) hx hb hall zx_6 hown hK.1 hP 3 rfl rfl 0 (by decide) (hall _ zw_212) (fun _ h9 => h9) rfl dX11_count_76 ?_
            refine lv_istore (lv' := [(4, .int 0), (3, .int 1), (2, .int 0), (0, .ref h0), (1, .int x)]) hx hb dX11_count_79 hl (by decide) rfl (fun ls9030 hl' => ?_)
            clear hl
            have hl : lv_has ls9030 5 [(4, .int 0), (3, .int 1), (2, .int 0), (0, .ref h0), (1, .int x)] := hl'
            clear hl'
            refine lv_iload_n hx hb dX11_count_81 rfl (lv_at hl 4 rfl) ?_
            show W p l e _ s m _ below meth c _ _ _ _ QQ (F0 m 82 ls9030 [.int x])
            refine lv_iconst (v := 4) hx hb dX11_count_82 (by decide) ?_
            refine lv_icmp_ne (tgt := 94) hx hb dX11_count_83 (by decide) (fun _ => ?_) (fun c_83_b9031 => absurd c_83_b9031 (c_83_b9026))
            refine lv_iload hx hb dX11_count_94 (lv_at hl 0 rfl) ?_
            refine lv_iconst (v := 3) hx hb dX11_count_96 (by decide) ?_
            refine lv_icmp_ne (tgt := 103) hx hb dX11_count_97 (by decide) (fun _ => ?_) (fun c_97_b9032 => absurd c_97_b9032 (by decide))
            show W p l e _ s m _ below meth c _ _ _ _ QQ (F0 m 103 ls9030 [])
            refine lv_iinc (v := 2) (lv' := [(3, .int 2), (4, .int 0), (2, .int 0), (0, .ref h0), (1, .int x)]) hx hb dX11_count_103 hl (k := 1) rfl (by decide) (by decide) rfl (fun ls9033 hl' => ?_)
            clear hl
            have hl : lv_has ls9033 5 [(3, .int 2), (4, .int 0), (2, .int 0), (0, .ref h0), (1, .int x)] := hl'
            clear hl'
            refine lv_goto (tgt := 64) hx hb dX11_count_106 (by decide) ?_
            refine lv_iload_n hx hb dX11_count_64 rfl (lv_at hl 0 rfl) ?_
            refine lv_bipush (v := 12) hx hb dX11_count_65 (by decide) ?_
            refine lv_icmp_ge (tgt := 109) hx hb dX11_count_67 (by decide) (fun c_67_b9034 => absurd c_67_b9034 (by decide)) (fun _ => ?_)
            show W p l e _ s m _ below meth c _ _ _ _ QQ (F0 m 70 ls9033 [])
            refine lv_aload_n hx hb dX11_count_70 rfl (lv_at hl 3 rfl) ?_
            refine va_get (D := (dC, dI)) (ci := 10) (v := .ref (b + 0)) (C := RX11) (T := TX11) (N := 13) hx hb hall zx_11 hown hK.1 hP 0 rfl rfl 0 (by decide) (hall _ zw_160) (fun _ h9 => h9) rfl dX11_count_71 ?_
            refine lv_iload_n hx hb dX11_count_74 rfl (lv_at hl 0 rfl) ?_
            refine zaldr hx hb hK.1 hP 1 3 rfl rfl (zvp (by decide)) (zrefs_k (k := 2) (by decide +kernel) (by decide)) dX11_count_75 ?_
            refine va_get (D := (dC, dI)) (ci := 5) (v := .int 0) (C := RX6) (T := TX6) (N := 12) hx hb hall zx_6 hown hK.1 hP 4 rfl rfl 0 (by decide) (hall _ zw_212) (fun _ h9 => h9) rfl dX11_count_76 ?_
            show W p l e _ s m _ below meth c _ _ _ _ QQ (F0 m 79 ls9033 [.int 0])
            refine lv_istore (lv' := [(4, .int 0), (3, .int 2), (2, .int 0), (0, .ref h0), (1, .int x)]) hx hb dX11_count_79 hl (by decide) rfl (fun ls9035 hl' => ?_)
            clear hl
            have hl : lv_has ls9035 5 [(4, .int 0), (3, .int 2), (2, .int 0), (0, .ref h0), (1, .int x)] := hl'
            clear hl'
            refine lv_iload_n hx hb dX11_count_81 rfl (lv_at hl 4 rfl) ?_
            refine lv_iconst (v := 4) hx hb dX11_count_82 (by decide) ?_
            refine lv_icmp_ne (tgt := 94) hx hb dX11_count_83 (by decide) (fun _ => ?_) (fun c_83_b9036 => absurd c_83_b9036 (c_83_b9026))
            refine lv_iload hx hb dX11_count_94 (lv_at hl 0 rfl) ?_
            show W p l e _ s m _ below meth c _ _ _ _ QQ (F0 m 96 ls9035 [.int 0])
            refine lv_iconst (v := 3) hx hb dX11_count_96 (by decide) ?_
            refine lv_icmp_ne (tgt := 103) hx hb dX11_count_97 (by decide) (fun _ => ?_) (fun c_97_b9037 => absurd c_97_b9037 (by decide))
            refine lv_iinc (v := 3) (lv' := [(3, .int 3), (4, .int 0), (2, .int 0), (0, .ref h0), (1, .int x)]) hx hb dX11_count_103 hl (k := 1) rfl (by decide) (by decide) rfl (fun ls9038 hl' => ?_)
            clear hl
            have hl : lv_has ls9038 5 [(3, .int 3), (4, .int 0), (2, .int 0), (0, .ref h0), (1, .int x)] := hl'
            clear hl'
            refine lv_goto (tgt := 64) hx hb dX11_count_106 (by decide) ?_
            refine lv_iload_n hx hb dX11_count_64 rfl (lv_at hl 0 rfl) ?_
            show W p l e _ s m _ below meth c _ _ _ _ QQ (F0 m 65 ls9038 [.int 3])
            refine lv_bipush (v := 12) hx hb dX11_count_65 (by decide) ?_
            refine lv_icmp_ge (tgt := 109) hx hb dX11_count_67 (by decide) (fun c_67_b9039 => absurd c_67_b9039 (by decide)) (fun _ => ?_)
            refine lv_aload_n hx hb dX11_count_70 rfl (lv_at hl 3 rfl) ?_
            refine va_get (D := (dC, dI)) (ci := 10) (v := .ref (b + 0)) (C := RX11) (T := TX11) (N := 13) hx hb hall zx_11 hown hK.1 hP 0 rfl rfl 0 (by decide) (hall _ zw_160) (fun _ h9 => h9) rfl dX11_count_71 ?_
            refine lv_iload_n hx hb dX11_count_74 rfl (lv_at hl 0 rfl) ?_
            show W p l e _ s m _ below meth c _ _ _ _ QQ (F0 m 75 ls9038 [.int 3, .ref (b + 0)])
            refine zaldr hx hb hK.1 hP 1 3 rfl rfl (zvp (by decide)) (zrefs_k (k := 3) (by decide +kernel) (by decide)) dX11_count_75 ?_
            refine va_get (D := (dC, dI)) (ci := 5) (v := .int 0) (C := RX6) (T := TX6) (N := 12) hx hb hall zx_6 hown hK.1 hP 5 rfl rfl 0 (by decide) (hall _ zw_212) (fun _ h9 => h9) rfl dX11_count_76 ?_
            refine lv_istore (lv' := [(4, .int 0), (3, .int 3), (2, .int 0), (0, .ref h0), (1, .int x)]) hx hb dX11_count_79 hl (by decide) rfl (fun ls9040 hl' => ?_)
            clear hl
            have hl : lv_has ls9040 5 [(4, .int 0), (3, .int 3), (2, .int 0), (0, .ref h0), (1, .int x)] := hl'
            clear hl'
            refine lv_iload_n hx hb dX11_count_81 rfl (lv_at hl 4 rfl) ?_
            refine lv_iconst (v := 4) hx hb dX11_count_82 (by decide) ?_
            refine lv_icmp_ne (tgt := 94) hx hb dX11_count_83 (by decide) (fun _ => ?_) (fun c_83_b9041 => absurd c_83_b9041 (c_83_b9026))
            show W p l e _ s m _ below meth c _ _ _ _ QQ (F0 m 94 ls9040 [])
            refine lv_iload hx hb dX11_count_94 (lv_at hl 0 rfl) ?_
            refine lv_iconst (v := 3) hx hb dX11_count_96 (by decide) ?_
            refine lv_icmp_ne (tgt := 103) hx hb dX11_count_97 (by decide) (fun _ => ?_) (fun c_97_b9042 => absurd c_97_b9042 (by decide))
            refine lv_iinc (v := 4) (lv' := [(3, .int 4), (4, .int 0), (2, .int 0), (0, .ref h0), (1, .int x)]) hx hb dX11_count_103 hl (k := 1) rfl (by decide) (by decide) rfl (fun ls9043 hl' => ?_)
            clear hl
            have hl : lv_has ls9043 5 [(3, .int 4), (4, .int 0), (2, .int 0), (0, .ref h0), (1, .int x)] := hl'
            clear hl'
            refine lv_goto (tgt := 64) hx hb dX11_count_106 (by decide) ?_
            show W p l e _ s m _ below meth c _ _ _ _ QQ (F0 m 64 ls9043 [])
            refine lv_iload_n hx hb dX11_count_64 rfl (lv_at hl 0 rfl) ?_
            refine lv_bipush (v := 12) hx hb dX11_count_65 (by decide) ?_
            refine lv_icmp_ge (tgt := 109) hx hb dX11_count_67 (by decide) (fun c_67_b9044 => absurd c_67_b9044 (by decide)) (fun _ => ?_)
            refine lv_aload_n hx hb dX11_count_70 rfl (lv_at hl 3 rfl) ?_
            refine va_get (D := (dC, dI)) (ci := 10) (v := .ref (b + 0)) (C := RX11) (T := TX11) (N := 13) hx hb hall zx_11 hown hK.1 hP 0 rfl rfl 0 (by decide) (hall _ zw_160) (fun _ h9 => h9) rfl dX11_count_71 ?_
            show W p l e _ s m _ below meth c _ _ _ _ QQ (F0 m 74 ls9043 [.ref (b + 0)])
            refine lv_iload_n hx hb dX11_count_74 rfl (lv_at hl 0 rfl) ?_
            refine zaldr hx hb hK.1 hP 1 3 rfl rfl (zvp (by decide)) (zrefs_k (k := 4) (by decide +kernel) (by decide)) dX11_count_75 ?_
            refine va_get (D := (dC, dI)) (ci := 5) (v := .int 0) (C := RX6) (T := TX6) (N := 12) hx hb hall zx_6 hown hK.1 hP 6 rfl rfl 0 (by decide) (hall _ zw_212) (fun _ h9 => h9) rfl dX11_count_76 ?_
            refine lv_istore (lv' := [(4, .int 0), (3, .int 4), (2, .int 0), (0, .ref h0), (1, .int x)]) hx hb dX11_count_79 hl (by decide) rfl (fun ls9045 hl' => ?_)
            clear hl
            have hl : lv_has ls9045 5 [(4, .int 0), (3, .int 4), (2, .int 0), (0, .ref h0), (1, .int x)] := hl'
            clear hl'
            refine lv_iload_n hx hb dX11_count_81 rfl (lv_at hl 4 rfl) ?_
            show W p l e _ s m _ below meth c _ _ _ _ QQ (F0 m 82 ls9045 [.int x])
            refine lv_iconst (v := 4) hx hb dX11_count_82 (by decide) ?_
            refine lv_icmp_ne (tgt := 94) hx hb dX11_count_83 (by decide) (fun _ => ?_) (fun c_83_b9046 => absurd c_83_b9046 (c_83_b9026))
            refine lv_iload hx hb dX11_count_94 (lv_at hl 0 rfl) ?_
            refine lv_iconst (v := 3) hx hb dX11_count_96 (by decide) ?_
            refine lv_icmp_ne (tgt := 103) hx hb dX11_count_97 (by decide) (fun _ => ?_) (fun c_97_b9047 => absurd c_97_b9047 (by decide))
            show W p l e _ s m _ below meth c _ _ _ _ QQ (F0 m 103 ls9045 [])
            refine lv_iinc (v := 5) (lv' := [(3, .int 5), (4, .int 0), (2, .int 0), (0, .ref h0), (1, .int x)]) hx hb dX11_count_103 hl (k := 1) rfl (by decide) (by decide) rfl (fun ls9048 hl' => ?_)
            clear hl
            have hl : lv_has ls9048 5 [(3, .int 5), (4, .int 0), (2, .int 0), (0, .ref h0), (1, .int x)] := hl'
            clear hl'
            refine lv_goto (tgt := 64) hx hb dX11_count_106 (by decide) ?_
            refine lv_iload_n hx hb dX11_count_64 rfl (lv_at hl 0 rfl) ?_
            refine lv_bipush (v := 12) hx hb dX11_count_65 (by decide) ?_
            refine lv_icmp_ge (tgt := 109) hx hb dX11_count_67 (by decide) (fun c_67_b9049 => absurd c_67_b9049 (by decide)) (fun _ => ?_)
            show W p l e _ s m _ below meth c _ _ _ _ QQ (F0 m 70 ls9048 [])
            refine lv_aload_n hx hb dX11_count_70 rfl (lv_at hl 3 rfl) ?_
            refine va_get (D := (dC, dI)) (ci := 10) (v := .ref (b + 0)) (C := RX11) (T := TX11) (N := 13) hx hb hall zx_11 hown hK.1 hP 0 rfl rfl 0 (by decide) (hall _ zw_160) (fun _ h9 => h9) rfl dX11_count_71 ?_
            refine lv_iload_n hx hb dX11_count_74 rfl (lv_at hl 0 rfl) ?_
            refine zaldr hx hb hK.1 hP 1 3 rfl rfl (zvp (by decide)) (zrefs_k (k := 5) (by decide +kernel) (by decide)) dX11_count_75 ?_
            refine va_get (D := (dC, dI)) (ci := 5) (v := .int 0) (C := RX6) (T := TX6) (N := 12) hx hb hall zx_6 hown hK.1 hP 7 rfl rfl 0 (by decide) (hall _ zw_212) (fun _ h9 => h9) rfl dX11_count_76 ?_
            show W p l e _ s m _ below meth c _ _ _ _ QQ (F0 m 79 ls9048 [.int 0])
            refine lv_istore (lv' := [(4, .int 0), (3, .int 5), (2, .int 0), (0, .ref h0), (1, .int x)]) hx hb dX11_count_79 hl (by decide) rfl (fun ls9050 hl' => ?_)
            clear hl
            have hl : lv_has ls9050 5 [(4, .int 0), (3, .int 5), (2, .int 0), (0, .ref h0), (1, .int x)] := hl'
            clear hl'
            refine lv_iload_n hx hb dX11_count_81 rfl (lv_at hl 4 rfl) ?_
            refine lv_iconst (v := 4) hx hb dX11_count_82 (by decide) ?_
            refine lv_icmp_ne (tgt := 94) hx hb dX11_count_83 (by decide) (fun _ => ?_) (fun c_83_b9051 => absurd c_83_b9051 (c_83_b9026))
            refine lv_iload hx hb dX11_count_94 (lv_at hl 0 rfl) ?_
            show W p l e _ s m _ below meth c _ _ _ _ QQ (F0 m 96 ls9050 [.int 0])
            refine lv_iconst (v := 3) hx hb dX11_count_96 (by decide) ?_
            refine lv_icmp_ne (tgt := 103) hx hb dX11_count_97 (by decide) (fun _ => ?_) (fun c_97_b9052 => absurd c_97_b9052 (by decide))
            refine lv_iinc (v := 6) (lv' := [(3, .int 6), (4, .int 0), (2, .int 0), (0, .ref h0), (1, .int x)]) hx hb dX11_count_103 hl (k := 1) rfl (by decide) (by decide) rfl (fun ls9053 hl' => ?_)
            clear hl
            have hl : lv_has ls9053 5 [(3, .int 6), (4, .int 0), (2, .int 0), (0, .ref h0), (1, .int x)] := hl'
            clear hl'
            refine lv_goto (tgt := 64) hx hb dX11_count_106 (by decide) ?_
            refine lv_iload_n hx hb dX11_count_64 rfl (lv_at hl 0 rfl) ?_
            show W p l e _ s m _ below meth c _ _ _ _ QQ (F0 m 65 ls9053 [.int 6])
            refine lv_bipush (v := 12) hx hb dX11_count_65 (by decide) ?_
            refine lv_icmp_ge (tgt := 109) hx hb dX11_count_67 (by decide) (fun c_67_b9054 => absurd c_67_b9054 (by decide)) (fun _ => ?_)
            refine lv_aload_n hx hb dX11_count_70 rfl (lv_at hl 3 rfl) ?_
            refine va_get (D := (dC, dI)) (ci := 10) (v := .ref (b + 0)) (C := RX11) (T := TX11) (N := 13) hx hb hall zx_11 hown hK.1 hP 0 rfl rfl 0 (by decide) (hall _ zw_160) (fun _ h9 => h9) rfl dX11_count_71 ?_
            refine lv_iload_n hx hb dX11_count_74 rfl (lv_at hl 0 rfl) ?_
            show W p l e _ s m _ below meth c _ _ _ _ QQ (F0 m 75 ls9053 [.int 6, .ref (b + 0)])
            refine zaldr hx hb hK.1 hP 1 3 rfl rfl (zvp (by decide)) (zrefs_k (k := 6) (by decide +kernel) (by decide)) dX11_count_75 ?_
            refine va_get (D := (dC, dI)) (ci := 5) (v := .int 0) (C := RX6) (T := TX6) (N := 12) hx hb hall zx_6 hown hK.1 hP 8 rfl rfl 0 (by decide) (hall _ zw_212) (fun _ h9 => h9) rfl dX11_count_76 ?_
            refine lv_istore (lv' := [(4, .int 0), (3, .int 6), (2, .int 0), (0, .ref h0), (1, .int x)]) hx hb dX11_count_79 hl (by decide) rfl (fun ls9055 hl' => ?_)
            clear hl
            have hl : lv_has ls9055 5 [(4, .int 0), (3, .int 6), (2, .int 0), (0, .ref h0), (1, .int x)] := hl'
            clear hl'
            refine lv_iload_n hx hb dX11_count_81 rfl (lv_at hl 4 rfl) ?_
            refine lv_iconst (v := 4) hx hb dX11_count_82 (by decide) ?_
            refine lv_icmp_ne (tgt := 94) hx hb dX11_count_83 (by decide) (fun _ => ?_) (fun c_83_b9056 => absurd c_83_b9056 (c_83_b9026))
            show W p l e _ s m _ below meth c _ _ _ _ QQ (F0 m 94 ls9055 [])
            refine lv_iload hx hb dX11_count_94 (lv_at hl 0 rfl) ?_
            refine lv_iconst (v := 3) hx hb dX11_count_96 (by decide) ?_
            refine lv_icmp_ne (tgt := 103) hx hb dX11_count_97 (by decide) (fun _ => ?_) (fun c_97_b9057 => absurd c_97_b9057 (by decide))
            refine lv_iinc (v := 7) (lv' := [(3, .int 7), (4, .int 0), (2, .int 0), (0, .ref h0), (1, .int x)]) hx hb dX11_count_103 hl (k := 1) rfl (by decide) (by decide) rfl (fun ls9058 hl' => ?_)
            clear hl
            have hl : lv_has ls9058 5 [(3, .int 7), (4, .int 0), (2, .int 0), (0, .ref h0), (1, .int x)] := hl'
            clear hl'
            refine lv_goto (tgt := 64) hx hb dX11_count_106 (by decide) ?_
            show W p l e _ s m _ below meth c _ _ _ _ QQ (F0 m 64 ls9058 [])
            refine lv_iload_n hx hb dX11_count_64 rfl (lv_at hl 0 rfl) ?_
            refine lv_bipush (v := 12) hx hb dX11_count_65 (by decide) ?_
            refine lv_icmp_ge (tgt := 109) hx hb dX11_count_67 (by decide) (fun c_67_b9059 => absurd c_67_b9059 (by decide)) (fun _ => ?_)
            refine lv_aload_n hx hb dX11_count_70 rfl (lv_at hl 3 rfl) ?_
            refine va_get (D := (dC, dI)) (ci := 10) (v := .ref (b + 0)) (C := RX11) (T := TX11) (N := 13) hx hb hall zx_11 hown hK.1 hP 0 rfl rfl 0 (by decide) (hall _ zw_160) (fun _ h9 => h9) rfl dX11_count_71 ?_
            show W p l e _ s m _ below meth c _ _ _ _ QQ (F0 m 74 ls9058 [.ref (b + 0)])
            refine lv_iload_n hx hb dX11_count_74 rfl (lv_at hl 0 rfl) ?_
            refine zaldr hx hb hK.1 hP 1 3 rfl rfl (zvp (by decide)) (zrefs_k (k := 7) (by decide +kernel) (by decide)) dX11_count_75 ?_
            refine va_get (D := (dC, dI)) (ci := 5) (v := .int 0) (C := RX6) (T := TX6) (N := 12) hx hb hall zx_6 hown hK.1 hP 9 rfl rfl 0 (by decide) (hall _ zw_212) (fun _ h9 => h9) rfl dX11_count_76 ?_
            refine lv_istore (lv' := [(4, .int 0), (3, .int 7), (2, .int 0), (0, .ref h0), (1, .int x)]) hx hb dX11_count_79 hl (by decide) rfl (fun ls9060 hl' => ?_)
            clear hl
            have hl : lv_has ls9060 5 [(4, .int 0), (3, .int 7), (2, .int 0), (0, .ref h0), (1, .int x)] := hl'
            clear hl'
            refine lv_iload_n hx hb dX11_count_81 rfl (lv_at hl 4 rfl) ?_
            show W p l e _ s m _ below meth c _ _ _ _ QQ (F0 m 82 ls9060 [.int x])
            refine lv_iconst (v := 4) hx hb dX11_count_82 (by decide) ?_
            refine lv_icmp_ne (tgt := 94) hx hb dX11_count_83 (by decide) (fun _ => ?_) (fun c_83_b9061 => absurd c_83_b9061 (c_83_b9026))
            refine lv_iload hx hb dX11_count_94 (lv_at hl 0 rfl) ?_
            refine lv_iconst (v := 3) hx hb dX11_count_96 (by decide) ?_
            refine lv_icmp_ne (tgt := 103) hx hb dX11_count_97 (by decide) (fun _ => ?_) (fun c_97_b9062 => absurd c_97_b9062 (by decide))
            show W p l e _ s m _ below meth c _ _ _ _ QQ (F0 m 103 ls9060 [])
            refine lv_iinc (v := 8) (lv' := [(3, .int 8), (4, .int 0), (2, .int 0), (0, .ref h0), (1, .int x)]) hx hb dX11_count_103 hl (k := 1) rfl (by decide) (by decide) rfl (fun ls9063 hl' => ?_)
            clear hl
            have hl : lv_has ls9063 5 [(3, .int 8), (4, .int 0), (2, .int 0), (0, .ref h0), (1, .int x)] := hl'
            clear hl'
            refine lv_goto (tgt := 64) hx hb dX11_count_106 (by decide) ?_
            refine lv_iload_n hx hb dX11_count_64 rfl (lv_at hl 0 rfl) ?_
            refine lv_bipush (v := 12) hx hb dX11_count_65 (by decide) ?_
            refine lv_icmp_ge (tgt := 109) hx hb dX11_count_67 (by decide) (fun c_67_b9064 => absurd c_67_b9064 (by decide)) (fun _ => ?_)
            show W p l e _ s m _ below meth c _ _ _ _ QQ (F0 m 70 ls9063 [])
            refine lv_aload_n hx hb dX11_count_70 rfl (lv_at hl 3 rfl) ?_
            refine va_get (D := (dC, dI)) (ci := 10) (v := .ref (b + 0)) (C := RX11) (T := TX11) (N := 13) hx hb hall zx_11 hown hK.1 hP 0 rfl rfl 0 (by decide) (hall _ zw_160) (fun _ h9 => h9) rfl dX11_count_71 ?_
            refine lv_iload_n hx hb dX11_count_74 rfl (lv_at hl 0 rfl) ?_
            refine zaldr hx hb hK.1 hP 1 3 rfl rfl (zvp (by decide)) (zrefs_k (k := 8) (by decide +kernel) (by decide)) dX11_count_75 ?_
            refine va_get (D := (dC, dI)) (ci := 5) (v := .int 0) (C := RX6) (T := TX6) (N := 12) hx hb hall zx_6 hown hK.1 hP 10 rfl rfl 0 (by decide) (hall _ zw_212) (fun _ h9 => h9) rfl dX11_count_76 ?_
            show W p l e _ s m _ below meth c _ _ _ _ QQ (F0 m 79 ls9063 [.int 0])
            refine lv_istore (lv' := [(4, .int 0), (3, .int 8), (2, .int 0), (0, .ref h0), (1, .int x)]) hx hb dX11_count_79 hl (by decide) rfl (fun ls9065 hl' => ?_)
            clear hl
            have hl : lv_has ls9065 5 [(4, .int 0), (3, .int 8), (2, .int 0), (0, .ref h0), (1, .int x)] := hl'
            clear hl'
            refine lv_iload_n hx hb dX11_count_81 rfl (lv_at hl 4 rfl) ?_
            refine lv_iconst (v := 4) hx hb dX11_count_82 (by decide) ?_
            refine lv_icmp_ne (tgt := 94) hx hb dX11_count_83 (by decide) (fun _ => ?_) (fun c_83_b9066 => absurd c_83_b9066 (c_83_b9026))
            refine lv_iload hx hb dX11_count_94 (lv_at hl 0 rfl) ?_
            show W p l e _ s m _ below meth c _ _ _ _ QQ (F0 m 96 ls9065 [.int 0])
            refine lv_iconst (v := 3) hx hb dX11_count_96 (by decide) ?_
            refine lv_icmp_ne (tgt := 103) hx hb dX11_count_97 (by decide) (fun _ => ?_) (fun c_97_b9067 => absurd c_97_b9067 (by decide))
            refine lv_iinc (v := 9) (lv' := [(3, .int 9), (4, .int 0), (2, .int 0), (0, .ref h0), (1, .int x)]) hx hb dX11_count_103 hl (k := 1) rfl (by decide) (by decide) rfl (fun ls9068 hl' => ?_)
            clear hl
            have hl : lv_has ls9068 5 [(3, .int 9), (4, .int 0), (2, .int 0), (0, .ref h0), (1, .int x)] := hl'
            clear hl'
            refine lv_goto (tgt := 64) hx hb dX11_count_106 (by decide) ?_
            refine lv_iload_n hx hb dX11_count_64 rfl (lv_at hl 0 rfl) ?_
            show W p l e _ s m _ below meth c _ _ _ _ QQ (F0 m 65 ls9068 [.int 9])
            refine lv_bipush (v := 12) hx hb dX11_count_65 (by decide) ?_
            refine lv_icmp_ge (tgt := 109) hx hb dX11_count_67 (by decide) (fun c_67_b9069 => absurd c_67_b9069 (by decide)) (fun _ => ?_)
            refine lv_aload_n hx hb dX11_count_70 rfl (lv_at hl 3 rfl) ?_
            refine va_get (D := (dC, dI)) (ci := 10) (v := .ref (b + 0)) (C := RX11) (T := TX11) (N := 13) hx hb hall zx_11 hown hK.1 hP 0 rfl rfl 0 (by decide) (hall _ zw_160) (fun _ h9 => h9) rfl dX11_count_71 ?_
            refine lv_iload_n hx hb dX11_count_74 rfl (lv_at hl 0 rfl) ?_
            show W p l e _ s m _ below meth c _ _ _ _ QQ (F0 m 75 ls9068 [.int 9, .ref (b + 0)])
            refine zaldr hx hb hK.1 hP 1 3 rfl rfl (zvp (by decide)) (zrefs_k (k := 9) (by decide +kernel) (by decide)) dX11_count_75 ?_
            refine va_get (D := (dC, dI)) (ci := 5) (v := .int 0) (C := RX6) (T := TX6) (N := 12) hx hb hall zx_6 hown hK.1 hP 11 rfl rfl 0 (by decide) (hall _ zw_212) (fun _ h9 => h9) rfl dX11_count_76 ?_
            refine lv_istore (lv' := [(4, .int 0), (3, .int 9), (2, .int 0), (0, .ref h0), (1, .int x)]) hx hb dX11_count_79 hl (by decide) rfl (fun ls9070 hl' => ?_)
            clear hl
            have hl : lv_has ls9070 5 [(4, .int 0), (3, .int 9), (2, .int 0), (0, .ref h0), (1, .int x)] := hl'
            clear hl'
            refine lv_iload_n hx hb dX11_count_81 rfl (lv_at hl 4 rfl) ?_
            refine lv_iconst (v := 4) hx hb dX11_count_82 (by decide) ?_
            refine lv_icmp_ne (tgt := 94) hx hb dX11_count_83 (by decide) (fun _ => ?_) (fun c_83_b9071 => absurd c_83_b9071 (c_83_b9026))
            show W p l e _ s m _ below meth c _ _ _ _ QQ (F0 m 94 ls9070 [])
            refine lv_iload hx hb dX11_count_94 (lv_at hl 0 rfl) ?_
            refine lv_iconst (v := 3) hx hb dX11_count_96 (by decide) ?_
            refine lv_icmp_ne (tgt := 103) hx hb dX11_count_97 (by decide) (fun _ => ?_) (fun c_97_b9072 => absurd c_97_b9072 (by decide))
            refine lv_iinc (v := 10) (lv' := [(3, .int 10), (4, .int 0), (2, .int 0), (0, .ref h0), (1, .int x)]) hx hb dX11_count_103 hl (k := 1) rfl (by decide) (by decide) rfl (fun ls9073 hl' => ?_)
            clear hl
            have hl : lv_has ls9073 5 [(3, .int 10), (4, .int 0), (2, .int 0), (0, .ref h0), (1, .int x)] := hl'
            clear hl'
            refine lv_goto (tgt := 64) hx hb dX11_count_106 (by decide) ?_
            show W p l e _ s m _ below meth c _ _ _ _ QQ (F0 m 64 ls9073 [])
            refine lv_iload_n hx hb dX11_count_64 rfl (lv_at hl 0 rfl) ?_
            refine lv_bipush (v := 12) hx hb dX11_count_65 (by decide) ?_
            refine lv_icmp_ge (tgt := 109) hx hb dX11_count_67 (by decide) (fun c_67_b9074 => absurd c_67_b9074 (by decide)) (fun _ => ?_)
            refine lv_aload_n hx hb dX11_count_70 rfl (lv_at hl 3 rfl) ?_
            refine va_get (D := (dC, dI)) (ci := 10) (v := .ref (b + 0)) (C := RX11) (T := TX11) (N := 13) hx hb hall zx_11 hown hK.1 hP 0 rfl rfl 0 (by decide) (hall _ zw_160) (fun _ h9 => h9) rfl dX11_count_71 ?_
            show W p l e _ s m _ below meth c _ _ _ _ QQ (F0 m 74 ls9073 [.ref (b + 0)])
            refine lv_iload_n hx hb dX11_count_74 rfl (lv_at hl 0 rfl) ?_
            refine zaldr hx hb hK.1 hP 1 3 rfl rfl (zvp (by decide)) (zrefs_k (k := 10) (by decide +kernel) (by decide)) dX11_count_75 ?_
            refine va_get (D := (dC, dI)) (ci := 5) (v := .int 0) (C := RX6) (T := TX6) (N := 12) hx hb hall zx_6 hown hK.1 hP 12 rfl rfl 0 (by decide) (hall _ zw_212) (fun _ h9 => h9) rfl dX11_count_76 ?_
            refine lv_istore (lv' := [(4, .int 0), (3, .int 10), (2, .int 0), (0, .ref h0), (1, .int x)]) hx hb dX11_count_79 hl (by decide) rfl (fun ls9075 hl' => ?_)
            clear hl
            have hl : lv_has ls9075 5 [(4, .int 0), (3, .int 10), (2, .int 0), (0, .ref h0), (1, .int x)] := hl'
            clear hl'
            refine lv_iload_n hx hb dX11_count_81 rfl (lv_at hl 4 rfl) ?_
            show W p l e _ s m _ below meth c _ _ _ _ QQ (F0 m 82 ls9075 [.int x])
            refine lv_iconst (v := 4) hx hb dX11_count_82 (by decide) ?_
            refine lv_icmp_ne (tgt := 94) hx hb dX11_count_83 (by decide) (fun _ => ?_) (fun c_83_b9076 => absurd c_83_b9076 (c_83_b9026))
            refine lv_iload hx hb dX11_count_94 (lv_at hl 0 rfl) ?_
            refine lv_iconst (v := 3) hx hb dX11_count_96 (by decide) ?_
            refine lv_icmp_ne (tgt := 103) hx hb dX11_count_97 (by decide) (fun _ => ?_) (fun c_97_b9077 => absurd c_97_b9077 (by decide))
            show W p l e _ s m _ below meth c _ _ _ _ QQ (F0 m 103 ls9075 [])
            refine lv_iinc (v := 11) (lv' := [(3, .int 11), (4, .int 0), (2, .int 0), (0, .ref h0), (1, .int x)]) hx hb dX11_count_103 hl (k := 1) rfl (by decide) (by decide) rfl (fun ls9078 hl' => ?_)
            clear hl
            have hl : lv_has ls9078 5 [(3, .int 11), (4, .int 0), (2, .int 0), (0, .ref h0), (1, .int x)] := hl'
            clear hl'
            refine lv_goto (tgt := 64) hx hb dX11_count_106 (by decide) ?_
            refine lv_iload_n hx hb dX11_count_64 rfl (lv_at hl 0 rfl) ?_
            refine lv_bipush (v := 12) hx hb dX11_count_65 (by decide) ?_
            refine lv_icmp_ge (tgt := 109) hx hb dX11_count_67 (by decide) (fun c_67_b9079 => absurd c_67_b9079 (by decide)) (fun _ => ?_)
            show W p l e _ s m _ below meth c _ _ _ _ QQ (F0 m 70 ls9078 [])
            refine lv_aload_n hx hb dX11_count_70 rfl (lv_at hl 3 rfl) ?_
            refine va_get (D := (dC, dI)) (ci := 10) (v := .ref (b + 0)) (C := RX11) (T := TX11) (N := 13) hx hb hall zx_11 hown hK.1 hP 0 rfl rfl 0 (by decide) (hall _ zw_160) (fun _ h9 => h9) rfl dX11_count_71 ?_
            refine lv_iload_n hx hb dX11_count_74 rfl (lv_at hl 0 rfl) ?_
            refine zaldr hx hb hK.1 hP 1 3 rfl rfl (zvp (by decide)) (zrefs_k (k := 11) (by decide +kernel) (by decide)) dX11_count_75 ?_
            refine va_get (D := (dC, dI)) (ci := 5) (v := .int 0) (C := RX6) (T := TX6) (N := 12) hx hb hall zx_6 hown hK.1 hP 13 rfl rfl 0 (by decide) (hall _ zw_212) (fun _ h9 => h9) rfl dX11_count_76 ?_
            show W p l e _ s m _ below meth c _ _ _ _ QQ (F0 m 79 ls9078 [.int 0])
            refine lv_istore (lv' := [(4, .int 0), (3, .int 11), (2, .int 0), (0, .ref h0), (1, .int x)]) hx hb dX11_count_79 hl (by decide) rfl (fun ls9080 hl' => ?_)
            clear hl
            have hl : lv_has ls9080 5 [(4, .int 0), (3, .int 11), (2, .int 0), (0, .ref h0), (1, .int x)] := hl'
            clear hl'
            refine lv_iload_n hx hb dX11_count_81 rfl (lv_at hl 4 rfl) ?_
            refine lv_iconst (v := 4) hx hb dX11_count_82 (by decide) ?_
            refine lv_icmp_ne (tgt := 94) hx hb dX11_count_83 (by decide) (fun _ => ?_) (fun c_83_b9081 => absurd c_83_b9081 (c_83_b9026))
            refine lv_iload hx hb dX11_count_94 (lv_at hl 0 rfl) ?_
            show W p l e _ s m _ below meth c _ _ _ _ QQ (F0 m 96 ls9080 [.int 0])
            refine lv_iconst (v := 3) hx hb dX11_count_96 (by decide) ?_
            refine lv_icmp_ne (tgt := 103) hx hb dX11_count_97 (by decide) (fun _ => ?_) (fun c_97_b9082 => absurd c_97_b9082 (by decide))
            refine lv_iinc (v := 12) (lv' := [(3, .int 12), (4, .int 0), (2, .int 0), (0, .ref h0), (1, .int x)]) hx hb dX11_count_103 hl (k := 1) rfl (by decide) (by decide) rfl (fun ls9083 hl' => ?_)
            clear hl
            have hl : lv_has ls9083 5 [(3, .int 12), (4, .int 0), (2, .int 0), (0, .ref h0), (1, .int x)] := hl'
            clear hl'
            refine lv_goto (tgt := 64) hx hb dX11_count_106 (by decide) ?_
            refine lv_iload_n hx hb dX11_count_64 rfl (lv_at hl 0 rfl) ?_
            show W p l e _ s m _ below meth c _ _ _ _ QQ (F0 m 65 ls9083 [.int 12])
            refine lv_bipush (v := 12) hx hb dX11_count_65 (by decide) ?_
            refine lv_icmp_ge (tgt := 109) hx hb dX11_count_67 (by decide) (fun _ => ?_) (fun c_67_b9084 => absurd (by decide) c_67_b9084)
            refine lv_iload_n hx hb dX11_count_109 rfl (lv_at hl 2 rfl) ?_
            rw [← hQ]
            exact W.iret (v := 0) hx hb hr (fun zt ht hW => ⟨⟨0, (), rfl, by simp [zcount, c_1_b9018, c_6_b9019, c_13_b9020, c_40_b9021, c_83_b9026], (show zt.heap.size = s.heap.size by rw [ht])⟩, hS.F ht⟩) hS.2.2 dX11_count_110
          · refine lv_iload hx hb dX11_count_86 (lv_at hl 0 rfl) ?_
            refine lv_if_eq (tgt := 103) hx hb dX11_count_88 (by decide) (fun _ => ?_) (fun c_88_b9085 => absurd (by decide) c_88_b9085)
            refine lv_iinc (v := 1) (lv' := [(3, .int 1), (4, .int 0), (2, .int 0), (0, .ref h0), (1, .int x)]) hx hb dX11_count_103 hl (k := 1) rfl (by decide) (by decide) rfl (fun ls9086 hl' => ?_)
            clear hl
            have hl : lv_has ls9086 5 [(3, .int 1), (4, .int 0), (2, .int 0), (0, .ref h0), (1, .int x)] := hl'
            clear hl'
            refine lv_goto (tgt := 64) hx hb dX11_count_106 (by decide) ?_
            show W p l e _ s m _ below meth c _ _ _ _ QQ (F0 m 64 ls9086 [])
            refine lv_iload_n hx hb dX11_count_64 rfl (lv_at hl 0 rfl) ?_
            refine lv_bipush (v := 12) hx hb dX11_count_65 (by decide) ?_
            refine lv_icmp_ge (tgt := 109) hx hb dX11_count_67 (by decide) (fun c_67_b9087 => absurd c_67_b9087 (by decide)) (fun _ => ?_)
            refine lv_aload_n hx hb dX11_count_70 rfl (lv_at hl 3 rfl) ?_
            refine va_get (D := (dC, dI)) (ci := 10) (v := .ref (b + 0)) (C := RX11) (T := TX11) (N := 13) hx hb hall zx_11 hown hK.1 hP 0 rfl rfl 0 (by decide) (hall _ zw_160) (fun _ h9 => h9) rfl dX11_count_71 ?_
            show W p l e _ s m _ below meth c _ _ _ _ QQ (F0 m 74 ls9086 [.ref (b + 0)])
            refine lv_iload_n hx hb dX11_count_74 rfl (lv_at hl 0 rfl) ?_
            refine zaldr hx hb hK.1 hP 1 3 rfl rfl (zvp (by decide)) (zrefs_k (k := 1) (by decide +kernel) (by decide)) dX11_count_75 ?_
            refine va_get (D := (dC, dI)) (ci := 5) (v := .int 0) (C := RX6) (T := TX6) (N := 12) hx hb hall zx_6 hown hK.1 hP 3 rfl rfl 0 (by decide) (hall _ zw_212) (fun _ h9 => h9) rfl dX11_count_76 ?_
            refine lv_istore (lv' := [(4, .int 0), (3, .int 1), (2, .int 0), (0, .ref h0), (1, .int x)]) hx hb dX11_count_79 hl (by decide) rfl (fun ls9088 hl' => ?_)
            clear hl
            have hl : lv_has ls9088 5 [(4, .int 0), (3, .int 1), (2, .int 0), (0, .ref h0), (1, .int x)] := hl'
            clear hl'
            refine lv_iload_n hx hb dX11_count_81 rfl (lv_at hl 4 rfl) ?_
            show W p l e _ s m _ below meth c _ _ _ _ QQ (F0 m 82 ls9088 [.int x])
            refine lv_iconst (v := 4) hx hb dX11_count_82 (by decide) ?_
            refine lv_icmp_ne (tgt := 94) hx hb dX11_count_83 (by decide) (fun c_83_b9089 => absurd (c_83_b9026) c_83_b9089) (fun _ => ?_)
            refine lv_iload hx hb dX11_count_86 (lv_at hl 0 rfl) ?_
            refine lv_if_eq (tgt := 103) hx hb dX11_count_88 (by decide) (fun _ => ?_) (fun c_88_b9090 => absurd (by decide) c_88_b9090)
            refine lv_iinc (v := 2) (lv' := [(3, .int 2), (4, .int 0), (2, .int 0), (0, .ref h0), (1, .int x)]) hx hb dX11_count_103 hl (k := 1) rfl (by decide) (by decide) rfl (fun ls9091 hl' => ?_)
            clear hl
            have hl : lv_has ls9091 5 [(3, .int 2), (4, .int 0), (2, .int 0), (0, .ref h0), (1, .int x)] := hl'
            clear hl'
            refine lv_goto (tgt := 64) hx hb dX11_count_106 (by decide) ?_
            show W p l e _ s m _ below meth c _ _ _ _ QQ (F0 m 64 ls9091 [])
            refine lv_iload_n hx hb dX11_count_64 rfl (lv_at hl 0 rfl) ?_
            refine lv_bipush (v := 12) hx hb dX11_count_65 (by decide) ?_
            refine lv_icmp_ge (tgt := 109) hx hb dX11_count_67 (by decide) (fun c_67_b9092 => absurd c_67_b9092 (by decide)) (fun _ => ?_)
            refine lv_aload_n hx hb dX11_count_70 rfl (lv_at hl 3 rfl) ?_
            refine va_get (D := (dC, dI)) (ci := 10) (v := .ref (b + 0)) (C := RX11) (T := TX11) (N := 13) hx hb hall zx_11 hown hK.1 hP 0 rfl rfl 0 (by decide) (hall _ zw_160) (fun _ h9 => h9) rfl dX11_count_71 ?_
            show W p l e _ s m _ below meth c _ _ _ _ QQ (F0 m 74 ls9091 [.ref (b + 0)])
            refine lv_iload_n hx hb dX11_count_74 rfl (lv_at hl 0 rfl) ?_
            refine zaldr hx hb hK.1 hP 1 3 rfl rfl (zvp (by decide)) (zrefs_k (k := 2) (by decide +kernel) (by decide)) dX11_count_75 ?_
            refine va_get (D := (dC, dI)) (ci := 5) (v := .int 0) (C := RX6) (T := TX6) (N := 12) hx hb hall zx_6 hown hK.1 hP 4 rfl rfl 0 (by decide) (hall _ zw_212) (fun _ h9 => h9) rfl dX11_count_76 ?_
            refine lv_istore (lv' := [(4, .int 0), (3, .int 2), (2, .int 0), (0, .ref h0), (1, .int x)]) hx hb dX11_count_79 hl (by decide) rfl (fun ls9093 hl' => ?_)
            clear hl
            have hl : lv_has ls9093 5 [(4, .int 0), (3, .int 2), (2, .int 0), (0, .ref h0), (1, .int x)] := hl'
            clear hl'
            refine lv_iload_n hx hb dX11_count_81 rfl (lv_at hl 4 rfl) ?_
            show W p l e _ s m _ below meth c _ _ _ _ QQ (F0 m 82 ls9093 [.int x])
            refine lv_iconst (v := 4) hx hb dX11_count_82 (by decide) ?_
            refine lv_icmp_ne (tgt := 94) hx hb dX11_count_83 (by decide) (fun c_83_b9094 => absurd (c_83_b9026) c_83_b9094) (fun _ => ?_)
            refine lv_iload hx hb dX11_count_86 (lv_at hl 0 rfl) ?_
            refine lv_if_eq (tgt := 103) hx hb dX11_count_88 (by decide) (fun _ => ?_) (fun c_88_b9095 => absurd (by decide) c_88_b9095)
            refine lv_iinc (v := 3) (lv' := [(3, .int 3), (4, .int 0), (2, .int 0), (0, .ref h0), (1, .int x)]) hx hb dX11_count_103 hl (k := 1) rfl (by decide) (by decide) rfl (fun ls9096 hl' => ?_)
            clear hl
            have hl : lv_has ls9096 5 [(3, .int 3), (4, .int 0), (2, .int 0), (0, .ref h0), (1, .int x)] := hl'
            clear hl'
            refine lv_goto (tgt := 64) hx hb dX11_count_106 (by decide) ?_
            show W p l e _ s m _ below meth c _ _ _ _ QQ (F0 m 64 ls9096 [])
            refine lv_iload_n hx hb dX11_count_64 rfl (lv_at hl 0 rfl) ?_
            refine lv_bipush (v := 12) hx hb dX11_count_65 (by decide) ?_
            refine lv_icmp_ge (tgt := 109) hx hb dX11_count_67 (by decide) (fun c_67_b9097 => absurd c_67_b9097 (by decide)) (fun _ => ?_)
            refine lv_aload_n hx hb dX11_count_70 rfl (lv_at hl 3 rfl) ?_
            refine va_get (D := (dC, dI)) (ci := 10) (v := .ref (b + 0)) (C := RX11) (T := TX11) (N := 13) hx hb hall zx_11 hown hK.1 hP 0 rfl rfl 0 (by decide) (hall _ zw_160) (fun _ h9 => h9) rfl dX11_count_71 ?_
            show W p l e _ s m _ below meth c _ _ _ _ QQ (F0 m 74 ls9096 [.ref (b + 0)])
            refine lv_iload_n hx hb dX11_count_74 rfl (lv_at hl 0 rfl) ?_
            refine zaldr hx hb hK.1 hP 1 3 rfl rfl (zvp (by decide)) (zrefs_k (k := 3) (by decide +kernel) (by decide)) dX11_count_75 ?_
            refine va_get (D := (dC, dI)) (ci := 5) (v := .int 0) (C := RX6) (T := TX6) (N := 12) hx hb hall zx_6 hown hK.1 hP 5 rfl rfl 0 (by decide) (hall _ zw_212) (fun _ h9 => h9) rfl dX11_count_76 ?_
            refine lv_istore (lv' := [(4, .int 0), (3, .int 3), (2, .int 0), (0, .ref h0), (1, .int x)]) hx hb dX11_count_79 hl (by decide) rfl (fun ls9098 hl' => ?_)
            clear hl
            have hl : lv_has ls9098 5 [(4, .int 0), (3, .int 3), (2, .int 0), (0, .ref h0), (1, .int x)] := hl'
            clear hl'
            refine lv_iload_n hx hb dX11_count_81 rfl (lv_at hl 4 rfl) ?_
            show W p l e _ s m _ below meth c _ _ _ _ QQ (F0 m 82 ls9098 [.int x])
            refine lv_iconst (v := 4) hx hb dX11_count_82 (by decide) ?_
            refine lv_icmp_ne (tgt := 94) hx hb dX11_count_83 (by decide) (fun c_83_b9099 => absurd (c_83_b9026) c_83_b9099) (fun _ => ?_)
            refine lv_iload hx hb dX11_count_86 (lv_at hl 0 rfl) ?_
            refine lv_if_eq (tgt := 103) hx hb dX11_count_88 (by decide) (fun _ => ?_) (fun c_88_b9100 => absurd (by decide) c_88_b9100)
            refine lv_iinc (v := 4) (lv' := [(3, .int 4), (4, .int 0), (2, .int 0), (0, .ref h0), (1, .int x)]) hx hb dX11_count_103 hl (k := 1) rfl (by decide) (by decide) rfl (fun ls9101 hl' => ?_)
            clear hl
            have hl : lv_has ls9101 5 [(3, .int 4), (4, .int 0), (2, .int 0), (0, .ref h0), (1, .int x)] := hl'
            clear hl'
            refine lv_goto (tgt := 64) hx hb dX11_count_106 (by decide) ?_
            show W p l e _ s m _ below meth c _ _ _ _ QQ (F0 m 64 ls9101 [])
            refine lv_iload_n hx hb dX11_count_64 rfl (lv_at hl 0 rfl) ?_
            refine lv_bipush (v := 12) hx hb dX11_count_65 (by decide) ?_
            refine lv_icmp_ge (tgt := 109) hx hb dX11_count_67 (by decide) (fun c_67_b9102 => absurd c_67_b9102 (by decide)) (fun _ => ?_)
            refine lv_aload_n hx hb dX11_count_70 rfl (lv_at hl 3 rfl) ?_
            refine va_get (D := (dC, dI)) (ci := 10) (v := .ref (b + 0)) (C := RX11) (T := TX11) (N := 13) hx hb hall zx_11 hown hK.1 hP 0 rfl rfl 0 (by decide) (hall _ zw_160) (fun _ h9 => h9) rfl dX11_count_71 ?_
            show W p l e _ s m _ below meth c _ _ _ _ QQ (F0 m 74 ls9101 [.ref (b + 0)])
            refine lv_iload_n hx hb dX11_count_74 rfl (lv_at hl 0 rfl) ?_
            refine zaldr hx hb hK.1 hP 1 3 rfl rfl (zvp (by decide)) (zrefs_k (k := 4) (by decide +kernel) (by decide)) dX11_count_75 ?_
            refine va_get (D := (dC, dI)) (ci := 5) (v := .int 0) (C := RX6) (T := TX6) (N := 12) hx hb hall zx_6 hown hK.1 hP 6 rfl rfl 0 (by decide) (hall _ zw_212) (fun _ h9 => h9) rfl dX11_count_76 ?_
            refine lv_istore (lv' := [(4, .int 0), (3, .int 4), (2, .int 0), (0, .ref h0), (1, .int x)]) hx hb dX11_count_79 hl (by decide) rfl (fun ls9103 hl' => ?_)
            clear hl
            have hl : lv_has ls9103 5 [(4, .int 0), (3, .int 4), (2, .int 0), (0, .ref h0), (1, .int x)] := hl'
            clear hl'
            refine lv_iload_n hx hb dX11_count_81 rfl (lv_at hl 4 rfl) ?_
            show W p l e _ s m _ below meth c _ _ _ _ QQ (F0 m 82 ls9103 [.int x])
            refine lv_iconst (v := 4) hx hb dX11_count_82 (by decide) ?_
            refine lv_icmp_ne (tgt := 94) hx hb dX11_count_83 (by decide) (fun c_83_b9104 => absurd (c_83_b9026) c_83_b9104) (fun _ => ?_)
            refine lv_iload hx hb dX11_count_86 (lv_at hl 0 rfl) ?_
            refine lv_if_eq (tgt := 103) hx hb dX11_count_88 (by decide) (fun _ => ?_) (fun c_88_b9105 => absurd (by decide) c_88_b9105)
            refine lv_iinc (v := 5) (lv' := [(3, .int 5), (4, .int 0), (2, .int 0), (0, .ref h0), (1, .int x)]) hx hb dX11_count_103 hl (k := 1) rfl (by decide) (by decide) rfl (fun ls9106 hl' => ?_)
            clear hl
            have hl : lv_has ls9106 5 [(3, .int 5), (4, .int 0), (2, .int 0), (0, .ref h0), (1, .int x)] := hl'
            clear hl'
            refine lv_goto (tgt := 64) hx hb dX11_count_106 (by decide) ?_
            show W p l e _ s m _ below meth c _ _ _ _ QQ (F0 m 64 ls9106 [])
            refine lv_iload_n hx hb dX11_count_64 rfl (lv_at hl 0 rfl) ?_
            refine lv_bipush (v := 12) hx hb dX11_count_65 (by decide) ?_
            refine lv_icmp_ge (tgt := 109) hx hb dX11_count_67 (by decide) (fun c_67_b9107 => absurd c_67_b9107 (by decide)) (fun _ => ?_)
            refine lv_aload_n hx hb dX11_count_70 rfl (lv_at hl 3 rfl) ?_
            refine va_get (D := (dC, dI)) (ci := 10) (v := .ref (b + 0)) (C := RX11) (T := TX11) (N := 13) hx hb hall zx_11 hown hK.1 hP 0 rfl rfl 0 (by decide) (hall _ zw_160) (fun _ h9 => h9) rfl dX11_count_71 ?_
            show W p l e _ s m _ below meth c _ _ _ _ QQ (F0 m 74 ls9106 [.ref (b + 0)])
            refine lv_iload_n hx hb dX11_count_74 rfl (lv_at hl 0 rfl) ?_
            refine zaldr hx hb hK.1 hP 1 3 rfl rfl (zvp (by decide)) (zrefs_k (k := 5) (by decide +kernel) (by decide)) dX11_count_75 ?_
            refine va_get (D := (dC, dI)) (ci := 5) (v := .int 0) (C := RX6) (T := TX6) (N := 12) hx hb hall zx_6 hown hK.1 hP 7 rfl rfl 0 (by decide) (hall _ zw_212) (fun _ h9 => h9) rfl dX11_count_76 ?_
            refine lv_istore (lv' := [(4, .int 0), (3, .int 5), (2, .int 0), (0, .ref h0), (1, .int x)]) hx hb dX11_count_79 hl (by decide) rfl (fun ls9108 hl' => ?_)
            clear hl
            have hl : lv_has ls9108 5 [(4, .int 0), (3, .int 5), (2, .int 0), (0, .ref h0), (1, .int x)] := hl'
            clear hl'
            refine lv_iload_n hx hb dX11_count_81 rfl (lv_at hl 4 rfl) ?_
            show W p l e _ s m _ below meth c _ _ _ _ QQ (F0 m 82 ls9108 [.int x])
            refine lv_iconst (v := 4) hx hb dX11_count_82 (by decide) ?_
            refine lv_icmp_ne (tgt := 94) hx hb dX11_count_83 (by decide) (fun c_83_b9109 => absurd (c_83_b9026) c_83_b9109) (fun _ => ?_)
            refine lv_iload hx hb dX11_count_86 (lv_at hl 0 rfl) ?_
            refine lv_if_eq (tgt := 103) hx hb dX11_count_88 (by decide) (fun _ => ?_) (fun c_88_b9110 => absurd (by decide) c_88_b9110)
            refine lv_iinc (v := 6) (lv' := [(3, .int 6), (4, .int 0), (2, .int 0), (0, .ref h0), (1, .int x)]) hx hb dX11_count_103 hl (k := 1) rfl (by decide) (by decide) rfl (fun ls9111 hl' => ?_)
            clear hl
            have hl : lv_has ls9111 5 [(3, .int 6), (4, .int 0), (2, .int 0), (0, .ref h0), (1, .int x)] := hl'
            clear hl'
            refine lv_goto (tgt := 64) hx hb dX11_count_106 (by decide) ?_
            show W p l e _ s m _ below meth c _ _ _ _ QQ (F0 m 64 ls9111 [])
            refine lv_iload_n hx hb dX11_count_64 rfl (lv_at hl 0 rfl) ?_
            refine lv_bipush (v := 12) hx hb dX11_count_65 (by decide) ?_
            refine lv_icmp_ge (tgt := 109) hx hb dX11_count_67 (by decide) (fun c_67_b9112 => absurd c_67_b9112 (by decide)) (fun _ => ?_)
            refine lv_aload_n hx hb dX11_count_70 rfl (lv_at hl 3 rfl) ?_
            refine va_get (D := (dC, dI)) (ci := 10) (v := .ref (b + 0)) (C := RX11) (T := TX11) (N := 13) hx hb hall zx_11 hown hK.1 hP 0 rfl rfl 0 (by decide) (hall _ zw_160) (fun _ h9 => h9) rfl dX11_count_71 ?_
            show W p l e _ s m _ below meth c _ _ _ _ QQ (F0 m 74 ls9111 [.ref (b + 0)])
            refine lv_iload_n hx hb dX11_count_74 rfl (lv_at hl 0 rfl) ?_
            refine zaldr hx hb hK.1 hP 1 3 rfl rfl (zvp (by decide)) (zrefs_k (k := 6) (by decide +kernel) (by decide)) dX11_count_75 ?_
            refine va_get (D := (dC, dI)) (ci := 5) (v := .int 0) (C := RX6) (T := TX6) (N := 12) hx hb hall zx_6 hown hK.1 hP 8 rfl rfl 0 (by decide) (hall _ zw_212) (fun _ h9 => h9) rfl dX11_count_76 ?_
            refine lv_istore (lv' := [(4, .int 0), (3, .int 6), (2, .int 0), (0, .ref h0), (1, .int x)]) hx hb dX11_count_79 hl (by decide) rfl (fun ls9113 hl' => ?_)
            clear hl
            have hl : lv_has ls9113 5 [(4, .int 0), (3, .int 6), (2, .int 0), (0, .ref h0), (1, .int x)] := hl'
            clear hl'
            refine lv_iload_n hx hb dX11_count_81 rfl (lv_at hl 4 rfl) ?_
            show W p l e _ s m _ below meth c _ _ _ _ QQ (F0 m 82 ls9113 [.int x])
            refine lv_iconst (v := 4) hx hb dX11_count_82 (by decide) ?_
            refine lv_icmp_ne (tgt := 94) hx hb dX11_count_83 (by decide) (fun c_83_b9114 => absurd (c_83_b9026) c_83_b9114) (fun _ => ?_)
            refine lv_iload hx hb dX11_count_86 (lv_at hl 0 rfl) ?_
            refine lv_if_eq (tgt := 103) hx hb dX11_count_88 (by decide) (fun _ => ?_) (fun c_88_b9115 => absurd (by decide) c_88_b9115)
            refine lv_iinc (v := 7) (lv' := [(3, .int 7), (4, .int 0), (2, .int 0), (0, .ref h0), (1, .int x)]) hx hb dX11_count_103 hl (k := 1) rfl (by decide) (by decide) rfl (fun ls9116 hl' => ?_)
            clear hl
            have hl : lv_has ls9116 5 [(3, .int 7), (4, .int 0), (2, .int 0), (0, .ref h0), (1, .int x)] := hl'
            clear hl'
            refine lv_goto (tgt := 64) hx hb dX11_count_106 (by decide) ?_
            show W p l e _ s m _ below meth c _ _ _ _ QQ (F0 m 64 ls9116 [])
            refine lv_iload_n hx hb dX11_count_64 rfl (lv_at hl 0 rfl) ?_
            refine lv_bipush (v := 12) hx hb dX11_count_65 (by decide) ?_
            refine lv_icmp_ge (tgt := 109) hx hb dX11_count_67 (by decide) (fun c_67_b9117 => absurd c_67_b9117 (by decide)) (fun _ => ?_)
            refine lv_aload_n hx hb dX11_count_70 rfl (lv_at hl 3 rfl) ?_
            refine va_get (D := (dC, dI)) (ci := 10) (v := .ref (b + 0)) (C := RX11) (T := TX11) (N := 13) hx hb hall zx_11 hown hK.1 hP 0 rfl rfl 0 (by decide) (hall _ zw_160) (fun _ h9 => h9) rfl dX11_count_71 ?_
            show W p l e _ s m _ below meth c _ _ _ _ QQ (F0 m 74 ls9116 [.ref (b + 0)])
            refine lv_iload_n hx hb dX11_count_74 rfl (lv_at hl 0 rfl) ?_
            refine zaldr hx hb hK.1 hP 1 3 rfl rfl (zvp (by decide)) (zrefs_k (k := 7) (by decide +kernel) (by decide)) dX11_count_75 ?_
            refine va_get (D := (dC, dI)) (ci := 5) (v := .int 0) (C := RX6) (T := TX6) (N := 12) hx hb hall zx_6 hown hK.1 hP 9 rfl rfl 0 (by decide) (hall _ zw_212) (fun _ h9 => h9) rfl dX11_count_76 ?_
            refine lv_istore (lv' := [(4, .int 0), (3, .int 7), (2, .int 0), (0, .ref h0), (1, .int x)]) hx hb dX11_count_79 hl (by decide) rfl (fun ls9118 hl' => ?_)
            clear hl
            have hl : lv_has ls9118 5 [(4, .int 0), (3, .int 7), (2, .int 0), (0, .ref h0), (1, .int x)] := hl'
            clear hl'
            refine lv_iload_n hx hb dX11_count_81 rfl (lv_at hl 4 rfl) ?_
            show W p l e _ s m _ below meth c _ _ _ _ QQ (F0 m 82 ls9118 [.int x])
            refine lv_iconst (v := 4) hx hb dX11_count_82 (by decide) ?_
            refine lv_icmp_ne (tgt := 94) hx hb dX11_count_83 (by decide) (fun c_83_b9119 => absurd (c_83_b9026) c_83_b9119) (fun _ => ?_)
            refine lv_iload hx hb dX11_count_86 (lv_at hl 0 rfl) ?_
            refine lv_if_eq (tgt := 103) hx hb dX11_count_88 (by decide) (fun _ => ?_) (fun c_88_b9120 => absurd (by decide) c_88_b9120)
            refine lv_iinc (v := 8) (lv' := [(3, .int 8), (4, .int 0), (2, .int 0), (0, .ref h0), (1, .int x)]) hx hb dX11_count_103 hl (k := 1) rfl (by decide) (by decide) rfl (fun ls9121 hl' => ?_)
            clear hl
            have hl : lv_has ls9121 5 [(3, .int 8), (4, .int 0), (2, .int 0), (0, .ref h0), (1, .int x)] := hl'
            clear hl'
            refine lv_goto (tgt := 64) hx hb dX11_count_106 (by decide) ?_
            show W p l e _ s m _ below meth c _ _ _ _ QQ (F0 m 64 ls9121 [])
            refine lv_iload_n hx hb dX11_count_64 rfl (lv_at hl 0 rfl) ?_
            refine lv_bipush (v := 12) hx hb dX11_count_65 (by decide) ?_
            refine lv_icmp_ge (tgt := 109) hx hb dX11_count_67 (by decide) (fun c_67_b9122 => absurd c_67_b9122 (by decide)) (fun _ => ?_)
            refine lv_aload_n hx hb dX11_count_70 rfl (lv_at hl 3 rfl) ?_
            refine va_get (D := (dC, dI)) (ci := 10) (v := .ref (b + 0)) (C := RX11) (T := TX11) (N := 13) hx hb hall zx_11 hown hK.1 hP 0 rfl rfl 0 (by decide) (hall _ zw_160) (fun _ h9 => h9) rfl dX11_count_71 ?_
            show W p l e _ s m _ below meth c _ _ _ _ QQ (F0 m 74 ls9121 [.ref (b + 0)])
            refine lv_iload_n hx hb dX11_count_74 rfl (lv_at hl 0 rfl) ?_
            refine zaldr hx hb hK.1 hP 1 3 rfl rfl (zvp (by decide)) (zrefs_k (k := 8) (by decide +kernel) (by decide)) dX11_count_75 ?_
            refine va_get (D := (dC, dI)) (ci := 5) (v := .int 0) (C := RX6) (T := TX6) (N := 12) hx hb hall zx_6 hown hK.1 hP 10 rfl rfl 0 (by decide) (hall _ zw_212) (fun _ h9 => h9) rfl dX11_count_76 ?_
            refine lv_istore (lv' := [(4, .int 0), (3, .int 8), (2, .int 0), (0, .ref h0), (1, .int x)]) hx hb dX11_count_79 hl (by decide) rfl (fun ls9123 hl' => ?_)
            clear hl
            have hl : lv_has ls9123 5 [(4, .int 0), (3, .int 8), (2, .int 0), (0, .ref h0), (1, .int x)] := hl'
            clear hl'
            refine lv_iload_n hx hb dX11_count_81 rfl (lv_at hl 4 rfl) ?_
            show W p l e _ s m _ below meth c _ _ _ _ QQ (F0 m 82 ls9123 [.int x])
            refine lv_iconst (v := 4) hx hb dX11_count_82 (by decide) ?_
            refine lv_icmp_ne (tgt := 94) hx hb dX11_count_83 (by decide) (fun c_83_b9124 => absurd (c_83_b9026) c_83_b9124) (fun _ => ?_)
            refine lv_iload hx hb dX11_count_86 (lv_at hl 0 rfl) ?_
            refine lv_if_eq (tgt := 103) hx hb dX11_count_88 (by decide) (fun _ => ?_) (fun c_88_b9125 => absurd (by decide) c_88_b9125)
            refine lv_iinc (v := 9) (lv' := [(3, .int 9), (4, .int 0), (2, .int 0), (0, .ref h0), (1, .int x)]) hx hb dX11_count_103 hl (k := 1) rfl (by decide) (by decide) rfl (fun ls9126 hl' => ?_)
            clear hl
            have hl : lv_has ls9126 5 [(3, .int 9), (4, .int 0), (2, .int 0), (0, .ref h0), (1, .int x)] := hl'
            clear hl'
            refine lv_goto (tgt := 64) hx hb dX11_count_106 (by decide) ?_
            show W p l e _ s m _ below meth c _ _ _ _ QQ (F0 m 64 ls9126 [])
            refine lv_iload_n hx hb dX11_count_64 rfl (lv_at hl 0 rfl) ?_
            refine lv_bipush (v := 12) hx hb dX11_count_65 (by decide) ?_
            refine lv_icmp_ge (tgt := 109) hx hb dX11_count_67 (by decide) (fun c_67_b9127 => absurd c_67_b9127 (by decide)) (fun _ => ?_)
            refine lv_aload_n hx hb dX11_count_70 rfl (lv_at hl 3 rfl) ?_
            refine va_get (D := (dC, dI)) (ci := 10) (v := .ref (b + 0)) (C := RX11) (T := TX11) (N := 13) hx hb hall zx_11 hown hK.1 hP 0 rfl rfl 0 (by decide) (hall _ zw_160) (fun _ h9 => h9) rfl dX11_count_71 ?_
            show W p l e _ s m _ below meth c _ _ _ _ QQ (F0 m 74 ls9126 [.ref (b + 0)])
            refine lv_iload_n hx hb dX11_count_74 rfl (lv_at hl 0 rfl) ?_
            refine zaldr hx hb hK.1 hP 1 3 rfl rfl (zvp (by decide)) (zrefs_k (k := 9) (by decide +kernel) (by decide)) dX11_count_75 ?_
            refine va_get (D := (dC, dI)) (ci := 5) (v := .int 0) (C := RX6) (T := TX6) (N := 12) hx hb hall zx_6 hown hK.1 hP 11 rfl rfl 0 (by decide) (hall _ zw_212) (fun _ h9 => h9) rfl dX11_count_76 ?_
            refine lv_istore (lv' := [(4, .int 0), (3, .int 9), (2, .int 0), (0, .ref h0), (1, .int x)]) hx hb dX11_count_79 hl (by decide) rfl (fun ls9128 hl' => ?_)
            clear hl
            have hl : lv_has ls9128 5 [(4, .int 0), (3, .int 9), (2, .int 0), (0, .ref h0), (1, .int x)] := hl'
            clear hl'
            refine lv_iload_n hx hb dX11_count_81 rfl (lv_at hl 4 rfl) ?_
            show W p l e _ s m _ below meth c _ _ _ _ QQ (F0 m 82 ls9128 [.int x])
            refine lv_iconst (v := 4) hx hb dX11_count_82 (by decide) ?_
            refine lv_icmp_ne (tgt := 94) hx hb dX11_count_83 (by decide) (fun c_83_b9129 => absurd (c_83_b9026) c_83_b9129) (fun _ => ?_)
            refine lv_iload hx hb dX11_count_86 (lv_at hl 0 rfl) ?_
            refine lv_if_eq (tgt := 103) hx hb dX11_count_88 (by decide) (fun _ => ?_) (fun c_88_b9130 => absurd (by decide) c_88_b9130)
            refine lv_iinc (v := 10) (lv' := [(3, .int 10), (4, .int 0), (2, .int 0), (0, .ref h0), (1, .int x)]) hx hb dX11_count_103 hl (k := 1) rfl (by decide) (by decide) rfl (fun ls9131 hl' => ?_)
            clear hl
            have hl : lv_has ls9131 5 [(3, .int 10), (4, .int 0), (2, .int 0), (0, .ref h0), (1, .int x)] := hl'
            clear hl'
            refine lv_goto (tgt := 64) hx hb dX11_count_106 (by decide) ?_
            show W p l e _ s m _ below meth c _ _ _ _ QQ (F0 m 64 ls9131 [])
            refine lv_iload_n hx hb dX11_count_64 rfl (lv_at hl 0 rfl) ?_
            refine lv_bipush (v := 12) hx hb dX11_count_65 (by decide) ?_
            refine lv_icmp_ge (tgt := 109) hx hb dX11_count_67 (by decide) (fun c_67_b9132 => absurd c_67_b9132 (by decide)) (fun _ => ?_)
            refine lv_aload_n hx hb dX11_count_70 rfl (lv_at hl 3 rfl) ?_
            refine va_get (D := (dC, dI)) (ci := 10) (v := .ref (b + 0)) (C := RX11) (T := TX11) (N := 13) hx hb hall zx_11 hown hK.1 hP 0 rfl rfl 0 (by decide) (hall _ zw_160) (fun _ h9 => h9) rfl dX11_count_71 ?_
            show W p l e _ s m _ below meth c _ _ _ _ QQ (F0 m 74 ls9131 [.ref (b + 0)])
            refine lv_iload_n hx hb dX11_count_74 rfl (lv_at hl 0 rfl) ?_
            refine zaldr hx hb hK.1 hP 1 3 rfl rfl (zvp (by decide)) (zrefs_k (k := 10) (by decide +kernel) (by decide)) dX11_count_75 ?_
            refine va_get (D := (dC, dI)) (ci := 5) (v := .int 0) (C := RX6) (T := TX6) (N := 12) hx hb hall zx_6 hown hK.1 hP 12 rfl rfl 0 (by decide) (hall _ zw_212) (fun _ h9 => h9) rfl dX11_count_76 ?_
            refine lv_istore (lv' := [(4, .int 0), (3, .int 10), (2, .int 0), (0, .ref h0), (1, .int x)]) hx hb dX11_count_79 hl (by decide) rfl (fun ls9133 hl' => ?_)
            clear hl
            have hl : lv_has ls9133 5 [(4, .int 0), (3, .int 10), (2, .int 0), (0, .ref h0), (1, .int x)] := hl'
            clear hl'
            refine lv_iload_n hx hb dX11_count_81 rfl (lv_at hl 4 rfl) ?_
            show W p l e _ s m _ below meth c _ _ _ _ QQ (F0 m 82 ls9133 [.int x])
            refine lv_iconst (v := 4) hx hb dX11_count_82 (by decide) ?_
            refine lv_icmp_ne (tgt := 94) hx hb dX11_count_83 (by decide) (fun c_83_b9134 => absurd (c_83_b9026) c_83_b9134) (fun _ => ?_)
            refine lv_iload hx hb dX11_count_86 (lv_at hl 0 rfl) ?_
            refine lv_if_eq (tgt := 103) hx hb dX11_count_88 (by decide) (fun _ => ?_) (fun c_88_b9135 => absurd (by decide) c_88_b9135)
            refine lv_iinc (v := 11) (lv' := [(3, .int 11), (4, .int 0), (2, .int 0), (0, .ref h0), (1, .int x)]) hx hb dX11_count_103 hl (k := 1) rfl (by decide) (by decide) rfl (fun ls9136 hl' => ?_)
            clear hl
            have hl : lv_has ls9136 5 [(3, .int 11), (4, .int 0), (2, .int 0), (0, .ref h0), (1, .int x)] := hl'
            clear hl'
            refine lv_goto (tgt := 64) hx hb dX11_count_106 (by decide) ?_
            show W p l e _ s m _ below meth c _ _ _ _ QQ (F0 m 64 ls9136 [])
            refine lv_iload_n hx hb dX11_count_64 rfl (lv_at hl 0 rfl) ?_
            refine lv_bipush (v := 12) hx hb dX11_count_65 (by decide) ?_
            refine lv_icmp_ge (tgt := 109) hx hb dX11_count_67 (by decide) (fun c_67_b9137 => absurd c_67_b9137 (by decide)) (fun _ => ?_)
            refine lv_aload_n hx hb dX11_count_70 rfl (lv_at hl 3 rfl) ?_
            refine va_get (D := (dC, dI)) (ci := 10) (v := .ref (b + 0)) (C := RX11) (T := TX11) (N := 13) hx hb hall zx_11 hown hK.1 hP 0 rfl rfl 0 (by decide) (hall _ zw_160) (fun _ h9 => h9) rfl dX11_count_71 ?_
            show W p l e _ s m _ below meth c _ _ _ _ QQ (F0 m 74 ls9136 [.ref (b + 0)])
            refine lv_iload_n hx hb dX11_count_74 rfl (lv_at hl 0 rfl) ?_
            refine zaldr hx hb hK.1 hP 1 3 rfl rfl (zvp (by decide)) (zrefs_k (k := 11) (by decide +kernel) (by decide)) dX11_count_75 ?_
            refine va_get (D := (dC, dI)) (ci := 5) (v := .int 0) (C := RX6) (T := TX6) (N := 12) hx hb hall zx_6 hown hK.1 hP 13 rfl rfl 0 (by decide) (hall _ zw_212) (fun _ h9 => h9) rfl dX11_count_76 ?_
            refine lv_istore (lv' := [(4, .int 0), (3, .int 11), (2, .int 0), (0, .ref h0), (1, .int x)]) hx hb dX11_count_79 hl (by decide) rfl (fun ls9138 hl' => ?_)
            clear hl
            have hl : lv_has ls9138 5 [(4, .int 0), (3, .int 11), (2, .int 0), (0, .ref h0), (1, .int x)] := hl'
            clear hl'
            refine lv_iload_n hx hb dX11_count_81 rfl (lv_at hl 4 rfl) ?_
            show W p l e _ s m _ below meth c _ _ _ _ QQ (F0 m 82 ls9138 [.int x])
            refine lv_iconst (v := 4) hx hb dX11_count_82 (by decide) ?_
            refine lv_icmp_ne (tgt := 94) hx hb dX11_count_83 (by decide) (fun c_83_b9139 => absurd (c_83_b9026) c_83_b9139) (fun _ => ?_)
            refine lv_iload hx hb dX11_count_86 (lv_at hl 0 rfl) ?_
            refine lv_if_eq (tgt := 103) hx hb dX11_count_88 (by decide) (fun _ => ?_) (fun c_88_b9140 => absurd (by decide) c_88_b9140)
            refine lv_iinc (v := 12) (lv' := [(3, .int 12), (4, .int 0), (2, .int 0), (0, .ref h0), (1, .int x)]) hx hb dX11_count_103 hl (k := 1) rfl (by decide) (by decide) rfl (fun ls9141 hl' => ?_)
            clear hl
            have hl : lv_has ls9141 5 [(3, .int 12), (4, .int 0), (2, .int 0), (0, .ref h0), (1, .int x)] := hl'
            clear hl'
            refine lv_goto (tgt := 64) hx hb dX11_count_106 (by decide) ?_
            show W p l e _ s m _ below meth c _ _ _ _ QQ (F0 m 64 ls9141 [])
            refine lv_iload_n hx hb dX11_count_64 rfl (lv_at hl 0 rfl) ?_
            refine lv_bipush (v := 12) hx hb dX11_count_65 (by decide) ?_
            refine lv_icmp_ge (tgt := 109) hx hb dX11_count_67 (by decide) (fun _ => ?_) (fun c_67_b9142 => absurd (by decide) c_67_b9142)
            refine lv_iload_n hx hb dX11_count_109 rfl (lv_at hl 2 rfl) ?_
            rw [← hQ]
            exact W.iret (v := 0) hx hb hr (fun zt ht hW => ⟨⟨0, (), rfl, by simp [zcount, c_1_b9018, c_6_b9019, c_13_b9020, c_40_b9021, c_83_b9026], (show zt.heap.size = s.heap.size by rw [ht])⟩, hS.F ht⟩) hS.2.2 dX11_count_110
        · refine lv_iload_n hx hb dX11_count_43 rfl (lv_at hl 1 rfl) ?_
          refine lv_iconst (v := 2) hx hb dX11_count_44 (by decide) ?_
          refine lv_icmp_ne (tgt := 55) hx hb dX11_count_45 (by decide) (fun c_45_b9143 => ?_) (fun c_45_b9143 => ?_)
          · refine lv_aload_n hx hb dX11_count_55 rfl (lv_at hl 0 rfl) ?_
            refine va_get (D := (dC, dI)) (ci := 10) (v := .int 0) (C := RX11) (T := TX11) (N := 13) hx hb hall zx_11 hown hK.1 hP 0 rfl rfl 12 (by decide) (hall _ zw_211) (fun _ h9 => h9) rfl dX11_count_56 ?_
            rw [← hQ]
            exact W.iret (v := 0) hx hb hr (fun zt ht hW => ⟨⟨0, (), rfl, by simp [zcount, c_1_b9018, c_6_b9019, c_13_b9020, c_40_b9021, c_45_b9143], (show zt.heap.size = s.heap.size by rw [ht])⟩, hS.F ht⟩) hS.2.2 dX11_count_59
          · refine lv_aload_n hx hb dX11_count_48 rfl (lv_at hl 0 rfl) ?_
            refine va_get (D := (dC, dI)) (ci := 10) (v := .int 0) (C := RX11) (T := TX11) (N := 13) hx hb hall zx_11 hown hK.1 hP 0 rfl rfl 10 (by decide) (hall _ zw_209) (fun _ h9 => h9) rfl dX11_count_49 ?_
            refine lv_goto (tgt := 59) hx hb dX11_count_52 (by decide) ?_
            rw [← hQ]
            exact W.iret (v := 0) hx hb hr (fun zt ht hW => ⟨⟨0, (), rfl, by simp [zcount, c_1_b9018, c_6_b9019, c_13_b9020, c_40_b9021, c_45_b9143], (show zt.heap.size = s.heap.size by rw [ht])⟩, hS.F ht⟩) hS.2.2 dX11_count_59
      · refine lv_iload_n hx hb dX11_count_16 rfl (lv_at hl 1 rfl) ?_
        refine lv_if_ne (tgt := 30) hx hb dX11_count_17 (by decide) (fun c_17_b9144 => ?_) (fun c_17_b9144 => ?_)
        · refine lv_aload_n hx hb dX11_count_30 rfl (lv_at hl 0 rfl) ?_
          show W p l e _ s m _ below meth c _ _ _ _ QQ (F0 m 31 ls [.ref h0])
          refine va_get (D := (dC, dI)) (ci := 10) (v := .ref (b + 88)) (C := RX11) (T := TX11) (N := 13) hx hb hall zx_11 hown hK.1 hP 0 rfl rfl 6 (by decide) (hall _ zw_197) (fun _ h9 => h9) rfl dX11_count_31 ?_
          refine va_get (D := (dC, dI)) (ci := 9) (v := .int 0) (C := RX10) (T := TX10) (N := 19) hx hb hall zx_10 hown hK.1 hP 14 rfl rfl 4 (by decide) (hall _ zw_292) (fun _ h9 => h9) rfl dX11_count_34 ?_
          rw [← hQ]
          exact W.iret (v := 0) hx hb hr (fun zt ht hW => ⟨⟨0, (), rfl, by simp [zcount, c_1_b9018, c_6_b9019, c_13_b9020, c_17_b9144], (show zt.heap.size = s.heap.size by rw [ht])⟩, hS.F ht⟩) hS.2.2 dX11_count_37
        · refine lv_aload_n hx hb dX11_count_20 rfl (lv_at hl 0 rfl) ?_
          show W p l e _ s m _ below meth c _ _ _ _ QQ (F0 m 21 ls [.ref h0])
          refine va_get (D := (dC, dI)) (ci := 10) (v := .ref (b + 88)) (C := RX11) (T := TX11) (N := 13) hx hb hall zx_11 hown hK.1 hP 0 rfl rfl 6 (by decide) (hall _ zw_197) (fun _ h9 => h9) rfl dX11_count_21 ?_
          refine va_get (D := (dC, dI)) (ci := 9) (v := .int 0) (C := RX10) (T := TX10) (N := 19) hx hb hall zx_10 hown hK.1 hP 14 rfl rfl 2 (by decide) (hall _ zw_291) (fun _ h9 => h9) rfl dX11_count_24 ?_
          refine lv_goto (tgt := 37) hx hb dX11_count_27 (by decide) ?_
          rw [← hQ]
          exact W.iret (v := 0) hx hb hr (fun zt ht hW => ⟨⟨0, (), rfl, by simp [zcount, c_1_b9018, c_6_b9019, c_13_b9020, c_17_b9144], (show zt.heap.size = s.heap.size by rw [ht])⟩, hS.F ht⟩) hS.2.2 dX11_count_37
    · refine lv_iconst (v := (-1)) hx hb dX11_count_9 (by decide) ?_
      rw [← hQ]
      exact W.iret (v := (-1)) hx hb hr (fun zt ht hW => ⟨⟨(-1), (), rfl, by simp [zcount, c_1_b9018, c_6_b9019], (show zt.heap.size = s.heap.size by rw [ht])⟩, hS.F ht⟩) hS.2.2 dX11_count_10

set_option maxHeartbeats 4000000 in
set_option maxRecDepth 100000 in
theorem c_X11_feed (l : Launch) (dC : Nat → ClassId) (dI : Nat → Nat → Nat) (aC : Nat → ClassId) (h0 b : Nat) (x : Int32) (sz : Nat) : Met l yX11_feed w_X11_feed ({ frames := 2, cells := 0, slots := 0, locals := 47 }) (zPre (dC, dI) aC [(h0, .inr (10, [.ref (b + 0), .ref (b + 73), .ref (b + 75), .ref (b + 76), .ref (b + 80), .ref (b + 81), .ref (b + 88), .ref (b + 95), .ref (b + 100), .ref (b + 106), .int 0, .ref (b + 107), .int 0])), (b + 106, .inl (aC 0, 60, .inl (fun _ => 0)))] sz [.ref h0, .int x]) (va_Qi (fun (r : Int32) (u : Unit) => r = 1) (fun u zt => zB (dC, dI) [] (va_A [(h0, .inr (10, [.ref (b + 0), .ref (b + 73), .ref (b + 75), .ref (b + 76), .ref (b + 80), .ref (b + 81), .ref (b + 88), .ref (b + 95), .ref (b + 100), .ref (b + 106), .int 0, .ref (b + 107), .int 0])), (b + 106, .inl (aC 0, 60, .inl (fun _ => 0)))] sz) (sz + 0) zt) (va_A [(h0, .inr (10, [.ref (b + 0), .ref (b + 73), .ref (b + 75), .ref (b + 76), .ref (b + 80), .ref (b + 81), .ref (b + 88), .ref (b + 95), .ref (b + 100), .ref (b + 106), .int 0, .ref (b + 107), .int 0])), (b + 106, .inl (aC 0, 60, .inl (fun _ => 0)))] sz)) 0 0 (va_A [(h0, .inr (10, [.ref (b + 0), .ref (b + 73), .ref (b + 75), .ref (b + 76), .ref (b + 80), .ref (b + 81), .ref (b + 88), .ref (b + 95), .ref (b + 100), .ref (b + 106), .int 0, .ref (b + 107), .int 0])), (b + 106, .inl (aC 0, 60, .inl (fun _ => 0)))] sz) := by
  refine Met.ofW (cc := cX11_feed) (maxL := 2) (ret := (some .int)) (by decide) rfl ?_
  intro p e s m args below meth c s₁ B hml hv
  generalize hQ : MQ below _ _ s _ _ _ = QQ
  obtain ⟨rfl, hsz, hP, hK, hD0⟩ := hv
  have hx := B.exec
  have hb := B.bytes
  have hr := B.returns
  have hts := atoms_spec (ws := w_X11_feed) B.pre
  have hall := fun (w : Cond) (h : w ∈ zAll) => hts w (List.mem_cons_of_mem _ h)
  have hown : s.vm.findClass RX11 = some m.cls := findClass_of_methodNamed B.named
  have hlocks := B.notSynchronized
  subst hsz
  have hD := hD0.self (sz := s.heap.size)
  generalize hAe : va_A [(h0, .inr (10, [.ref (b + 0), .ref (b + 73), .ref (b + 75), .ref (b + 76), .ref (b + 80), .ref (b + 81), .ref (b + 88), .ref (b + 95), .ref (b + 100), .ref (b + 106), .int 0, .ref (b + 107), .int 0])), (b + 106, .inl (aC 0, 60, .inl (fun _ => 0)))] s.heap.size = A at hD ⊢
  have hA : ∀ q : Nat, s.heap.size ≤ q → A q := fun q h => by rw [← hAe]; exact Or.inr h
  have hS : va_S A s.heap s.heap [] := va_S.rf
  have hz0 : s.heap.size = s.heap.size + 0 := rfl
  have hl := lv_entry ([.ref h0, .int x]) (n := 2) (Nat.le_of_ble_eq_true rfl)
  rw [lg_entry_eq]
  generalize (lg_sl ([.ref h0, .int x]) ++ List.replicate (2 - (lg_sl ([.ref h0, .int x])).length) Slot.unset).toArray = ls at hl ⊢
  have hl : lv_has ls 2 [(0, .ref h0), (1, .int x)] := hl
  refine lv_aload_n hx hb dX11_feed_0 rfl (lv_at hl 0 rfl) ?_
  refine va_get (D := (dC, dI)) (ci := 10) (v := .int 0) (C := RX11) (T := TX11) (N := 13) hx hb hall zx_11 hown hK.1 hP 0 rfl rfl 10 (by decide) (hall _ zw_209) (fun _ h9 => h9) rfl dX11_feed_1 ?_
  refine lv_if_lt (tgt := 16) hx hb dX11_feed_4 (by decide) (fun c_4_b9145 => absurd c_4_b9145 (by decide)) (fun _ => ?_)
  refine lv_aload_n hx hb dX11_feed_7 rfl (lv_at hl 0 rfl) ?_
  refine va_get (D := (dC, dI)) (ci := 10) (v := .int 0) (C := RX11) (T := TX11) (N := 13) hx hb hall zx_11 hown hK.1 hP 0 rfl rfl 10 (by decide) (hall _ zw_209) (fun _ h9 => h9) rfl dX11_feed_8 ?_
  show W p l e _ s m _ below meth c _ _ _ _ QQ (F0 m 11 ls [.int 0])
  refine lv_bipush (v := 60) hx hb dX11_feed_11 (by decide) ?_
  refine lv_icmp_lt (tgt := 19) hx hb dX11_feed_13 (by decide) (fun _ => ?_) (fun c_13_b9146 => absurd (by decide) c_13_b9146)
  refine lv_aload_n hx hb dX11_feed_19 rfl (lv_at hl 0 rfl) ?_
  refine va_get (D := (dC, dI)) (ci := 10) (v := .ref (b + 106)) (C := RX11) (T := TX11) (N := 13) hx hb hall zx_11 hown hK.1 hP 0 rfl rfl 9 (by decide) (hall _ zw_208) (fun _ h9 => h9) rfl dX11_feed_20 ?_
  refine lv_aload_n hx hb dX11_feed_23 rfl (lv_at hl 0 rfl) ?_
  show W p l e _ s m _ below meth c _ _ _ _ QQ (F0 m 24 ls [.ref h0, .ref (b + 106)])
  refine va_get (D := (dC, dI)) (ci := 10) (v := .int 0) (C := RX11) (T := TX11) (N := 13) hx hb hall zx_11 hown hK.1 hP 0 rfl rfl 10 (by decide) (hall _ zw_209) (fun _ h9 => h9) rfl dX11_feed_24 ?_
  refine lv_iload_n hx hb dX11_feed_27 rfl (lv_at hl 1 rfl) ?_
  refine lv_i2l (v := x.toInt64) hx hb dX11_feed_28 rfl ?_
  refine zro_i hS hA (va_runS (As := [.long x.toInt64]) (rest := [.int 0, .ref (b + 106)]) ⟨hx, hb, hml, hown, hall⟩ (c_X1_rest l dC dI aC x.toInt64 s.heap.size) (va_cwS 1 hall (zgS zw_269 zw_271 zw_782 g_X1_rest) rfl rfl rfl (by decide +kernel) ⟨Nat.le_of_ble_eq_true rfl, Nat.le_of_ble_eq_true rfl⟩) (zPre_S (As := [.long x.toInt64]) hK hP hD [] rfl (by decide +kernel)) rfl rfl hl.1 rfl (lv_room (Nat.le_of_ble_eq_true rfl)) dX11_feed_29 ⟨Nat.le_of_ble_eq_true rfl, Nat.le_of_ble_eq_true rfl⟩) (fun r9147 L9148 hw hS' => ?_)
  clear hS
  have hS := hS'
  clear hS'
  refine ziast hx hb hK.1 hP hD hS 1 0 rfl rfl (zvp (by decide)) dX11_feed_32 (fun H9149 L9150 hB hP' hD' hS' => ?_)
  replace hz0 : H9149.size = s.heap.size + 0 := hB.1.trans hz0
  clear hP hD hS hB
  have hP : va_P (dC, dI) vwCl [(h0, .inr (10, [.ref (b + 0), .ref (b + 73), .ref (b + 75), .ref (b + 76), .ref (b + 80), .ref (b + 81), .ref (b + 88), .ref (b + 95), .ref (b + 100), .ref (b + 106), .int 0, .ref (b + 107), .int 0])), (b + 106, .inl (aC 0, 60, .inl (upd (fun _ => 0) (0 : Int32).toNatClampNeg r9147)))] H9149 := hP'
  have hD : va_D A [(h0, .inr (10, [.ref (b + 0), .ref (b + 73), .ref (b + 75), .ref (b + 76), .ref (b + 80), .ref (b + 81), .ref (b + 88), .ref (b + 95), .ref (b + 100), .ref (b + 106), .int 0, .ref (b + 107), .int 0])), (b + 106, .inl (aC 0, 60, .inl (upd (fun _ => 0) (0 : Int32).toNatClampNeg r9147)))] := hD'
  have hS : va_S A s.heap H9149 L9150 := hS'
  clear hP' hD' hS'
  show W p l e _ s m _ below meth c _ _ _ _ QQ (F0 m 33 ls [])
  refine lv_aload_n hx hb dX11_feed_33 rfl (lv_at hl 0 rfl) ?_
  refine lv_dup hx hb dX11_feed_34 rfl ?_
  refine va_get (D := (dC, dI)) (ci := 10) (v := .int 0) (C := RX11) (T := TX11) (N := 13) hx hb hall zx_11 hown hK.1 hP 0 rfl rfl 10 (by decide) (hall _ zw_209) (fun _ h9 => h9) rfl dX11_feed_35 ?_
  refine lv_iconst (v := 1) hx hb dX11_feed_38 (by decide) ?_
  refine lv_iadd hx hb dX11_feed_39 ?_
  refine lv_topi (fun y9151 ey9151 => ?_)
  obtain rfl : y9151 = 1 := by rw [ey9151]; decide
  try clear ey9151
  show W p l e _ s m _ below meth c _ _ _ _ QQ (F0 m 40 ls [.int 1, .ref h0])
  refine zput (D := (dC, dI)) (ci := 10) (v := .int 1) (ty := .int) (C := RX11) (T := TX11) (N := 13) hx hb hall zx_11 tyX11 tyX11_ok nmX11 hown hK.1 hP hD hS 0 rfl rfl 10 (by decide) (hall _ zw_209) (fun _ h9 => h9) rfl (by decide +kernel) rfl rfl (Nat.le_of_ble_eq_true rfl) dX11_feed_40 (fun H9152 L9153 hB hP' hD' hS' => ?_)
  replace hz0 : H9152.size = s.heap.size + 0 := hB.1.trans hz0
  clear hP hD hS hB
  have hP : va_P (dC, dI) vwCl [(h0, .inr (10, [.ref (b + 0), .ref (b + 73), .ref (b + 75), .ref (b + 76), .ref (b + 80), .ref (b + 81), .ref (b + 88), .ref (b + 95), .ref (b + 100), .ref (b + 106), .int 1, .ref (b + 107), .int 0])), (b + 106, .inl (aC 0, 60, .inl (upd (fun _ => 0) (0 : Int32).toNatClampNeg r9147)))] H9152 := hP'
  have hD : va_D A [(h0, .inr (10, [.ref (b + 0), .ref (b + 73), .ref (b + 75), .ref (b + 76), .ref (b + 80), .ref (b + 81), .ref (b + 88), .ref (b + 95), .ref (b + 100), .ref (b + 106), .int 1, .ref (b + 107), .int 0])), (b + 106, .inl (aC 0, 60, .inl (upd (fun _ => 0) (0 : Int32).toNatClampNeg r9147)))] := hD'
  have hS : va_S A s.heap H9152 L9153 := hS'
  clear hP' hD' hS'
  clear L9150 H9149
  refine lv_aload_n hx hb dX11_feed_43 rfl (lv_at hl 0 rfl) ?_
  refine va_get (D := (dC, dI)) (ci := 10) (v := .int 1) (C := RX11) (T := TX11) (N := 13) hx hb hall zx_11 hown hK.1 hP 0 rfl rfl 10 (by decide) (hall _ zw_209) (fun _ h9 => h9) rfl dX11_feed_44 ?_
  refine W.widen (k := 0) (n := 0) (Nat.le_of_ble_eq_true rfl) (Nat.le_of_ble_eq_true rfl) ?_
  rw [← hQ, hAe]
  have hP := zsubP (wc := []) hP [] rfl
  have hD := hD.sub (ws' := []) [] (by decide) rfl
  exact W.iret (v := 1) hx hb hr (fun zt ht hW => ⟨⟨1, (), rfl, rfl, by rw [ht]; exact hP, hD, by rw [ht]; exact hz0⟩, hS.F ht⟩) hS.2.2 dX11_feed_47

set_option maxHeartbeats 4000000 in
set_option maxRecDepth 100000 in
theorem c_X6_wipe (l : Launch) (dC : Nat → ClassId) (dI : Nat → Nat → Nat) (aC : Nat → ClassId) (a : Nat) (sz : Nat) : Met l yX6_wipe w_X6_wipe ({ frames := 1, cells := 0, slots := 0, locals := 24 }) (zPre (dC, dI) aC [(a, .inr (5, [.int 0, .int 0, .int 0, .int 0, .int 0, .int 0, .int 0, .ref (a + 1), .ref (a + 2), .ref (a + 3), .ref (a + 4), .ref (a + 5)]))] sz [.ref a]) (va_Qv (fun (u : Unit) => True) (fun u zt => zB (dC, dI) [(a, .inr (5, [.int 0, .int 1, .int 1, .int 0, .int 0, .int 0, .int 0, .ref (a + 1), .ref (a + 2), .ref (a + 3), .ref (a + 4), .ref (a + 5)]))] (va_A [(a, .inr (5, [.int 0, .int 0, .int 0, .int 0, .int 0, .int 0, .int 0, .ref (a + 1), .ref (a + 2), .ref (a + 3), .ref (a + 4), .ref (a + 5)]))] sz) (sz + 0) zt) (va_A [(a, .inr (5, [.int 0, .int 0, .int 0, .int 0, .int 0, .int 0, .int 0, .ref (a + 1), .ref (a + 2), .ref (a + 3), .ref (a + 4), .ref (a + 5)]))] sz)) 0 0 (va_A [(a, .inr (5, [.int 0, .int 0, .int 0, .int 0, .int 0, .int 0, .int 0, .ref (a + 1), .ref (a + 2), .ref (a + 3), .ref (a + 4), .ref (a + 5)]))] sz) := by
  refine Met.ofW (cc := cX6_wipe) (maxL := 1) (ret := none) (by decide) rfl ?_
  intro p e s m args below meth c s₁ B hml hv
  generalize hQ : MQ below _ _ s _ _ _ = QQ
  obtain ⟨rfl, hsz, hP, hK, hD0⟩ := hv
  have hx := B.exec
  have hb := B.bytes
  have hr := B.returns
  have hts := atoms_spec (ws := w_X6_wipe) B.pre
  have hall := fun (w : Cond) (h : w ∈ zAll) => hts w (List.mem_cons_of_mem _ h)
  have hown : s.vm.findClass RX6 = some m.cls := findClass_of_methodNamed B.named
  have hlocks := B.notSynchronized
  subst hsz
  have hD := hD0.self (sz := s.heap.size)
  generalize hAe : va_A [(a, .inr (5, [.int 0, .int 0, .int 0, .int 0, .int 0, .int 0, .int 0, .ref (a + 1), .ref (a + 2), .ref (a + 3), .ref (a + 4), .ref (a + 5)]))] s.heap.size = A at hD ⊢
  have hA : ∀ q : Nat, s.heap.size ≤ q → A q := fun q h => by rw [← hAe]; exact Or.inr h
  have hS : va_S A s.heap s.heap [] := va_S.rf
  have hz0 : s.heap.size = s.heap.size + 0 := rfl
  have hl := lv_entry ([.ref a]) (n := 1) (Nat.le_of_ble_eq_true rfl)
  rw [lg_entry_eq]
  generalize (lg_sl ([.ref a]) ++ List.replicate (1 - (lg_sl ([.ref a])).length) Slot.unset).toArray = ls at hl ⊢
  have hl : lv_has ls 1 [(0, .ref a)] := hl
  refine lv_aload_n hx hb dX6_wipe_0 rfl (lv_at hl 0 rfl) ?_
  refine lv_iconst (v := 0) hx hb dX6_wipe_1 (by decide) ?_
  refine zput (D := (dC, dI)) (ci := 5) (v := .int 0) (ty := .int) (C := RX6) (T := TX6) (N := 12) hx hb hall zx_6 tyX6 tyX6_ok nmX6 hown hK.1 hP hD hS 0 rfl rfl 0 (by decide) (hall _ zw_10) (fun _ h9 => h9) rfl (by decide +kernel) rfl rfl (Nat.le_of_ble_eq_true rfl) dX6_wipe_2 (fun H9154 L9155 hB hP' hD' hS' => ?_)
  replace hz0 : H9154.size = s.heap.size + 0 := hB.1.trans hz0
  clear hP hD hS hB
  have hP : va_P (dC, dI) vwCl [(a, .inr (5, [.int 0, .int 0, .int 0, .int 0, .int 0, .int 0, .int 0, .ref (a + 1), .ref (a + 2), .ref (a + 3), .ref (a + 4), .ref (a + 5)]))] H9154 := hP'
  have hD : va_D A [(a, .inr (5, [.int 0, .int 0, .int 0, .int 0, .int 0, .int 0, .int 0, .ref (a + 1), .ref (a + 2), .ref (a + 3), .ref (a + 4), .ref (a + 5)]))] := hD'
  have hS : va_S A s.heap H9154 L9155 := hS'
  clear hP' hD' hS'
  refine lv_aload_n hx hb dX6_wipe_5 rfl (lv_at hl 0 rfl) ?_
  refine lv_iconst (v := 1) hx hb dX6_wipe_6 (by decide) ?_
  show W p l e _ s m _ below meth c _ _ _ _ QQ (F0 m 7 ls [.int 1, .ref a])
  refine zput (D := (dC, dI)) (ci := 5) (v := .int 1) (ty := .int) (C := RX6) (T := TX6) (N := 12) hx hb hall zx_6 tyX6 tyX6_ok nmX6 hown hK.1 hP hD hS 0 rfl rfl 1 (by decide) (hall _ zw_11) (fun _ h9 => h9) rfl (by decide +kernel) rfl rfl (Nat.le_of_ble_eq_true rfl) dX6_wipe_7 (fun H9156 L9157 hB hP' hD' hS' => ?_)
  replace hz0 : H9156.size = s.heap.size + 0 := hB.1.trans hz0
  clear hP hD hS hB
  have hP : va_P (dC, dI) vwCl [(a, .inr (5, [.int 0, .int 1, .int 0, .int 0, .int 0, .int 0, .int 0, .ref (a + 1), .ref (a + 2), .ref (a + 3), .ref (a + 4), .ref (a + 5)]))] H9156 := hP'
  have hD : va_D A [(a, .inr (5, [.int 0, .int 1, .int 0, .int 0, .int 0, .int 0, .int 0, .ref (a + 1), .ref (a + 2), .ref (a + 3), .ref (a + 4), .ref (a + 5)]))] := hD'
  have hS : va_S A s.heap H9156 L9157 := hS'
  clear hP' hD' hS'
  clear L9155 H9154
  refine lv_aload_n hx hb dX6_wipe_10 rfl (lv_at hl 0 rfl) ?_
  refine lv_iconst (v := 1) hx hb dX6_wipe_11 (by decide) ?_
  refine zput (D := (dC, dI)) (ci := 5) (v := .int 1) (ty := .int) (C := RX6) (T := TX6) (N := 12) hx hb hall zx_6 tyX6 tyX6_ok nmX6 hown hK.1 hP hD hS 0 rfl rfl 2 (by decide) (hall _ zw_12) (fun _ h9 => h9) rfl (by decide +kernel) rfl rfl (Nat.le_of_ble_eq_true rfl) dX6_wipe_12 (fun H9158 L9159 hB hP' hD' hS' => ?_)
  replace hz0 : H9158.size = s.heap.size + 0 := hB.1.trans hz0
  clear hP hD hS hB
  have hP : va_P (dC, dI) vwCl [(a, .inr (5, [.int 0, .int 1, .int 1, .int 0, .int 0, .int 0, .int 0, .ref (a + 1), .ref (a + 2), .ref (a + 3), .ref (a + 4), .ref (a + 5)]))] H9158 := hP'
  have hD : va_D A [(a, .inr (5, [.int 0, .int 1, .int 1, .int 0, .int 0, .int 0, .int 0, .ref (a + 1), .ref (a + 2), .ref (a + 3), .ref (a + 4), .ref (a + 5)]))] := hD'
  have hS : va_S A s.heap H9158 L9159 := hS'
  clear hP' hD' hS'
  clear L9157 H9156
  refine lv_aload_n hx hb dX6_wipe_15 rfl (lv_at hl 0 rfl) ?_
  show W p l e _ s m _ below meth c _ _ _ _ QQ (F0 m 16 ls [.ref a])
  refine lv_iconst (v := 0) hx hb dX6_wipe_16 (by decide) ?_
  refine zput (D := (dC, dI)) (ci := 5) (v := .int 0) (ty := .int) (C := RX6) (T := TX6) (N := 12) hx hb hall zx_6 tyX6 tyX6_ok nmX6 hown hK.1 hP hD hS 0 rfl rfl 3 (by decide) (hall _ zw_13) (fun _ h9 => h9) rfl (by decide +kernel) rfl rfl (Nat.le_of_ble_eq_true rfl) dX6_wipe_17 (fun H9160 L9161 hB hP' hD' hS' => ?_)
  replace hz0 : H9160.size = s.heap.size + 0 := hB.1.trans hz0
  clear hP hD hS hB
  have hP : va_P (dC, dI) vwCl [(a, .inr (5, [.int 0, .int 1, .int 1, .int 0, .int 0, .int 0, .int 0, .ref (a + 1), .ref (a + 2), .ref (a + 3), .ref (a + 4), .ref (a + 5)]))] H9160 := hP'
  have hD : va_D A [(a, .inr (5, [.int 0, .int 1, .int 1, .int 0, .int 0, .int 0, .int 0, .ref (a + 1), .ref (a + 2), .ref (a + 3), .ref (a + 4), .ref (a + 5)]))] := hD'
  have hS : va_S A s.heap H9160 L9161 := hS'
  clear hP' hD' hS'
  clear L9159 H9158
  refine lv_aload_n hx hb dX6_wipe_20 rfl (lv_at hl 0 rfl) ?_
  refine lv_iconst (v := 0) hx hb dX6_wipe_21 (by decide) ?_
  refine zput (D := (dC, dI)) (ci := 5) (v := .int 0) (ty := .int) (C := RX6) (T := TX6) (N := 12) hx hb hall zx_6 tyX6 tyX6_ok nmX6 hown hK.1 hP hD hS 0 rfl rfl 4 (by decide) (hall _ zw_14) (fun _ h9 => h9) rfl (by decide +kernel) rfl rfl (Nat.le_of_ble_eq_true rfl) dX6_wipe_22 (fun H9162 L9163 hB hP' hD' hS' => ?_)
  replace hz0 : H9162.size = s.heap.size + 0 := hB.1.trans hz0
  clear hP hD hS hB
  have hP : va_P (dC, dI) vwCl [(a, .inr (5, [.int 0, .int 1, .int 1, .int 0, .int 0, .int 0, .int 0, .ref (a + 1), .ref (a + 2), .ref (a + 3), .ref (a + 4), .ref (a + 5)]))] H9162 := hP'
  have hD : va_D A [(a, .inr (5, [.int 0, .int 1, .int 1, .int 0, .int 0, .int 0, .int 0, .ref (a + 1), .ref (a + 2), .ref (a + 3), .ref (a + 4), .ref (a + 5)]))] := hD'
  have hS : va_S A s.heap H9162 L9163 := hS'
  clear hP' hD' hS'
  clear L9161 H9160
  show W p l e _ s m _ below meth c _ _ _ _ QQ (F0 m 25 ls [])
  refine lv_aload_n hx hb dX6_wipe_25 rfl (lv_at hl 0 rfl) ?_
  refine lv_iconst (v := 0) hx hb dX6_wipe_26 (by decide) ?_
  refine zput (D := (dC, dI)) (ci := 5) (v := .int 0) (ty := .int) (C := RX6) (T := TX6) (N := 12) hx hb hall zx_6 tyX6 tyX6_ok nmX6 hown hK.1 hP hD hS 0 rfl rfl 5 (by decide) (hall _ zw_15) (fun _ h9 => h9) rfl (by decide +kernel) rfl rfl (Nat.le_of_ble_eq_true rfl) dX6_wipe_27 (fun H9164 L9165 hB hP' hD' hS' => ?_)
  replace hz0 : H9164.size = s.heap.size + 0 := hB.1.trans hz0
  clear hP hD hS hB
  have hP : va_P (dC, dI) vwCl [(a, .inr (5, [.int 0, .int 1, .int 1, .int 0, .int 0, .int 0, .int 0, .ref (a + 1), .ref (a + 2), .ref (a + 3), .ref (a + 4), .ref (a + 5)]))] H9164 := hP'
  have hD : va_D A [(a, .inr (5, [.int 0, .int 1, .int 1, .int 0, .int 0, .int 0, .int 0, .ref (a + 1), .ref (a + 2), .ref (a + 3), .ref (a + 4), .ref (a + 5)]))] := hD'
  have hS : va_S A s.heap H9164 L9165 := hS'
  clear hP' hD' hS'
  clear L9163 H9162
  refine lv_aload_n hx hb dX6_wipe_30 rfl (lv_at hl 0 rfl) ?_
  refine lv_iconst (v := 0) hx hb dX6_wipe_31 (by decide) ?_
  show W p l e _ s m _ below meth c _ _ _ _ QQ (F0 m 32 ls [.int 0, .ref a])
  refine zput (D := (dC, dI)) (ci := 5) (v := .int 0) (ty := .int) (C := RX6) (T := TX6) (N := 12) hx hb hall zx_6 tyX6 tyX6_ok nmX6 hown hK.1 hP hD hS 0 rfl rfl 6 (by decide) (hall _ zw_16) (fun _ h9 => h9) rfl (by decide +kernel) rfl rfl (Nat.le_of_ble_eq_true rfl) dX6_wipe_32 (fun H9166 L9167 hB hP' hD' hS' => ?_)
  replace hz0 : H9166.size = s.heap.size + 0 := hB.1.trans hz0
  clear hP hD hS hB
  have hP : va_P (dC, dI) vwCl [(a, .inr (5, [.int 0, .int 1, .int 1, .int 0, .int 0, .int 0, .int 0, .ref (a + 1), .ref (a + 2), .ref (a + 3), .ref (a + 4), .ref (a + 5)]))] H9166 := hP'
  have hD : va_D A [(a, .inr (5, [.int 0, .int 1, .int 1, .int 0, .int 0, .int 0, .int 0, .ref (a + 1), .ref (a + 2), .ref (a + 3), .ref (a + 4), .ref (a + 5)]))] := hD'
  have hS : va_S A s.heap H9166 L9167 := hS'
  clear hP' hD' hS'
  clear L9165 H9164
  refine W.widen (k := 0) (n := 0) (Nat.le_of_ble_eq_true rfl) (Nat.le_of_ble_eq_true rfl) ?_
  rw [← hQ, hAe]
  have hP := zsubP (wc := [(a, .inr (5, [.int 0, .int 1, .int 1, .int 0, .int 0, .int 0, .int 0, .ref (a + 1), .ref (a + 2), .ref (a + 3), .ref (a + 4), .ref (a + 5)]))]) hP [0] rfl
  have hD := hD.sub (ws' := [(a, .inr (5, [.int 0, .int 1, .int 1, .int 0, .int 0, .int 0, .int 0, .ref (a + 1), .ref (a + 2), .ref (a + 3), .ref (a + 4), .ref (a + 5)]))]) [0] (by decide) rfl
  exact W.vret hx hb hr (fun zt ht hW => ⟨⟨(), rfl, trivial, by rw [ht]; exact hP, hD, by rw [ht]; exact hz0⟩, hS.F ht⟩) hS.2.2 dX6_wipe_35

set_option maxHeartbeats 4000000 in
set_option maxRecDepth 100000 in
theorem c_X11_drop_out (l : Launch) (dC : Nat → ClassId) (dI : Nat → Nat → Nat) (aC : Nat → ClassId) (h0 b : Nat) (x : Int32) (sz : Nat) (hxm : zslot b x = none) : Met l yX11_drop w_X11_drop ({ frames := 2, cells := 0, slots := 0, locals := 45 }) (zPre (dC, dI) aC [(h0, .inr (10, [.ref (b + 0), .ref (b + 73), .ref (b + 75), .ref (b + 76), .ref (b + 80), .ref (b + 81), .ref (b + 88), .ref (b + 95), .ref (b + 100), .ref (b + 106), .int 0, .ref (b + 107), .int 0])), (b + 0, .inl (aC 3, 12, .inr (.inr (.inr (.inr (zrefs (fun i => b + (1 + 6 * i)) 12))))))] sz [.ref h0, .int x]) (va_Qi (fun (r : Int32) (_ : Unit) => r = -1) (fun _ zt => zt.heap.size = sz) (zN sz)) 0 0 (zN sz) := by
  refine Met.ofW (cc := cX11_drop) (maxL := 4) (ret := (some .int)) (by decide) rfl ?_
  intro p e s m args below meth c s₁ B hml hv
  generalize hQ : MQ below _ _ s _ _ _ = QQ
  obtain ⟨rfl, hsz, hP, hK, hD0⟩ := hv
  have hx := B.exec
  have hb := B.bytes
  have hr := B.returns
  have hts := atoms_spec (ws := w_X11_drop) B.pre
  have hall := fun (w : Cond) (h : w ∈ zAll) => hts w (List.mem_cons_of_mem _ h)
  have hown : s.vm.findClass RX11 = some m.cls := findClass_of_methodNamed B.named
  have hlocks := B.notSynchronized
  subst hsz
  have hA : ∀ q : Nat, s.heap.size ≤ q → zN s.heap.size q := fun q h => h
  have hS : va_S (zN s.heap.size) s.heap s.heap [] := va_S.rf
  have hD := hD0
  have hl := lv_entry ([.ref h0, .int x]) (n := 4) (Nat.le_of_ble_eq_true rfl)
  rw [lg_entry_eq]
  generalize (lg_sl ([.ref h0, .int x]) ++ List.replicate (4 - (lg_sl ([.ref h0, .int x])).length) Slot.unset).toArray = ls at hl ⊢
  have hl : lv_has ls 4 [(0, .ref h0), (1, .int x)] := hl
  refine lv_aload_n hx hb dX11_drop_0 rfl (lv_at hl 0 rfl) ?_
  refine lv_iload_n hx hb dX11_drop_1 rfl (lv_at hl 1 rfl) ?_
  refine zro_q hS hA (va_runV (As := [.int x]) (rest := []) ⟨hx, hb, hml, hown, hall⟩ (c_X11_slotAt l dC dI aC h0 b x s.heap.size) (cwV 1 hall (zgV zw_225 zw_227 zw_228 zw_802 g_X11_slotAt rfl) rfl rfl rfl (by decide +kernel) ⟨Nat.le_of_ble_eq_true rfl, Nat.le_of_ble_eq_true rfl⟩) (zPre_V (As := [.int x]) hK hP hD [0, 1] rfl (by decide +kernel) (ci := 10) (q0 := 0) rfl rfl) rfl rfl hl.1 rfl (lv_room (Nat.le_of_ble_eq_true rfl)) dX11_drop_2 ⟨Nat.le_of_ble_eq_true rfl, Nat.le_of_ble_eq_true rfl⟩) (fun r9168 L9169 hw hS' => ?_)
  clear hS
  have hS := hS'
  clear hS'
  obtain rfl : r9168 = none := hw.trans hxm
  try clear hw
  refine lv_astore_nN (lv' := [(2, .null), (0, .ref h0), (1, .int x)]) hx hb dX11_drop_5 rfl hl (by decide) rfl (fun ls9170 hl' => ?_)
  clear hl
  have hl : lv_has ls9170 4 [(2, .null), (0, .ref h0), (1, .int x)] := hl'
  clear hl'
  refine lv_aload_nN hx hb dX11_drop_6 rfl (lv_at hl 0 rfl) ?_
  refine lv_ifnonnullN hx hb dX11_drop_7 ?_
  show W p l e _ s m _ below meth c _ _ _ _ QQ (F0 m 10 ls9170 [])
  refine lv_iconst (v := (-1)) hx hb dX11_drop_10 (by decide) ?_
  rw [← hQ]
  exact W.iret (v := (-1)) hx hb hr (fun zt ht hW => ⟨⟨(-1), (), rfl, rfl, (show zt.heap.size = s.heap.size by rw [ht])⟩, hS.F ht⟩) hS.2.2 dX11_drop_11

set_option maxHeartbeats 4000000 in
set_option maxRecDepth 100000 in
theorem c_X11_drop_in (l : Launch) (dC : Nat → ClassId) (dI : Nat → Nat → Nat) (aC : Nat → ClassId) (h0 b a : Nat) (x : Int32) (sz : Nat) (hxm : zslot b x = some a) : Met l yX11_drop w_X11_drop ({ frames := 2, cells := 0, slots := 0, locals := 45 }) (zPre (dC, dI) aC [(h0, .inr (10, [.ref (b + 0), .ref (b + 73), .ref (b + 75), .ref (b + 76), .ref (b + 80), .ref (b + 81), .ref (b + 88), .ref (b + 95), .ref (b + 100), .ref (b + 106), .int 0, .ref (b + 107), .int 0])), (b + 0, .inl (aC 3, 12, .inr (.inr (.inr (.inr (zrefs (fun i => b + (1 + 6 * i)) 12)))))), (a, .inr (5, [.int 0, .int 0, .int 0, .int 0, .int 0, .int 0, .int 0, .ref (a + 1), .ref (a + 2), .ref (a + 3), .ref (a + 4), .ref (a + 5)]))] sz [.ref h0, .int x]) (va_Qi (fun (r : Int32) (u : Unit) => r = 0) (fun u zt => zB (dC, dI) [] (va_A [(h0, .inr (10, [.ref (b + 0), .ref (b + 73), .ref (b + 75), .ref (b + 76), .ref (b + 80), .ref (b + 81), .ref (b + 88), .ref (b + 95), .ref (b + 100), .ref (b + 106), .int 0, .ref (b + 107), .int 0])), (b + 0, .inl (aC 3, 12, .inr (.inr (.inr (.inr (zrefs (fun i => b + (1 + 6 * i)) 12)))))), (a, .inr (5, [.int 0, .int 0, .int 0, .int 0, .int 0, .int 0, .int 0, .ref (a + 1), .ref (a + 2), .ref (a + 3), .ref (a + 4), .ref (a + 5)]))] sz) (sz + 0) zt) (va_A [(h0, .inr (10, [.ref (b + 0), .ref (b + 73), .ref (b + 75), .ref (b + 76), .ref (b + 80), .ref (b + 81), .ref (b + 88), .ref (b + 95), .ref (b + 100), .ref (b + 106), .int 0, .ref (b + 107), .int 0])), (b + 0, .inl (aC 3, 12, .inr (.inr (.inr (.inr (zrefs (fun i => b + (1 + 6 * i)) 12)))))), (a, .inr (5, [.int 0, .int 0, .int 0, .int 0, .int 0, .int 0, .int 0, .ref (a + 1), .ref (a + 2), .ref (a + 3), .ref (a + 4), .ref (a + 5)]))] sz)) 0 0 (va_A [(h0, .inr (10, [.ref (b + 0), .ref (b + 73), .ref (b + 75), .ref (b + 76), .ref (b + 80), .ref (b + 81), .ref (b + 88), .ref (b + 95), .ref (b + 100), .ref (b + 106), .int 0, .ref (b + 107), .int 0])), (b + 0, .inl (aC 3, 12, .inr (.inr (.inr (.inr (zrefs (fun i => b + (1 + 6 * i)) 12)))))), (a, .inr (5, [.int 0, .int 0, .int 0, .int 0, .int 0, .int 0, .int 0, .ref (a + 1), .ref (a + 2), .ref (a + 3), .ref (a + 4), .ref (a + 5)]))] sz) := by
  refine Met.ofW (cc := cX11_drop) (maxL := 4) (ret := (some .int)) (by decide) rfl ?_
  intro p e s m args below meth c s₁ B hml hv
  generalize hQ : MQ below _ _ s _ _ _ = QQ
  obtain ⟨rfl, hsz, hP, hK, hD0⟩ := hv
  have hx := B.exec
  have hb := B.bytes
  have hr := B.returns
  have hts := atoms_spec (ws := w_X11_drop) B.pre
  have hall := fun (w : Cond) (h : w ∈ zAll) => hts w (List.mem_cons_of_mem _ h)
  have hown : s.vm.findClass RX11 = some m.cls := findClass_of_methodNamed B.named
  have hlocks := B.notSynchronized
  subst hsz
  have hD := hD0.self (sz := s.heap.size)
  generalize hAe : va_A [(h0, .inr (10, [.ref (b + 0), .ref (b + 73), .ref (b + 75), .ref (b + 76), .ref (b + 80), .ref (b + 81), .ref (b + 88), .ref (b + 95), .ref (b + 100), .ref (b + 106), .int 0, .ref (b + 107), .int 0])), (b + 0, .inl (aC 3, 12, .inr (.inr (.inr (.inr (zrefs (fun i => b + (1 + 6 * i)) 12)))))), (a, .inr (5, [.int 0, .int 0, .int 0, .int 0, .int 0, .int 0, .int 0, .ref (a + 1), .ref (a + 2), .ref (a + 3), .ref (a + 4), .ref (a + 5)]))] s.heap.size = A at hD ⊢
  have hA : ∀ q : Nat, s.heap.size ≤ q → A q := fun q h => by rw [← hAe]; exact Or.inr h
  have hS : va_S A s.heap s.heap [] := va_S.rf
  have hz0 : s.heap.size = s.heap.size + 0 := rfl
  have hl := lv_entry ([.ref h0, .int x]) (n := 4) (Nat.le_of_ble_eq_true rfl)
  rw [lg_entry_eq]
  generalize (lg_sl ([.ref h0, .int x]) ++ List.replicate (4 - (lg_sl ([.ref h0, .int x])).length) Slot.unset).toArray = ls at hl ⊢
  have hl : lv_has ls 4 [(0, .ref h0), (1, .int x)] := hl
  refine lv_aload_n hx hb dX11_drop_0 rfl (lv_at hl 0 rfl) ?_
  refine lv_iload_n hx hb dX11_drop_1 rfl (lv_at hl 1 rfl) ?_
  refine zro_q hS hA (va_runV (As := [.int x]) (rest := []) ⟨hx, hb, hml, hown, hall⟩ (c_X11_slotAt l dC dI aC h0 b x s.heap.size) (cwV 1 hall (zgV zw_225 zw_227 zw_228 zw_802 g_X11_slotAt rfl) rfl rfl rfl (by decide +kernel) ⟨Nat.le_of_ble_eq_true rfl, Nat.le_of_ble_eq_true rfl⟩) (zPre_V (As := [.int x]) hK hP hD [0, 1] rfl (by decide +kernel) (ci := 10) (q0 := 0) rfl rfl) rfl rfl hl.1 rfl (lv_room (Nat.le_of_ble_eq_true rfl)) dX11_drop_2 ⟨Nat.le_of_ble_eq_true rfl, Nat.le_of_ble_eq_true rfl⟩) (fun r9171 L9172 hw hS' => ?_)
  clear hS
  have hS := hS'
  clear hS'
  obtain rfl : r9171 = some a := hw.trans hxm
  try clear hw
  refine lv_astore_n (lv' := [(2, .ref a), (0, .ref h0), (1, .int x)]) hx hb dX11_drop_5 rfl hl (by decide) rfl (fun ls9173 hl' => ?_)
  clear hl
  have hl : lv_has ls9173 4 [(2, .ref a), (0, .ref h0), (1, .int x)] := hl'
  clear hl'
  refine lv_aload_n hx hb dX11_drop_6 rfl (lv_at hl 0 rfl) ?_
  refine lv_ifnonnull (tgt := 12) hx hb dX11_drop_7 (by decide) ?_
  show W p l e _ s m _ below meth c _ _ _ _ QQ (F0 m 12 ls9173 [])
  refine lv_aload_n hx hb dX11_drop_12 rfl (lv_at hl 0 rfl) ?_
  refine va_get (D := (dC, dI)) (ci := 5) (v := .int 0) (C := RX6) (T := TX6) (N := 12) hx hb hall zx_6 hown hK.1 hP 2 rfl rfl 0 (by decide) (hall _ zw_212) (fun _ h9 => h9) rfl dX11_drop_13 ?_
  refine lv_istore_n (lv' := [(3, .int 0), (2, .ref a), (0, .ref h0), (1, .int x)]) hx hb dX11_drop_16 rfl hl (by decide) rfl (fun ls9174 hl' => ?_)
  clear hl
  have hl : lv_has ls9174 4 [(3, .int 0), (2, .ref a), (0, .ref h0), (1, .int x)] := hl'
  clear hl'
  refine lv_aload_n hx hb dX11_drop_17 rfl (lv_at hl 1 rfl) ?_
  refine zrw_v (k := 0) (wr := [(h0, .inr (10, [.ref (b + 0), .ref (b + 73), .ref (b + 75), .ref (b + 76), .ref (b + 80), .ref (b + 81), .ref (b + 88), .ref (b + 95), .ref (b + 100), .ref (b + 106), .int 0, .ref (b + 107), .int 0])), (b + 0, .inl (aC 3, 12, .inr (.inr (.inr (.inr (zrefs (fun i => b + (1 + 6 * i)) 12))))))]) (wc := [(a, .inr (5, [.int 0, .int 0, .int 0, .int 0, .int 0, .int 0, .int 0, .ref (a + 1), .ref (a + 2), .ref (a + 3), .ref (a + 4), .ref (a + 5)]))]) (w1 := fun _ => [(a, .inr (5, [.int 0, .int 1, .int 1, .int 0, .int 0, .int 0, .int 0, .ref (a + 1), .ref (a + 2), .ref (a + 3), .ref (a + 4), .ref (a + 5)]))]) hP hD hS hA [2] [0, 1] rfl rfl (by decide +kernel) (by decide +kernel) (va_runV (As := []) (rest := []) ⟨hx, hb, hml, hown, hall⟩ (c_X6_wipe l dC dI aC a s.heap.size) (cwV 0 hall (zgV zw_259 zw_114 zw_115 zw_792 g_X6_wipe rfl) rfl rfl rfl (by decide +kernel) ⟨Nat.le_of_ble_eq_true rfl, Nat.le_of_ble_eq_true rfl⟩) (zPre_V (As := []) hK hP hD [2] rfl (by decide +kernel) (ci := 5) (q0 := 0) rfl rfl) rfl rfl hl.1 rfl (lv_room (Nat.le_of_ble_eq_true rfl)) dX11_drop_18 ⟨Nat.le_of_ble_eq_true rfl, Nat.le_of_ble_eq_true rfl⟩) (fun u H9176 L9177 hw hz hk hP' hD' hS' => ?_)
  try rw [hz0] at hP'
  try rw [hz0] at hD'
  rw [hz0] at hz
  replace hz0 : H9176.size = s.heap.size + 0 := by omega
  clear hz
  clear hP hD hS hk
  have hP : va_P (dC, dI) vwCl [(h0, .inr (10, [.ref (b + 0), .ref (b + 73), .ref (b + 75), .ref (b + 76), .ref (b + 80), .ref (b + 81), .ref (b + 88), .ref (b + 95), .ref (b + 100), .ref (b + 106), .int 0, .ref (b + 107), .int 0])), (b + 0, .inl (aC 3, 12, .inr (.inr (.inr (.inr (zrefs (fun i => b + (1 + 6 * i)) 12)))))), (a, .inr (5, [.int 0, .int 1, .int 1, .int 0, .int 0, .int 0, .int 0, .ref (a + 1), .ref (a + 2), .ref (a + 3), .ref (a + 4), .ref (a + 5)]))] H9176 := hP'
  have hD : va_D A [(h0, .inr (10, [.ref (b + 0), .ref (b + 73), .ref (b + 75), .ref (b + 76), .ref (b + 80), .ref (b + 81), .ref (b + 88), .ref (b + 95), .ref (b + 100), .ref (b + 106), .int 0, .ref (b + 107), .int 0])), (b + 0, .inl (aC 3, 12, .inr (.inr (.inr (.inr (zrefs (fun i => b + (1 + 6 * i)) 12)))))), (a, .inr (5, [.int 0, .int 1, .int 1, .int 0, .int 0, .int 0, .int 0, .ref (a + 1), .ref (a + 2), .ref (a + 3), .ref (a + 4), .ref (a + 5)]))] := hD'
  have hS : va_S A s.heap H9176 L9177 := hS'
  clear hP' hD' hS'
  show W p l e _ s m _ below meth c _ _ _ _ QQ (F0 m 21 ls9174 [])
  refine lv_iload_n hx hb dX11_drop_21 rfl (lv_at hl 0 rfl) ?_
  refine W.widen (k := 0) (n := 0) (Nat.le_of_ble_eq_true rfl) (Nat.le_of_ble_eq_true rfl) ?_
  rw [← hQ, hAe]
  have hP := zsubP (wc := []) hP [] rfl
  have hD := hD.sub (ws' := []) [] (by decide) rfl
  exact W.iret (v := 0) hx hb hr (fun zt ht hW => ⟨⟨0, (), rfl, rfl, by rw [ht]; exact hP, hD, by rw [ht]; exact hz0⟩, hS.F ht⟩) hS.2.2 dX11_drop_22

set_option maxHeartbeats 4000000 in
set_option maxRecDepth 100000 in
theorem c_X5_guessed (l : Launch) (dC : Nat → ClassId) (dI : Nat → Nat → Nat) (aC : Nat → ClassId) (b fa ta : Nat) (sz : Nat) : Met l yX5_guessed w_X5_guessed ({ frames := 1, cells := 0, slots := 0, locals := 24 }) (zPre (dC, dI) aC [(b + 100, .inr (4, [.ref (b + 73), .ref (b + 75), .ref (b + 76), .ref (b + 84), .ref (b + 101), .ref (b + 102), .ref (b + 103), .ref (b + 104), .ref (b + 105)]))] sz [.ref (b + 100), .ref fa, .int 0, .ref ta]) (va_Qi (fun (r : Int32) (_ : Unit) => r = -1) (fun _ zt => zt.heap.size = sz) (zN sz)) 0 0 (zN sz) := by
  refine Met.ofW (cc := cX5_guessed) (maxL := 6) (ret := (some .int)) (by decide) rfl ?_
  intro p e s m args below meth c s₁ B hml hv
  generalize hQ : MQ below _ _ s _ _ _ = QQ
  obtain ⟨rfl, hsz, hP, hK, hD0⟩ := hv
  have hx := B.exec
  have hb := B.bytes
  have hr := B.returns
  have hts := atoms_spec (ws := w_X5_guessed) B.pre
  have hall := fun (w : Cond) (h : w ∈ zAll) => hts w (List.mem_cons_of_mem _ h)
  have hown : s.vm.findClass RX5 = some m.cls := findClass_of_methodNamed B.named
  have hlocks := B.notSynchronized
  subst hsz
  have hA : ∀ q : Nat, s.heap.size ≤ q → zN s.heap.size q := fun q h => h
  have hS : va_S (zN s.heap.size) s.heap s.heap [] := va_S.rf
  have hD := hD0
  have hl := lv_entry ([.ref (b + 100), .ref fa, .int 0, .ref ta]) (n := 6) (Nat.le_of_ble_eq_true rfl)
  rw [lg_entry_eq]
  generalize (lg_sl ([.ref (b + 100), .ref fa, .int 0, .ref ta]) ++ List.replicate (6 - (lg_sl ([.ref (b + 100), .ref fa, .int 0, .ref ta])).length) Slot.unset).toArray = ls at hl ⊢
  have hl : lv_has ls 6 [(0, .ref (b + 100)), (1, .ref fa), (2, .int 0), (3, .ref ta)] := hl
  refine lv_iconst (v := 1) hx hb dX5_guessed_0 (by decide) ?_
  refine lv_istore (lv' := [(4, .int 1), (0, .ref (b + 100)), (1, .ref fa), (2, .int 0), (3, .ref ta)]) hx hb dX5_guessed_1 hl (by decide) rfl (fun ls9178 hl' => ?_)
  clear hl
  have hl : lv_has ls9178 6 [(4, .int 1), (0, .ref (b + 100)), (1, .ref fa), (2, .int 0), (3, .ref ta)] := hl'
  clear hl'
  refine lv_iload hx hb dX5_guessed_3 (lv_at hl 0 rfl) ?_
  refine lv_iconst (v := 4) hx hb dX5_guessed_5 (by decide) ?_
  refine lv_icmp_gt (tgt := 81) hx hb dX5_guessed_6 (by decide) (fun c_6_b9179 => absurd c_6_b9179 (by decide)) (fun _ => ?_)
  show W p l e _ s m _ below meth c _ _ _ _ QQ (F0 m 9 ls9178 [])
  refine lv_iconst (v := 0) hx hb dX5_guessed_9 (by decide) ?_
  refine lv_istore (lv' := [(5, .int 0), (4, .int 1), (0, .ref (b + 100)), (1, .ref fa), (2, .int 0), (3, .ref ta)]) hx hb dX5_guessed_10 hl (by decide) rfl (fun ls9180 hl' => ?_)
  clear hl
  have hl : lv_has ls9180 6 [(5, .int 0), (4, .int 1), (0, .ref (b + 100)), (1, .ref fa), (2, .int 0), (3, .ref ta)] := hl'
  clear hl'
  refine lv_iload hx hb dX5_guessed_12 (lv_at hl 0 rfl) ?_
  refine lv_bipush (v := 8) hx hb dX5_guessed_14 (by decide) ?_
  refine lv_icmp_gt (tgt := 75) hx hb dX5_guessed_16 (by decide) (fun c_16_b9181 => absurd c_16_b9181 (by decide)) (fun _ => ?_)
  show W p l e _ s m _ below meth c _ _ _ _ QQ (F0 m 19 ls9180 [])
  refine lv_iload hx hb dX5_guessed_19 (lv_at hl 1 rfl) ?_
  refine lv_iconst (v := 1) hx hb dX5_guessed_21 (by decide) ?_
  refine lv_iadd hx hb dX5_guessed_22 ?_
  refine lv_topi (fun y9182 ey9182 => ?_)
  obtain rfl : y9182 = 2 := by rw [ey9182]; decide
  try clear ey9182
  refine lv_iload hx hb dX5_guessed_23 (lv_at hl 0 rfl) ?_
  refine lv_iconst (v := 1) hx hb dX5_guessed_25 (by decide) ?_
  show W p l e _ s m _ below meth c _ _ _ _ QQ (F0 m 26 ls9180 [.int 1, .int 0, .int 2])
  refine lv_iadd hx hb dX5_guessed_26 ?_
  refine lv_topi (fun y9183 ey9183 => ?_)
  obtain rfl : y9183 = 1 := by rw [ey9183]; decide
  try clear ey9183
  refine lv_imul hx hb dX5_guessed_27 ?_
  refine lv_topi (fun y9184 ey9184 => ?_)
  obtain rfl : y9184 = 2 := by rw [ey9184]; decide
  try clear ey9184
  refine lv_iconst (v := 4) hx hb dX5_guessed_28 (by decide) ?_
  refine lv_iadd hx hb dX5_guessed_29 ?_
  refine lv_topi (fun y9185 ey9185 => ?_)
  obtain rfl : y9185 = 6 := by rw [ey9185]; decide
  try clear ey9185
  refine lv_iload_n hx hb dX5_guessed_30 rfl (lv_at hl 4 rfl) ?_
  show W p l e _ s m _ below meth c _ _ _ _ QQ (F0 m 31 ls9180 [.int 0, .int 6])
  refine lv_iload hx hb dX5_guessed_31 (lv_at hl 1 rfl) ?_
  refine lv_isub hx hb dX5_guessed_33 ?_
  refine lv_topi (fun y9186 ey9186 => ?_)
  obtain rfl : y9186 = (-1) := by rw [ey9186]; decide
  try clear ey9186
  refine lv_icmp_gt (tgt := 75) hx hb dX5_guessed_34 (by decide) (fun _ => ?_) (fun c_34_b9187 => absurd (by decide) c_34_b9187)
  refine lv_iinc (v := 2) (lv' := [(4, .int 2), (5, .int 0), (0, .ref (b + 100)), (1, .ref fa), (2, .int 0), (3, .ref ta)]) hx hb dX5_guessed_75 hl (k := 1) rfl (by decide) (by decide) rfl (fun ls9188 hl' => ?_)
  clear hl
  have hl : lv_has ls9188 6 [(4, .int 2), (5, .int 0), (0, .ref (b + 100)), (1, .ref fa), (2, .int 0), (3, .ref ta)] := hl'
  clear hl'
  refine lv_goto (tgt := 3) hx hb dX5_guessed_78 (by decide) ?_
  show W p l e _ s m _ below meth c _ _ _ _ QQ (F0 m 3 ls9188 [])
  refine lv_iload hx hb dX5_guessed_3 (lv_at hl 0 rfl) ?_
  refine lv_iconst (v := 4) hx hb dX5_guessed_5 (by decide) ?_
  refine lv_icmp_gt (tgt := 81) hx hb dX5_guessed_6 (by decide) (fun c_6_b9189 => absurd c_6_b9189 (by decide)) (fun _ => ?_)
  refine lv_iconst (v := 0) hx hb dX5_guessed_9 (by decide) ?_
  refine lv_istore (lv' := [(5, .int 0), (4, .int 2), (0, .ref (b + 100)), (1, .ref fa), (2, .int 0), (3, .ref ta)]) hx hb dX5_guessed_10 hl (by decide) rfl (fun ls9190 hl' => ?_)
  clear hl
  have hl : lv_has ls9190 6 [(5, .int 0), (4, .int 2), (0, .ref (b + 100)), (1, .ref fa), (2, .int 0), (3, .ref ta)] := hl'
  clear hl'
  show W p l e _ s m _ below meth c _ _ _ _ QQ (F0 m 12 ls9190 [])
  refine lv_iload hx hb dX5_guessed_12 (lv_at hl 0 rfl) ?_
  refine lv_bipush (v := 8) hx hb dX5_guessed_14 (by decide) ?_
  refine lv_icmp_gt (tgt := 75) hx hb dX5_guessed_16 (by decide) (fun c_16_b9191 => absurd c_16_b9191 (by decide)) (fun _ => ?_)
  refine lv_iload hx hb dX5_guessed_19 (lv_at hl 1 rfl) ?_
  refine lv_iconst (v := 1) hx hb dX5_guessed_21 (by decide) ?_
  show W p l e _ s m _ below meth c _ _ _ _ QQ (F0 m 22 ls9190 [.int 1, .int 2])
  refine lv_iadd hx hb dX5_guessed_22 ?_
  refine lv_topi (fun y9192 ey9192 => ?_)
  obtain rfl : y9192 = 3 := by rw [ey9192]; decide
  try clear ey9192
  refine lv_iload hx hb dX5_guessed_23 (lv_at hl 0 rfl) ?_
  refine lv_iconst (v := 1) hx hb dX5_guessed_25 (by decide) ?_
  refine lv_iadd hx hb dX5_guessed_26 ?_
  refine lv_topi (fun y9193 ey9193 => ?_)
  obtain rfl : y9193 = 1 := by rw [ey9193]; decide
  try clear ey9193
  refine lv_imul hx hb dX5_guessed_27 ?_
  refine lv_topi (fun y9194 ey9194 => ?_)
  obtain rfl : y9194 = 3 := by rw [ey9194]; decide
  try clear ey9194
  show W p l e _ s m _ below meth c _ _ _ _ QQ (F0 m 28 ls9190 [.int 3])
  refine lv_iconst (v := 4) hx hb dX5_guessed_28 (by decide) ?_
  refine lv_iadd hx hb dX5_guessed_29 ?_
  refine lv_topi (fun y9195 ey9195 => ?_)
  obtain rfl : y9195 = 7 := by rw [ey9195]; decide
  try clear ey9195
  refine lv_iload_n hx hb dX5_guessed_30 rfl (lv_at hl 4 rfl) ?_
  refine lv_iload hx hb dX5_guessed_31 (lv_at hl 1 rfl) ?_
  refine lv_isub hx hb dX5_guessed_33 ?_
  refine lv_topi (fun y9196 ey9196 => ?_)
  obtain rfl : y9196 = (-2) := by rw [ey9196]; decide
  try clear ey9196
  refine lv_icmp_gt (tgt := 75) hx hb dX5_guessed_34 (by decide) (fun _ => ?_) (fun c_34_b9197 => absurd (by decide) c_34_b9197)
  show W p l e _ s m _ below meth c _ _ _ _ QQ (F0 m 75 ls9190 [])
  refine lv_iinc (v := 3) (lv' := [(4, .int 3), (5, .int 0), (0, .ref (b + 100)), (1, .ref fa), (2, .int 0), (3, .ref ta)]) hx hb dX5_guessed_75 hl (k := 1) rfl (by decide) (by decide) rfl (fun ls9198 hl' => ?_)
  clear hl
  have hl : lv_has ls9198 6 [(4, .int 3), (5, .int 0), (0, .ref (b + 100)), (1, .ref fa), (2, .int 0), (3, .ref ta)] := hl'
  clear hl'
  refine lv_goto (tgt := 3) hx hb dX5_guessed_78 (by decide) ?_
  refine lv_iload hx hb dX5_guessed_3 (lv_at hl 0 rfl) ?_
  refine lv_iconst (v := 4) hx hb dX5_guessed_5 (by decide) ?_
  refine lv_icmp_gt (tgt := 81) hx hb dX5_guessed_6 (by decide) (fun c_6_b9199 => absurd c_6_b9199 (by decide)) (fun _ => ?_)
  show W p l e _ s m _ below meth c _ _ _ _ QQ (F0 m 9 ls9198 [])
  refine lv_iconst (v := 0) hx hb dX5_guessed_9 (by decide) ?_
  refine lv_istore (lv' := [(5, .int 0), (4, .int 3), (0, .ref (b + 100)), (1, .ref fa), (2, .int 0), (3, .ref ta)]) hx hb dX5_guessed_10 hl (by decide) rfl (fun ls9200 hl' => ?_)
  clear hl
  have hl : lv_has ls9200 6 [(5, .int 0), (4, .int 3), (0, .ref (b + 100)), (1, .ref fa), (2, .int 0), (3, .ref ta)] := hl'
  clear hl'
  refine lv_iload hx hb dX5_guessed_12 (lv_at hl 0 rfl) ?_
  refine lv_bipush (v := 8) hx hb dX5_guessed_14 (by decide) ?_
  refine lv_icmp_gt (tgt := 75) hx hb dX5_guessed_16 (by decide) (fun c_16_b9201 => absurd c_16_b9201 (by decide)) (fun _ => ?_)
  show W p l e _ s m _ below meth c _ _ _ _ QQ (F0 m 19 ls9200 [])
  refine lv_iload hx hb dX5_guessed_19 (lv_at hl 1 rfl) ?_
  refine lv_iconst (v := 1) hx hb dX5_guessed_21 (by decide) ?_
  refine lv_iadd hx hb dX5_guessed_22 ?_
  refine lv_topi (fun y9202 ey9202 => ?_)
  obtain rfl : y9202 = 4 := by rw [ey9202]; decide
  try clear ey9202
  refine lv_iload hx hb dX5_guessed_23 (lv_at hl 0 rfl) ?_
  refine lv_iconst (v := 1) hx hb dX5_guessed_25 (by decide) ?_
  show W p l e _ s m _ below meth c _ _ _ _ QQ (F0 m 26 ls9200 [.int 1, .int 0, .int 4])
  refine lv_iadd hx hb dX5_guessed_26 ?_
  refine lv_topi (fun y9203 ey9203 => ?_)
  obtain rfl : y9203 = 1 := by rw [ey9203]; decide
  try clear ey9203
  refine lv_imul hx hb dX5_guessed_27 ?_
  refine lv_topi (fun y9204 ey9204 => ?_)
  obtain rfl : y9204 = 4 := by rw [ey9204]; decide
  try clear ey9204
  refine lv_iconst (v := 4) hx hb dX5_guessed_28 (by decide) ?_
  refine lv_iadd hx hb dX5_guessed_29 ?_
  refine lv_topi (fun y9205 ey9205 => ?_)
  obtain rfl : y9205 = 8 := by rw [ey9205]; decide
  try clear ey9205
  refine lv_iload_n hx hb dX5_guessed_30 rfl (lv_at hl 4 rfl) ?_
  show W p l e _ s m _ below meth c _ _ _ _ QQ (F0 m 31 ls9200 [.int 0, .int 8])
  refine lv_iload hx hb dX5_guessed_31 (lv_at hl 1 rfl) ?_
  refine lv_isub hx hb dX5_guessed_33 ?_
  refine lv_topi (fun y9206 ey9206 => ?_)
  obtain rfl : y9206 = (-3) := by rw [ey9206]; decide
  try clear ey9206
  refine lv_icmp_gt (tgt := 75) hx hb dX5_guessed_34 (by decide) (fun _ => ?_) (fun c_34_b9207 => absurd (by decide) c_34_b9207)
  refine lv_iinc (v := 4) (lv' := [(4, .int 4), (5, .int 0), (0, .ref (b + 100)), (1, .ref fa), (2, .int 0), (3, .ref ta)]) hx hb dX5_guessed_75 hl (k := 1) rfl (by decide) (by decide) rfl (fun ls9208 hl' => ?_)
  clear hl
  have hl : lv_has ls9208 6 [(4, .int 4), (5, .int 0), (0, .ref (b + 100)), (1, .ref fa), (2, .int 0), (3, .ref ta)] := hl'
  clear hl'
  refine lv_goto (tgt := 3) hx hb dX5_guessed_78 (by decide) ?_
  show W p l e _ s m _ below meth c _ _ _ _ QQ (F0 m 3 ls9208 [])
  refine lv_iload hx hb dX5_guessed_3 (lv_at hl 0 rfl) ?_
  refine lv_iconst (v := 4) hx hb dX5_guessed_5 (by decide) ?_
  refine lv_icmp_gt (tgt := 81) hx hb dX5_guessed_6 (by decide) (fun c_6_b9209 => absurd c_6_b9209 (by decide)) (fun _ => ?_)
  refine lv_iconst (v := 0) hx hb dX5_guessed_9 (by decide) ?_
  refine lv_istore (lv' := [(5, .int 0), (4, .int 4), (0, .ref (b + 100)), (1, .ref fa), (2, .int 0), (3, .ref ta)]) hx hb dX5_guessed_10 hl (by decide) rfl (fun ls9210 hl' => ?_)
  clear hl
  have hl : lv_has ls9210 6 [(5, .int 0), (4, .int 4), (0, .ref (b + 100)), (1, .ref fa), (2, .int 0), (3, .ref ta)] := hl'
  clear hl'
  show W p l e _ s m _ below meth c _ _ _ _ QQ (F0 m 12 ls9210 [])
  refine lv_iload hx hb dX5_guessed_12 (lv_at hl 0 rfl) ?_
  refine lv_bipush (v := 8) hx hb dX5_guessed_14 (by decide) ?_
  refine lv_icmp_gt (tgt := 75) hx hb dX5_guessed_16 (by decide) (fun c_16_b9211 => absurd c_16_b9211 (by decide)) (fun _ => ?_)
  refine lv_iload hx hb dX5_guessed_19 (lv_at hl 1 rfl) ?_
  refine lv_iconst (v := 1) hx hb dX5_guessed_21 (by decide) ?_
  show W p l e _ s m _ below meth c _ _ _ _ QQ (F0 m 22 ls9210 [.int 1, .int 4])
  refine lv_iadd hx hb dX5_guessed_22 ?_
  refine lv_topi (fun y9212 ey9212 => ?_)
  obtain rfl : y9212 = 5 := by rw [ey9212]; decide
  try clear ey9212
  refine lv_iload hx hb dX5_guessed_23 (lv_at hl 0 rfl) ?_
  refine lv_iconst (v := 1) hx hb dX5_guessed_25 (by decide) ?_
  refine lv_iadd hx hb dX5_guessed_26 ?_
  refine lv_topi (fun y9213 ey9213 => ?_)
  obtain rfl : y9213 = 1 := by rw [ey9213]; decide
  try clear ey9213
  refine lv_imul hx hb dX5_guessed_27 ?_
  refine lv_topi (fun y9214 ey9214 => ?_)
  obtain rfl : y9214 = 5 := by rw [ey9214]; decide
  try clear ey9214
  show W p l e _ s m _ below meth c _ _ _ _ QQ (F0 m 28 ls9210 [.int 5])
  refine lv_iconst (v := 4) hx hb dX5_guessed_28 (by decide) ?_
  refine lv_iadd hx hb dX5_guessed_29 ?_
  refine lv_topi (fun y9215 ey9215 => ?_)
  obtain rfl : y9215 = 9 := by rw [ey9215]; decide
  try clear ey9215
  refine lv_iload_n hx hb dX5_guessed_30 rfl (lv_at hl 4 rfl) ?_
  refine lv_iload hx hb dX5_guessed_31 (lv_at hl 1 rfl) ?_
  refine lv_isub hx hb dX5_guessed_33 ?_
  refine lv_topi (fun y9216 ey9216 => ?_)
  obtain rfl : y9216 = (-4) := by rw [ey9216]; decide
  try clear ey9216
  refine lv_icmp_gt (tgt := 75) hx hb dX5_guessed_34 (by decide) (fun _ => ?_) (fun c_34_b9217 => absurd (by decide) c_34_b9217)
  show W p l e _ s m _ below meth c _ _ _ _ QQ (F0 m 75 ls9210 [])
  refine lv_iinc (v := 5) (lv' := [(4, .int 5), (5, .int 0), (0, .ref (b + 100)), (1, .ref fa), (2, .int 0), (3, .ref ta)]) hx hb dX5_guessed_75 hl (k := 1) rfl (by decide) (by decide) rfl (fun ls9218 hl' => ?_)
  clear hl
  have hl : lv_has ls9218 6 [(4, .int 5), (5, .int 0), (0, .ref (b + 100)), (1, .ref fa), (2, .int 0), (3, .ref ta)] := hl'
  clear hl'
  refine lv_goto (tgt := 3) hx hb dX5_guessed_78 (by decide) ?_
  refine lv_iload hx hb dX5_guessed_3 (lv_at hl 0 rfl) ?_
  refine lv_iconst (v := 4) hx hb dX5_guessed_5 (by decide) ?_
  refine lv_icmp_gt (tgt := 81) hx hb dX5_guessed_6 (by decide) (fun _ => ?_) (fun c_6_b9219 => absurd (by decide) c_6_b9219)
  show W p l e _ s m _ below meth c _ _ _ _ QQ (F0 m 81 ls9218 [])
  refine lv_iconst (v := (-1)) hx hb dX5_guessed_81 (by decide) ?_
  rw [← hQ]
  exact W.iret (v := (-1)) hx hb hr (fun zt ht hW => ⟨⟨(-1), (), rfl, rfl, (show zt.heap.size = s.heap.size by rw [ht])⟩, hS.F ht⟩) hS.2.2 dX5_guessed_82

set_option maxHeartbeats 4000000 in
set_option maxRecDepth 100000 in
theorem c_X11_guess_out (l : Launch) (dC : Nat → ClassId) (dI : Nat → Nat → Nat) (aC : Nat → ClassId) (h0 b : Nat) (x : Int32) (sz : Nat) (hxm : zslot b x = none) : Met l yX11_guess w_X11_guess ({ frames := 2, cells := 0, slots := 0, locals := 45 }) (zPre (dC, dI) aC [(h0, .inr (10, [.ref (b + 0), .ref (b + 73), .ref (b + 75), .ref (b + 76), .ref (b + 80), .ref (b + 81), .ref (b + 88), .ref (b + 95), .ref (b + 100), .ref (b + 106), .int 0, .ref (b + 107), .int 0])), (b + 0, .inl (aC 3, 12, .inr (.inr (.inr (.inr (zrefs (fun i => b + (1 + 6 * i)) 12))))))] sz [.ref h0, .int x]) (va_Qi (fun (r : Int32) (_ : Unit) => r = -1) (fun _ zt => zt.heap.size = sz) (zN sz)) 0 0 (zN sz) := by
  refine Met.ofW (cc := cX11_guess) (maxL := 3) (ret := (some .int)) (by decide) rfl ?_
  intro p e s m args below meth c s₁ B hml hv
  generalize hQ : MQ below _ _ s _ _ _ = QQ
  obtain ⟨rfl, hsz, hP, hK, hD0⟩ := hv
  have hx := B.exec
  have hb := B.bytes
  have hr := B.returns
  have hts := atoms_spec (ws := w_X11_guess) B.pre
  have hall := fun (w : Cond) (h : w ∈ zAll) => hts w (List.mem_cons_of_mem _ h)
  have hown : s.vm.findClass RX11 = some m.cls := findClass_of_methodNamed B.named
  have hlocks := B.notSynchronized
  subst hsz
  have hA : ∀ q : Nat, s.heap.size ≤ q → zN s.heap.size q := fun q h => h
  have hS : va_S (zN s.heap.size) s.heap s.heap [] := va_S.rf
  have hD := hD0
  have hl := lv_entry ([.ref h0, .int x]) (n := 3) (Nat.le_of_ble_eq_true rfl)
  rw [lg_entry_eq]
  generalize (lg_sl ([.ref h0, .int x]) ++ List.replicate (3 - (lg_sl ([.ref h0, .int x])).length) Slot.unset).toArray = ls at hl ⊢
  have hl : lv_has ls 3 [(0, .ref h0), (1, .int x)] := hl
  refine lv_aload_n hx hb dX11_guess_0 rfl (lv_at hl 0 rfl) ?_
  refine lv_iload_n hx hb dX11_guess_1 rfl (lv_at hl 1 rfl) ?_
  refine zro_q hS hA (va_runV (As := [.int x]) (rest := []) ⟨hx, hb, hml, hown, hall⟩ (c_X11_slotAt l dC dI aC h0 b x s.heap.size) (cwV 1 hall (zgV zw_225 zw_227 zw_228 zw_802 g_X11_slotAt rfl) rfl rfl rfl (by decide +kernel) ⟨Nat.le_of_ble_eq_true rfl, Nat.le_of_ble_eq_true rfl⟩) (zPre_V (As := [.int x]) hK hP hD [0, 1] rfl (by decide +kernel) (ci := 10) (q0 := 0) rfl rfl) rfl rfl hl.1 rfl (lv_room (Nat.le_of_ble_eq_true rfl)) dX11_guess_2 ⟨Nat.le_of_ble_eq_true rfl, Nat.le_of_ble_eq_true rfl⟩) (fun r9220 L9221 hw hS' => ?_)
  clear hS
  have hS := hS'
  clear hS'
  obtain rfl : r9220 = none := hw.trans hxm
  try clear hw
  refine lv_astore_nN (lv' := [(2, .null), (0, .ref h0), (1, .int x)]) hx hb dX11_guess_5 rfl hl (by decide) rfl (fun ls9222 hl' => ?_)
  clear hl
  have hl : lv_has ls9222 3 [(2, .null), (0, .ref h0), (1, .int x)] := hl'
  clear hl'
  refine lv_aload_nN hx hb dX11_guess_6 rfl (lv_at hl 0 rfl) ?_
  refine lv_ifnonnullN hx hb dX11_guess_7 ?_
  show W p l e _ s m _ below meth c _ _ _ _ QQ (F0 m 10 ls9222 [])
  refine lv_iconst (v := (-1)) hx hb dX11_guess_10 (by decide) ?_
  rw [← hQ]
  exact W.iret (v := (-1)) hx hb hr (fun zt ht hW => ⟨⟨(-1), (), rfl, rfl, (show zt.heap.size = s.heap.size by rw [ht])⟩, hS.F ht⟩) hS.2.2 dX11_guess_11

set_option maxHeartbeats 4000000 in
set_option maxRecDepth 100000 in
theorem c_X11_guess_in (l : Launch) (dC : Nat → ClassId) (dI : Nat → Nat → Nat) (aC : Nat → ClassId) (h0 b a : Nat) (x : Int32) (sz : Nat) (hxm : zslot b x = some a) : Met l yX11_guess w_X11_guess ({ frames := 2, cells := 0, slots := 0, locals := 49 }) (zPre (dC, dI) aC [(h0, .inr (10, [.ref (b + 0), .ref (b + 73), .ref (b + 75), .ref (b + 76), .ref (b + 80), .ref (b + 81), .ref (b + 88), .ref (b + 95), .ref (b + 100), .ref (b + 106), .int 0, .ref (b + 107), .int 0])), (b + 0, .inl (aC 3, 12, .inr (.inr (.inr (.inr (zrefs (fun i => b + (1 + 6 * i)) 12)))))), (b + 73, .inr (3, [.ref (b + 74), .int 2048, .int 0])), (b + 74, .inl (aC 0, 131072, .inl (fun _ => 0))), (b + 100, .inr (4, [.ref (b + 73), .ref (b + 75), .ref (b + 76), .ref (b + 84), .ref (b + 101), .ref (b + 102), .ref (b + 103), .ref (b + 104), .ref (b + 105)])), (b + 106, .inl (aC 0, 60, .inl (fun _ => 0)))] sz [.ref h0, .int x]) (va_Qi (fun (r : Int32) (u : Unit) => r = -1) (fun u zt => zB (dC, dI) [] (va_A [(h0, .inr (10, [.ref (b + 0), .ref (b + 73), .ref (b + 75), .ref (b + 76), .ref (b + 80), .ref (b + 81), .ref (b + 88), .ref (b + 95), .ref (b + 100), .ref (b + 106), .int 0, .ref (b + 107), .int 0])), (b + 0, .inl (aC 3, 12, .inr (.inr (.inr (.inr (zrefs (fun i => b + (1 + 6 * i)) 12)))))), (b + 73, .inr (3, [.ref (b + 74), .int 2048, .int 0])), (b + 74, .inl (aC 0, 131072, .inl (fun _ => 0))), (b + 100, .inr (4, [.ref (b + 73), .ref (b + 75), .ref (b + 76), .ref (b + 84), .ref (b + 101), .ref (b + 102), .ref (b + 103), .ref (b + 104), .ref (b + 105)])), (b + 106, .inl (aC 0, 60, .inl (fun _ => 0)))] sz) (sz + 0) zt) (va_A [(h0, .inr (10, [.ref (b + 0), .ref (b + 73), .ref (b + 75), .ref (b + 76), .ref (b + 80), .ref (b + 81), .ref (b + 88), .ref (b + 95), .ref (b + 100), .ref (b + 106), .int 0, .ref (b + 107), .int 0])), (b + 0, .inl (aC 3, 12, .inr (.inr (.inr (.inr (zrefs (fun i => b + (1 + 6 * i)) 12)))))), (b + 73, .inr (3, [.ref (b + 74), .int 2048, .int 0])), (b + 74, .inl (aC 0, 131072, .inl (fun _ => 0))), (b + 100, .inr (4, [.ref (b + 73), .ref (b + 75), .ref (b + 76), .ref (b + 84), .ref (b + 101), .ref (b + 102), .ref (b + 103), .ref (b + 104), .ref (b + 105)])), (b + 106, .inl (aC 0, 60, .inl (fun _ => 0)))] sz)) 0 0 (va_A [(h0, .inr (10, [.ref (b + 0), .ref (b + 73), .ref (b + 75), .ref (b + 76), .ref (b + 80), .ref (b + 81), .ref (b + 88), .ref (b + 95), .ref (b + 100), .ref (b + 106), .int 0, .ref (b + 107), .int 0])), (b + 0, .inl (aC 3, 12, .inr (.inr (.inr (.inr (zrefs (fun i => b + (1 + 6 * i)) 12)))))), (b + 73, .inr (3, [.ref (b + 74), .int 2048, .int 0])), (b + 74, .inl (aC 0, 131072, .inl (fun _ => 0))), (b + 100, .inr (4, [.ref (b + 73), .ref (b + 75), .ref (b + 76), .ref (b + 84), .ref (b + 101), .ref (b + 102), .ref (b + 103), .ref (b + 104), .ref (b + 105)])), (b + 106, .inl (aC 0, 60, .inl (fun _ => 0)))] sz) := by
  refine Met.ofW (cc := cX11_guess) (maxL := 3) (ret := (some .int)) (by decide) rfl ?_
  intro p e s m args below meth c s₁ B hml hv
  generalize hQ : MQ below _ _ s _ _ _ = QQ
  obtain ⟨rfl, hsz, hP, hK, hD0⟩ := hv
  have hx := B.exec
  have hb := B.bytes
  have hr := B.returns
  have hts := atoms_spec (ws := w_X11_guess) B.pre
  have hall := fun (w : Cond) (h : w ∈ zAll) => hts w (List.mem_cons_of_mem _ h)
  have hown : s.vm.findClass RX11 = some m.cls := findClass_of_methodNamed B.named
  have hlocks := B.notSynchronized
  subst hsz
  have hD := hD0.self (sz := s.heap.size)
  generalize hAe : va_A [(h0, .inr (10, [.ref (b + 0), .ref (b + 73), .ref (b + 75), .ref (b + 76), .ref (b + 80), .ref (b + 81), .ref (b + 88), .ref (b + 95), .ref (b + 100), .ref (b + 106), .int 0, .ref (b + 107), .int 0])), (b + 0, .inl (aC 3, 12, .inr (.inr (.inr (.inr (zrefs (fun i => b + (1 + 6 * i)) 12)))))), (b + 73, .inr (3, [.ref (b + 74), .int 2048, .int 0])), (b + 74, .inl (aC 0, 131072, .inl (fun _ => 0))), (b + 100, .inr (4, [.ref (b + 73), .ref (b + 75), .ref (b + 76), .ref (b + 84), .ref (b + 101), .ref (b + 102), .ref (b + 103), .ref (b + 104), .ref (b + 105)])), (b + 106, .inl (aC 0, 60, .inl (fun _ => 0)))] s.heap.size = A at hD ⊢
  have hA : ∀ q : Nat, s.heap.size ≤ q → A q := fun q h => by rw [← hAe]; exact Or.inr h
  have hS : va_S A s.heap s.heap [] := va_S.rf
  have hz0 : s.heap.size = s.heap.size + 0 := rfl
  have hl := lv_entry ([.ref h0, .int x]) (n := 3) (Nat.le_of_ble_eq_true rfl)
  rw [lg_entry_eq]
  generalize (lg_sl ([.ref h0, .int x]) ++ List.replicate (3 - (lg_sl ([.ref h0, .int x])).length) Slot.unset).toArray = ls at hl ⊢
  have hl : lv_has ls 3 [(0, .ref h0), (1, .int x)] := hl
  refine lv_aload_n hx hb dX11_guess_0 rfl (lv_at hl 0 rfl) ?_
  refine lv_iload_n hx hb dX11_guess_1 rfl (lv_at hl 1 rfl) ?_
  refine zro_q hS hA (va_runV (As := [.int x]) (rest := []) ⟨hx, hb, hml, hown, hall⟩ (c_X11_slotAt l dC dI aC h0 b x s.heap.size) (cwV 1 hall (zgV zw_225 zw_227 zw_228 zw_802 g_X11_slotAt rfl) rfl rfl rfl (by decide +kernel) ⟨Nat.le_of_ble_eq_true rfl, Nat.le_of_ble_eq_true rfl⟩) (zPre_V (As := [.int x]) hK hP hD [0, 1] rfl (by decide +kernel) (ci := 10) (q0 := 0) rfl rfl) rfl rfl hl.1 rfl (lv_room (Nat.le_of_ble_eq_true rfl)) dX11_guess_2 ⟨Nat.le_of_ble_eq_true rfl, Nat.le_of_ble_eq_true rfl⟩) (fun r9223 L9224 hw hS' => ?_)
  clear hS
  have hS := hS'
  clear hS'
  obtain rfl : r9223 = some a := hw.trans hxm
  try clear hw
  refine lv_astore_n (lv' := [(2, .ref a), (0, .ref h0), (1, .int x)]) hx hb dX11_guess_5 rfl hl (by decide) rfl (fun ls9225 hl' => ?_)
  clear hl
  have hl : lv_has ls9225 3 [(2, .ref a), (0, .ref h0), (1, .int x)] := hl'
  clear hl'
  refine lv_aload_n hx hb dX11_guess_6 rfl (lv_at hl 0 rfl) ?_
  refine lv_ifnonnull (tgt := 12) hx hb dX11_guess_7 (by decide) ?_
  show W p l e _ s m _ below meth c _ _ _ _ QQ (F0 m 12 ls9225 [])
  refine lv_aload_n hx hb dX11_guess_12 rfl (lv_at hl 1 rfl) ?_
  refine va_get (D := (dC, dI)) (ci := 10) (v := .ref (b + 73)) (C := RX11) (T := TX11) (N := 13) hx hb hall zx_11 hown hK.1 hP 0 rfl rfl 1 (by decide) (hall _ zw_188) (fun _ h9 => h9) rfl dX11_guess_13 ?_
  refine zrw_v (k := 0) (wr := [(h0, .inr (10, [.ref (b + 0), .ref (b + 73), .ref (b + 75), .ref (b + 76), .ref (b + 80), .ref (b + 81), .ref (b + 88), .ref (b + 95), .ref (b + 100), .ref (b + 106), .int 0, .ref (b + 107), .int 0])), (b + 0, .inl (aC 3, 12, .inr (.inr (.inr (.inr (zrefs (fun i => b + (1 + 6 * i)) 12)))))), (b + 100, .inr (4, [.ref (b + 73), .ref (b + 75), .ref (b + 76), .ref (b + 84), .ref (b + 101), .ref (b + 102), .ref (b + 103), .ref (b + 104), .ref (b + 105)])), (b + 106, .inl (aC 0, 60, .inl (fun _ => 0)))]) (wc := [(b + 73, .inr (3, [.ref (b + 74), .int 2048, .int 0])), (b + 74, .inl (aC 0, 131072, .inl (fun _ => 0)))]) (w1 := fun _ => [((b + 73), .inr (3, [.ref (b + 74), .int 2048, .int 0])), ((b + 74), .inl (aC 0, 131072, .inl (fun _ => 0)))]) hP hD hS hA [2, 3] [0, 1, 4, 5] rfl rfl (by decide +kernel) (by decide +kernel) (va_runV (As := []) (rest := []) ⟨hx, hb, hml, hown, hall⟩ (c_X4_empty l dC dI aC (b + 73) (b + 74) 2048 0 (fun _ => 0) s.heap.size) (cwV 0 hall (zgV zw_229 zw_70 zw_71 zw_788 g_X4_empty rfl) rfl rfl rfl (by decide +kernel) ⟨Nat.le_of_ble_eq_true rfl, Nat.le_of_ble_eq_true rfl⟩) (zPre_V (As := []) hK hP hD [2, 3] rfl (by decide +kernel) (ci := 3) (q0 := 0) rfl rfl) rfl rfl hl.1 rfl (lv_room (Nat.le_of_ble_eq_true rfl)) dX11_guess_16 ⟨Nat.le_of_ble_eq_true rfl, Nat.le_of_ble_eq_true rfl⟩) (fun u H9227 L9228 hw hz hk hP' hD' hS' => ?_)
  try rw [hz0] at hP'
  try rw [hz0] at hD'
  rw [hz0] at hz
  replace hz0 : H9227.size = s.heap.size + 0 := by omega
  clear hz
  clear hP hD hS hk
  have hP : va_P (dC, dI) vwCl [(h0, .inr (10, [.ref (b + 0), .ref (b + 73), .ref (b + 75), .ref (b + 76), .ref (b + 80), .ref (b + 81), .ref (b + 88), .ref (b + 95), .ref (b + 100), .ref (b + 106), .int 0, .ref (b + 107), .int 0])), (b + 0, .inl (aC 3, 12, .inr (.inr (.inr (.inr (zrefs (fun i => b + (1 + 6 * i)) 12)))))), (b + 100, .inr (4, [.ref (b + 73), .ref (b + 75), .ref (b + 76), .ref (b + 84), .ref (b + 101), .ref (b + 102), .ref (b + 103), .ref (b + 104), .ref (b + 105)])), (b + 106, .inl (aC 0, 60, .inl (fun _ => 0))), ((b + 73), .inr (3, [.ref (b + 74), .int 2048, .int 0])), ((b + 74), .inl (aC 0, 131072, .inl (fun _ => 0)))] H9227 := hP'
  have hD : va_D A [(h0, .inr (10, [.ref (b + 0), .ref (b + 73), .ref (b + 75), .ref (b + 76), .ref (b + 80), .ref (b + 81), .ref (b + 88), .ref (b + 95), .ref (b + 100), .ref (b + 106), .int 0, .ref (b + 107), .int 0])), (b + 0, .inl (aC 3, 12, .inr (.inr (.inr (.inr (zrefs (fun i => b + (1 + 6 * i)) 12)))))), (b + 100, .inr (4, [.ref (b + 73), .ref (b + 75), .ref (b + 76), .ref (b + 84), .ref (b + 101), .ref (b + 102), .ref (b + 103), .ref (b + 104), .ref (b + 105)])), (b + 106, .inl (aC 0, 60, .inl (fun _ => 0))), ((b + 73), .inr (3, [.ref (b + 74), .int 2048, .int 0])), ((b + 74), .inl (aC 0, 131072, .inl (fun _ => 0)))] := hD'
  have hS : va_S A s.heap H9227 L9228 := hS'
  clear hP' hD' hS'
  refine lv_aload_n hx hb dX11_guess_19 rfl (lv_at hl 1 rfl) ?_
  refine va_get (D := (dC, dI)) (ci := 10) (v := .ref (b + 100)) (C := RX11) (T := TX11) (N := 13) hx hb hall zx_11 hown hK.1 hP 0 rfl rfl 8 (by decide) (hall _ zw_207) (fun _ h9 => h9) rfl dX11_guess_20 ?_
  show W p l e _ s m _ below meth c _ _ _ _ QQ (F0 m 23 ls9225 [.ref (b + 100)])
  refine lv_aload_n hx hb dX11_guess_23 rfl (lv_at hl 1 rfl) ?_
  refine va_get (D := (dC, dI)) (ci := 10) (v := .ref (b + 106)) (C := RX11) (T := TX11) (N := 13) hx hb hall zx_11 hown hK.1 hP 0 rfl rfl 9 (by decide) (hall _ zw_208) (fun _ h9 => h9) rfl dX11_guess_24 ?_
  refine lv_aload_n hx hb dX11_guess_27 rfl (lv_at hl 1 rfl) ?_
  refine va_get (D := (dC, dI)) (ci := 10) (v := .int 0) (C := RX11) (T := TX11) (N := 13) hx hb hall zx_11 hown hK.1 hP 0 rfl rfl 10 (by decide) (hall _ zw_209) (fun _ h9 => h9) rfl dX11_guess_28 ?_
  refine lv_aload_n hx hb dX11_guess_31 rfl (lv_at hl 0 rfl) ?_
  show W p l e _ s m _ below meth c _ _ _ _ QQ (F0 m 32 ls9225 [.ref a, .int 0, .ref (b + 106), .ref (b + 100)])
  refine zro_i hS hA (va_runV (As := [.ref (b + 106), .int 0, .ref a]) (rest := []) ⟨hx, hb, hml, hown, hall⟩ (c_X5_guessed l dC dI aC b (b + 106) a H9227.size) (cwV 3 hall (zgV zw_287 zw_289 zw_290 zw_790 g_X5_guessed rfl) rfl rfl rfl (by decide +kernel) ⟨Nat.le_of_ble_eq_true rfl, Nat.le_of_ble_eq_true rfl⟩) (zPre_V (As := [.ref (b + 106), .int 0, .ref a]) hK hP hD [2] rfl (by decide +kernel) (ci := 4) (q0 := 0) rfl rfl) rfl rfl hl.1 rfl (lv_room (Nat.le_of_ble_eq_true rfl)) dX11_guess_32 ⟨Nat.le_of_ble_eq_true rfl, Nat.le_of_ble_eq_true rfl⟩) (fun r9229 L9230 hw hS' => ?_)
  clear hS
  have hS := hS'
  clear hS'
  obtain rfl : r9229 = (-1) := hw
  try clear hw
  refine W.widen (k := 0) (n := 0) (Nat.le_of_ble_eq_true rfl) (Nat.le_of_ble_eq_true rfl) ?_
  rw [← hQ, hAe]
  have hP := zsubP (wc := []) hP [] rfl
  have hD := hD.sub (ws' := []) [] (by decide) rfl
  exact W.iret (v := (-1)) hx hb hr (fun zt ht hW => ⟨⟨(-1), (), rfl, rfl, by rw [ht]; exact hP, hD, by rw [ht]; exact hz0⟩, hS.F ht⟩) hS.2.2 dX11_guess_35

set_option maxHeartbeats 4000000 in
set_option maxRecDepth 100000 in
theorem c_X10_compile (l : Launch) (dC : Nat → ClassId) (dI : Nat → Nat → Nat) (aC : Nat → ClassId) (b : Nat) (sz : Nat) : Met l yX10_compile w_X10_compile ({ frames := 1, cells := 0, slots := 0, locals := 24 }) (zPre (dC, dI) aC [(b + 88, .inr (9, [.ref (b + 81), .ref (b + 89), .int 0, .ref (b + 90), .int 0, .ref (b + 91), .int 0, .ref (b + 92), .int 0, .ref (b + 93), .int 0, .int 0, .int 0, .ref (b + 94), .int 0, .int 0, .int 0, .int 0, .int (-1)])), (b + 89, .inl (aC 0, 400, .inl (fun _ => 0)))] sz [.ref (b + 88)]) (va_Qi (fun (r : Int32) (u : Unit) => r = 1) (fun u zt => zB (dC, dI) [(b + 88, .inr (9, [.ref (b + 81), .ref (b + 89), .int 0, .ref (b + 90), .int 0, .ref (b + 91), .int 0, .ref (b + 92), .int 0, .ref (b + 93), .int 0, .int 0, .int 0, .ref (b + 94), .int 0, .int 0, .int 0, .int 0, .int 0])), (b + 89, .inl (aC 0, 400, .inl (fun _ => 0)))] (va_A [(b + 88, .inr (9, [.ref (b + 81), .ref (b + 89), .int 0, .ref (b + 90), .int 0, .ref (b + 91), .int 0, .ref (b + 92), .int 0, .ref (b + 93), .int 0, .int 0, .int 0, .ref (b + 94), .int 0, .int 0, .int 0, .int 0, .int (-1)])), (b + 89, .inl (aC 0, 400, .inl (fun _ => 0)))] sz) (sz + 0) zt) (va_A [(b + 88, .inr (9, [.ref (b + 81), .ref (b + 89), .int 0, .ref (b + 90), .int 0, .ref (b + 91), .int 0, .ref (b + 92), .int 0, .ref (b + 93), .int 0, .int 0, .int 0, .ref (b + 94), .int 0, .int 0, .int 0, .int 0, .int (-1)])), (b + 89, .inl (aC 0, 400, .inl (fun _ => 0)))] sz)) 0 0 (va_A [(b + 88, .inr (9, [.ref (b + 81), .ref (b + 89), .int 0, .ref (b + 90), .int 0, .ref (b + 91), .int 0, .ref (b + 92), .int 0, .ref (b + 93), .int 0, .int 0, .int 0, .ref (b + 94), .int 0, .int 0, .int 0, .int 0, .int (-1)])), (b + 89, .inl (aC 0, 400, .inl (fun _ => 0)))] sz) := by
  refine Met.ofW (cc := cX10_compile) (maxL := 4) (ret := (some .int)) (by decide) rfl ?_
  intro p e s m args below meth c s₁ B hml hv
  generalize hQ : MQ below _ _ s _ _ _ = QQ
  obtain ⟨rfl, hsz, hP, hK, hD0⟩ := hv
  have hx := B.exec
  have hb := B.bytes
  have hr := B.returns
  have hts := atoms_spec (ws := w_X10_compile) B.pre
  have hall := fun (w : Cond) (h : w ∈ zAll) => hts w (List.mem_cons_of_mem _ h)
  have hown : s.vm.findClass RX10 = some m.cls := findClass_of_methodNamed B.named
  have hlocks := B.notSynchronized
  subst hsz
  have hD := hD0.self (sz := s.heap.size)
  generalize hAe : va_A [(b + 88, .inr (9, [.ref (b + 81), .ref (b + 89), .int 0, .ref (b + 90), .int 0, .ref (b + 91), .int 0, .ref (b + 92), .int 0, .ref (b + 93), .int 0, .int 0, .int 0, .ref (b + 94), .int 0, .int 0, .int 0, .int 0, .int (-1)])), (b + 89, .inl (aC 0, 400, .inl (fun _ => 0)))] s.heap.size = A at hD ⊢
  have hA : ∀ q : Nat, s.heap.size ≤ q → A q := fun q h => by rw [← hAe]; exact Or.inr h
  have hS : va_S A s.heap s.heap [] := va_S.rf
  have hz0 : s.heap.size = s.heap.size + 0 := rfl
  have hl := lv_entry ([.ref (b + 88)]) (n := 4) (Nat.le_of_ble_eq_true rfl)
  rw [lg_entry_eq]
  generalize (lg_sl ([.ref (b + 88)]) ++ List.replicate (4 - (lg_sl ([.ref (b + 88)])).length) Slot.unset).toArray = ls at hl ⊢
  have hl : lv_has ls 4 [(0, .ref (b + 88))] := hl
  refine lv_aload_n hx hb dX10_compile_0 rfl (lv_at hl 0 rfl) ?_
  refine lv_iconst (v := 0) hx hb dX10_compile_1 (by decide) ?_
  refine zput (D := (dC, dI)) (ci := 9) (v := .int 0) (ty := .int) (C := RX10) (T := TX10) (N := 19) hx hb hall zx_10 tyX10 tyX10_ok nmX10 hown hK.1 hP hD hS 0 rfl rfl 8 (by decide) (hall _ zw_152) (fun _ h9 => h9) rfl (by decide +kernel) rfl rfl (Nat.le_of_ble_eq_true rfl) dX10_compile_2 (fun H9231 L9232 hB hP' hD' hS' => ?_)
  replace hz0 : H9231.size = s.heap.size + 0 := hB.1.trans hz0
  clear hP hD hS hB
  have hP : va_P (dC, dI) vwCl [(b + 88, .inr (9, [.ref (b + 81), .ref (b + 89), .int 0, .ref (b + 90), .int 0, .ref (b + 91), .int 0, .ref (b + 92), .int 0, .ref (b + 93), .int 0, .int 0, .int 0, .ref (b + 94), .int 0, .int 0, .int 0, .int 0, .int (-1)])), (b + 89, .inl (aC 0, 400, .inl (fun _ => 0)))] H9231 := hP'
  have hD : va_D A [(b + 88, .inr (9, [.ref (b + 81), .ref (b + 89), .int 0, .ref (b + 90), .int 0, .ref (b + 91), .int 0, .ref (b + 92), .int 0, .ref (b + 93), .int 0, .int 0, .int 0, .ref (b + 94), .int 0, .int 0, .int 0, .int 0, .int (-1)])), (b + 89, .inl (aC 0, 400, .inl (fun _ => 0)))] := hD'
  have hS : va_S A s.heap H9231 L9232 := hS'
  clear hP' hD' hS'
  refine lv_aload_n hx hb dX10_compile_5 rfl (lv_at hl 0 rfl) ?_
  refine lv_iconst (v := 0) hx hb dX10_compile_6 (by decide) ?_
  show W p l e _ s m _ below meth c _ _ _ _ QQ (F0 m 7 ls [.int 0, .ref (b + 88)])
  refine zput (D := (dC, dI)) (ci := 9) (v := .int 0) (ty := .int) (C := RX10) (T := TX10) (N := 19) hx hb hall zx_10 tyX10 tyX10_ok nmX10 hown hK.1 hP hD hS 0 rfl rfl 10 (by decide) (hall _ zw_153) (fun _ h9 => h9) rfl (by decide +kernel) rfl rfl (Nat.le_of_ble_eq_true rfl) dX10_compile_7 (fun H9233 L9234 hB hP' hD' hS' => ?_)
  replace hz0 : H9233.size = s.heap.size + 0 := hB.1.trans hz0
  clear hP hD hS hB
  have hP : va_P (dC, dI) vwCl [(b + 88, .inr (9, [.ref (b + 81), .ref (b + 89), .int 0, .ref (b + 90), .int 0, .ref (b + 91), .int 0, .ref (b + 92), .int 0, .ref (b + 93), .int 0, .int 0, .int 0, .ref (b + 94), .int 0, .int 0, .int 0, .int 0, .int (-1)])), (b + 89, .inl (aC 0, 400, .inl (fun _ => 0)))] H9233 := hP'
  have hD : va_D A [(b + 88, .inr (9, [.ref (b + 81), .ref (b + 89), .int 0, .ref (b + 90), .int 0, .ref (b + 91), .int 0, .ref (b + 92), .int 0, .ref (b + 93), .int 0, .int 0, .int 0, .ref (b + 94), .int 0, .int 0, .int 0, .int 0, .int (-1)])), (b + 89, .inl (aC 0, 400, .inl (fun _ => 0)))] := hD'
  have hS : va_S A s.heap H9233 L9234 := hS'
  clear hP' hD' hS'
  clear L9232 H9231
  refine lv_aload_n hx hb dX10_compile_10 rfl (lv_at hl 0 rfl) ?_
  refine lv_iconst (v := 0) hx hb dX10_compile_11 (by decide) ?_
  refine zput (D := (dC, dI)) (ci := 9) (v := .int 0) (ty := .int) (C := RX10) (T := TX10) (N := 19) hx hb hall zx_10 tyX10 tyX10_ok nmX10 hown hK.1 hP hD hS 0 rfl rfl 11 (by decide) (hall _ zw_154) (fun _ h9 => h9) rfl (by decide +kernel) rfl rfl (Nat.le_of_ble_eq_true rfl) dX10_compile_12 (fun H9235 L9236 hB hP' hD' hS' => ?_)
  replace hz0 : H9235.size = s.heap.size + 0 := hB.1.trans hz0
  clear hP hD hS hB
  have hP : va_P (dC, dI) vwCl [(b + 88, .inr (9, [.ref (b + 81), .ref (b + 89), .int 0, .ref (b + 90), .int 0, .ref (b + 91), .int 0, .ref (b + 92), .int 0, .ref (b + 93), .int 0, .int 0, .int 0, .ref (b + 94), .int 0, .int 0, .int 0, .int 0, .int (-1)])), (b + 89, .inl (aC 0, 400, .inl (fun _ => 0)))] H9235 := hP'
  have hD : va_D A [(b + 88, .inr (9, [.ref (b + 81), .ref (b + 89), .int 0, .ref (b + 90), .int 0, .ref (b + 91), .int 0, .ref (b + 92), .int 0, .ref (b + 93), .int 0, .int 0, .int 0, .ref (b + 94), .int 0, .int 0, .int 0, .int 0, .int (-1)])), (b + 89, .inl (aC 0, 400, .inl (fun _ => 0)))] := hD'
  have hS : va_S A s.heap H9235 L9236 := hS'
  clear hP' hD' hS'
  clear L9234 H9233
  refine lv_aload_n hx hb dX10_compile_15 rfl (lv_at hl 0 rfl) ?_
  show W p l e _ s m _ below meth c _ _ _ _ QQ (F0 m 16 ls [.ref (b + 88)])
  refine lv_iconst (v := 0) hx hb dX10_compile_16 (by decide) ?_
  refine zput (D := (dC, dI)) (ci := 9) (v := .int 0) (ty := .int) (C := RX10) (T := TX10) (N := 19) hx hb hall zx_10 tyX10 tyX10_ok nmX10 hown hK.1 hP hD hS 0 rfl rfl 14 (by decide) (hall _ zw_155) (fun _ h9 => h9) rfl (by decide +kernel) rfl rfl (Nat.le_of_ble_eq_true rfl) dX10_compile_17 (fun H9237 L9238 hB hP' hD' hS' => ?_)
  replace hz0 : H9237.size = s.heap.size + 0 := hB.1.trans hz0
  clear hP hD hS hB
  have hP : va_P (dC, dI) vwCl [(b + 88, .inr (9, [.ref (b + 81), .ref (b + 89), .int 0, .ref (b + 90), .int 0, .ref (b + 91), .int 0, .ref (b + 92), .int 0, .ref (b + 93), .int 0, .int 0, .int 0, .ref (b + 94), .int 0, .int 0, .int 0, .int 0, .int (-1)])), (b + 89, .inl (aC 0, 400, .inl (fun _ => 0)))] H9237 := hP'
  have hD : va_D A [(b + 88, .inr (9, [.ref (b + 81), .ref (b + 89), .int 0, .ref (b + 90), .int 0, .ref (b + 91), .int 0, .ref (b + 92), .int 0, .ref (b + 93), .int 0, .int 0, .int 0, .ref (b + 94), .int 0, .int 0, .int 0, .int 0, .int (-1)])), (b + 89, .inl (aC 0, 400, .inl (fun _ => 0)))] := hD'
  have hS : va_S A s.heap H9237 L9238 := hS'
  clear hP' hD' hS'
  clear L9236 H9235
  refine lv_aload_n hx hb dX10_compile_20 rfl (lv_at hl 0 rfl) ?_
  refine lv_iconst (v := 0) hx hb dX10_compile_21 (by decide) ?_
  refine zput (D := (dC, dI)) (ci := 9) (v := .int 0) (ty := .int) (C := RX10) (T := TX10) (N := 19) hx hb hall zx_10 tyX10 tyX10_ok nmX10 hown hK.1 hP hD hS 0 rfl rfl 12 (by decide) (hall _ zw_156) (fun _ h9 => h9) rfl (by decide +kernel) rfl rfl (Nat.le_of_ble_eq_true rfl) dX10_compile_22 (fun H9239 L9240 hB hP' hD' hS' => ?_)
  replace hz0 : H9239.size = s.heap.size + 0 := hB.1.trans hz0
  clear hP hD hS hB
  have hP : va_P (dC, dI) vwCl [(b + 88, .inr (9, [.ref (b + 81), .ref (b + 89), .int 0, .ref (b + 90), .int 0, .ref (b + 91), .int 0, .ref (b + 92), .int 0, .ref (b + 93), .int 0, .int 0, .int 0, .ref (b + 94), .int 0, .int 0, .int 0, .int 0, .int (-1)])), (b + 89, .inl (aC 0, 400, .inl (fun _ => 0)))] H9239 := hP'
  have hD : va_D A [(b + 88, .inr (9, [.ref (b + 81), .ref (b + 89), .int 0, .ref (b + 90), .int 0, .ref (b + 91), .int 0, .ref (b + 92), .int 0, .ref (b + 93), .int 0, .int 0, .int 0, .ref (b + 94), .int 0, .int 0, .int 0, .int 0, .int (-1)])), (b + 89, .inl (aC 0, 400, .inl (fun _ => 0)))] := hD'
  have hS : va_S A s.heap H9239 L9240 := hS'
  clear hP' hD' hS'
  clear L9238 H9237
  show W p l e _ s m _ below meth c _ _ _ _ QQ (F0 m 25 ls [])
  refine lv_iconst (v := 0) hx hb dX10_compile_25 (by decide) ?_
  refine lv_istore_n (lv' := [(1, .int 0), (0, .ref (b + 88))]) hx hb dX10_compile_26 rfl hl (by decide) rfl (fun ls9241 hl' => ?_)
  clear hl
  have hl : lv_has ls9241 4 [(1, .int 0), (0, .ref (b + 88))] := hl'
  clear hl'
  refine lv_iconst (v := 0) hx hb dX10_compile_27 (by decide) ?_
  refine lv_istore_n (lv' := [(2, .int 0), (1, .int 0), (0, .ref (b + 88))]) hx hb dX10_compile_28 rfl hl (by decide) rfl (fun ls9242 hl' => ?_)
  clear hl
  have hl : lv_has ls9242 4 [(2, .int 0), (1, .int 0), (0, .ref (b + 88))] := hl'
  clear hl'
  refine lv_iload_n hx hb dX10_compile_29 rfl (lv_at hl 0 rfl) ?_
  show W p l e _ s m _ below meth c _ _ _ _ QQ (F0 m 30 ls9242 [.int 0])
  refine lv_sipush (v := 400) hx hb dX10_compile_30 (by decide) ?_
  refine lv_icmp_gt (tgt := 150) hx hb dX10_compile_33 (by decide) (fun c_33_b9243 => absurd c_33_b9243 (by decide)) (fun _ => ?_)
  refine lv_iload_n hx hb dX10_compile_36 rfl (lv_at hl 1 rfl) ?_
  refine lv_aload_n hx hb dX10_compile_37 rfl (lv_at hl 2 rfl) ?_
  refine va_get (D := (dC, dI)) (ci := 9) (v := .int 0) (C := RX10) (T := TX10) (N := 19) hx hb hall zx_10 hown hK.1 hP 0 rfl rfl 2 (by decide) (hall _ zw_150) (fun _ h9 => h9) rfl dX10_compile_38 ?_
  refine lv_icmp_ge (tgt := 150) hx hb dX10_compile_41 (by decide) (fun _ => ?_) (fun c_41_b9244 => absurd (by decide) c_41_b9244)
  show W p l e _ s m _ below meth c _ _ _ _ QQ (F0 m 150 ls9242 [])
  refine lv_aload_n hx hb dX10_compile_150 rfl (lv_at hl 2 rfl) ?_
  refine va_get (D := (dC, dI)) (ci := 9) (v := .int 0) (C := RX10) (T := TX10) (N := 19) hx hb hall zx_10 hown hK.1 hP 0 rfl rfl 12 (by decide) (hall _ zw_156) (fun _ h9 => h9) rfl dX10_compile_151 ?_
  refine lv_bipush (v := 6) hx hb dX10_compile_154 (by decide) ?_
  refine lv_icmp_eq (tgt := 182) hx hb dX10_compile_156 (by decide) (fun c_156_b9245 => absurd c_156_b9245 (by decide)) (fun _ => ?_)
  refine lv_aload_n hx hb dX10_compile_159 rfl (lv_at hl 2 rfl) ?_
  show W p l e _ s m _ below meth c _ _ _ _ QQ (F0 m 160 ls9242 [.ref (b + 88)])
  refine va_get (D := (dC, dI)) (ci := 9) (v := .int 0) (C := RX10) (T := TX10) (N := 19) hx hb hall zx_10 hown hK.1 hP 0 rfl rfl 11 (by decide) (hall _ zw_154) (fun _ h9 => h9) rfl dX10_compile_160 ?_
  refine lv_if_gt (tgt := 182) hx hb dX10_compile_163 (by decide) (fun c_163_b9246 => absurd c_163_b9246 (by decide)) (fun _ => ?_)
  refine lv_aload_n hx hb dX10_compile_166 rfl (lv_at hl 2 rfl) ?_
  refine va_get (D := (dC, dI)) (ci := 9) (v := .int 0) (C := RX10) (T := TX10) (N := 19) hx hb hall zx_10 hown hK.1 hP 0 rfl rfl 12 (by decide) (hall _ zw_156) (fun _ h9 => h9) rfl dX10_compile_167 ?_
  refine lv_iconst (v := 2) hx hb dX10_compile_170 (by decide) ?_
  refine lv_icmp_lt (tgt := 182) hx hb dX10_compile_171 (by decide) (fun _ => ?_) (fun c_171_b9247 => absurd (by decide) c_171_b9247)
  show W p l e _ s m _ below meth c _ _ _ _ QQ (F0 m 182 ls9242 [])
  refine lv_aload_n hx hb dX10_compile_182 rfl (lv_at hl 2 rfl) ?_
  refine lv_iload_n hx hb dX10_compile_183 rfl (lv_at hl 1 rfl) ?_
  refine zput (D := (dC, dI)) (ci := 9) (v := .int 0) (ty := .int) (C := RX10) (T := TX10) (N := 19) hx hb hall zx_10 tyX10 tyX10_ok nmX10 hown hK.1 hP hD hS 0 rfl rfl 18 (by decide) (hall _ zw_149) (fun _ h9 => h9) rfl (by decide +kernel) rfl rfl (Nat.le_of_ble_eq_true rfl) dX10_compile_184 (fun H9248 L9249 hB hP' hD' hS' => ?_)
  replace hz0 : H9248.size = s.heap.size + 0 := hB.1.trans hz0
  clear hP hD hS hB
  have hP : va_P (dC, dI) vwCl [(b + 88, .inr (9, [.ref (b + 81), .ref (b + 89), .int 0, .ref (b + 90), .int 0, .ref (b + 91), .int 0, .ref (b + 92), .int 0, .ref (b + 93), .int 0, .int 0, .int 0, .ref (b + 94), .int 0, .int 0, .int 0, .int 0, .int 0])), (b + 89, .inl (aC 0, 400, .inl (fun _ => 0)))] H9248 := hP'
  have hD : va_D A [(b + 88, .inr (9, [.ref (b + 81), .ref (b + 89), .int 0, .ref (b + 90), .int 0, .ref (b + 91), .int 0, .ref (b + 92), .int 0, .ref (b + 93), .int 0, .int 0, .int 0, .ref (b + 94), .int 0, .int 0, .int 0, .int 0, .int 0])), (b + 89, .inl (aC 0, 400, .inl (fun _ => 0)))] := hD'
  have hS : va_S A s.heap H9248 L9249 := hS'
  clear hP' hD' hS'
  clear L9240 H9239
  refine lv_iconst (v := 1) hx hb dX10_compile_187 (by decide) ?_
  refine W.widen (k := 0) (n := 0) (Nat.le_of_ble_eq_true rfl) (Nat.le_of_ble_eq_true rfl) ?_
  rw [← hQ, hAe]
  have hP := zsubP (wc := [(b + 88, .inr (9, [.ref (b + 81), .ref (b + 89), .int 0, .ref (b + 90), .int 0, .ref (b + 91), .int 0, .ref (b + 92), .int 0, .ref (b + 93), .int 0, .int 0, .int 0, .ref (b + 94), .int 0, .int 0, .int 0, .int 0, .int 0])), (b + 89, .inl (aC 0, 400, .inl (fun _ => 0)))]) hP [0, 1] rfl
  have hD := hD.sub (ws' := [(b + 88, .inr (9, [.ref (b + 81), .ref (b + 89), .int 0, .ref (b + 90), .int 0, .ref (b + 91), .int 0, .ref (b + 92), .int 0, .ref (b + 93), .int 0, .int 0, .int 0, .ref (b + 94), .int 0, .int 0, .int 0, .int 0, .int 0])), (b + 89, .inl (aC 0, 400, .inl (fun _ => 0)))]) [0, 1] (by decide) rfl
  exact W.iret (v := 1) hx hb hr (fun zt ht hW => ⟨⟨1, (), rfl, rfl, by rw [ht]; exact hP, hD, by rw [ht]; exact hz0⟩, hS.F ht⟩) hS.2.2 dX10_compile_188

set_option maxHeartbeats 4000000 in
set_option maxRecDepth 100000 in
theorem c_X10_emptyTape (l : Launch) (dC : Nat → ClassId) (dI : Nat → Nat → Nat) (aC : Nat → ClassId) (b : Nat) (sz : Nat) : Met l yX10_emptyTape w_X10_emptyTape ({ frames := 1, cells := 0, slots := 0, locals := 24 }) (zPre (dC, dI) aC [(b + 88, .inr (9, [.ref (b + 81), .ref (b + 89), .int 0, .ref (b + 90), .int 0, .ref (b + 91), .int 0, .ref (b + 92), .int 0, .ref (b + 93), .int 0, .int 0, .int 0, .ref (b + 94), .int 0, .int 0, .int 0, .int 0, .int 0]))] sz [.ref (b + 88)]) (va_Qv (fun (u : Unit) => True) (fun u zt => zB (dC, dI) [] (va_A [(b + 88, .inr (9, [.ref (b + 81), .ref (b + 89), .int 0, .ref (b + 90), .int 0, .ref (b + 91), .int 0, .ref (b + 92), .int 0, .ref (b + 93), .int 0, .int 0, .int 0, .ref (b + 94), .int 0, .int 0, .int 0, .int 0, .int 0]))] sz) (sz + 0) zt) (va_A [(b + 88, .inr (9, [.ref (b + 81), .ref (b + 89), .int 0, .ref (b + 90), .int 0, .ref (b + 91), .int 0, .ref (b + 92), .int 0, .ref (b + 93), .int 0, .int 0, .int 0, .ref (b + 94), .int 0, .int 0, .int 0, .int 0, .int 0]))] sz)) 0 0 (va_A [(b + 88, .inr (9, [.ref (b + 81), .ref (b + 89), .int 0, .ref (b + 90), .int 0, .ref (b + 91), .int 0, .ref (b + 92), .int 0, .ref (b + 93), .int 0, .int 0, .int 0, .ref (b + 94), .int 0, .int 0, .int 0, .int 0, .int 0]))] sz) := by
  refine Met.ofW (cc := cX10_emptyTape) (maxL := 1) (ret := none) (by decide) rfl ?_
  intro p e s m args below meth c s₁ B hml hv
  generalize hQ : MQ below _ _ s _ _ _ = QQ
  obtain ⟨rfl, hsz, hP, hK, hD0⟩ := hv
  have hx := B.exec
  have hb := B.bytes
  have hr := B.returns
  have hts := atoms_spec (ws := w_X10_emptyTape) B.pre
  have hall := fun (w : Cond) (h : w ∈ zAll) => hts w (List.mem_cons_of_mem _ h)
  have hown : s.vm.findClass RX10 = some m.cls := findClass_of_methodNamed B.named
  have hlocks := B.notSynchronized
  subst hsz
  have hD := hD0.self (sz := s.heap.size)
  generalize hAe : va_A [(b + 88, .inr (9, [.ref (b + 81), .ref (b + 89), .int 0, .ref (b + 90), .int 0, .ref (b + 91), .int 0, .ref (b + 92), .int 0, .ref (b + 93), .int 0, .int 0, .int 0, .ref (b + 94), .int 0, .int 0, .int 0, .int 0, .int 0]))] s.heap.size = A at hD ⊢
  have hA : ∀ q : Nat, s.heap.size ≤ q → A q := fun q h => by rw [← hAe]; exact Or.inr h
  have hS : va_S A s.heap s.heap [] := va_S.rf
  have hz0 : s.heap.size = s.heap.size + 0 := rfl
  have hl := lv_entry ([.ref (b + 88)]) (n := 1) (Nat.le_of_ble_eq_true rfl)
  rw [lg_entry_eq]
  generalize (lg_sl ([.ref (b + 88)]) ++ List.replicate (1 - (lg_sl ([.ref (b + 88)])).length) Slot.unset).toArray = ls at hl ⊢
  have hl : lv_has ls 1 [(0, .ref (b + 88))] := hl
  refine lv_aload_n hx hb dX10_emptyTape_0 rfl (lv_at hl 0 rfl) ?_
  refine lv_iconst (v := 0) hx hb dX10_emptyTape_1 (by decide) ?_
  refine zput (D := (dC, dI)) (ci := 9) (v := .int 0) (ty := .int) (C := RX10) (T := TX10) (N := 19) hx hb hall zx_10 tyX10 tyX10_ok nmX10 hown hK.1 hP hD hS 0 rfl rfl 2 (by decide) (hall _ zw_150) (fun _ h9 => h9) rfl (by decide +kernel) rfl rfl (Nat.le_of_ble_eq_true rfl) dX10_emptyTape_2 (fun H9250 L9251 hB hP' hD' hS' => ?_)
  replace hz0 : H9250.size = s.heap.size + 0 := hB.1.trans hz0
  clear hP hD hS hB
  have hP : va_P (dC, dI) vwCl [(b + 88, .inr (9, [.ref (b + 81), .ref (b + 89), .int 0, .ref (b + 90), .int 0, .ref (b + 91), .int 0, .ref (b + 92), .int 0, .ref (b + 93), .int 0, .int 0, .int 0, .ref (b + 94), .int 0, .int 0, .int 0, .int 0, .int 0]))] H9250 := hP'
  have hD : va_D A [(b + 88, .inr (9, [.ref (b + 81), .ref (b + 89), .int 0, .ref (b + 90), .int 0, .ref (b + 91), .int 0, .ref (b + 92), .int 0, .ref (b + 93), .int 0, .int 0, .int 0, .ref (b + 94), .int 0, .int 0, .int 0, .int 0, .int 0]))] := hD'
  have hS : va_S A s.heap H9250 L9251 := hS'
  clear hP' hD' hS'
  refine W.widen (k := 0) (n := 0) (Nat.le_of_ble_eq_true rfl) (Nat.le_of_ble_eq_true rfl) ?_
  rw [← hQ, hAe]
  have hP := zsubP (wc := []) hP [] rfl
  have hD := hD.sub (ws' := []) [] (by decide) rfl
  exact W.vret hx hb hr (fun zt ht hW => ⟨⟨(), rfl, trivial, by rw [ht]; exact hP, hD, by rw [ht]; exact hz0⟩, hS.F ht⟩) hS.2.2 dX10_emptyTape_5

set_option maxHeartbeats 4000000 in
set_option maxRecDepth 100000 in
theorem c_X11_read_out (l : Launch) (dC : Nat → ClassId) (dI : Nat → Nat → Nat) (aC : Nat → ClassId) (h0 b : Nat) (x : Int32) (sz : Nat) (hxm : zslot b x = none) : Met l yX11_read w_X11_read ({ frames := 2, cells := 0, slots := 0, locals := 45 }) (zPre (dC, dI) aC [(h0, .inr (10, [.ref (b + 0), .ref (b + 73), .ref (b + 75), .ref (b + 76), .ref (b + 80), .ref (b + 81), .ref (b + 88), .ref (b + 95), .ref (b + 100), .ref (b + 106), .int 0, .ref (b + 107), .int 0])), (b + 0, .inl (aC 3, 12, .inr (.inr (.inr (.inr (zrefs (fun i => b + (1 + 6 * i)) 12))))))] sz [.ref h0, .int x]) (va_Qi (fun (r : Int32) (_ : Unit) => r = -1) (fun _ zt => zt.heap.size = sz) (zN sz)) 0 0 (zN sz) := by
  refine Met.ofW (cc := cX11_read) (maxL := 8) (ret := (some .int)) (by decide) rfl ?_
  intro p e s m args below meth c s₁ B hml hv
  generalize hQ : MQ below _ _ s _ _ _ = QQ
  obtain ⟨rfl, hsz, hP, hK, hD0⟩ := hv
  have hx := B.exec
  have hb := B.bytes
  have hr := B.returns
  have hts := atoms_spec (ws := w_X11_read) B.pre
  have hall := fun (w : Cond) (h : w ∈ zAll) => hts w (List.mem_cons_of_mem _ h)
  have hown : s.vm.findClass RX11 = some m.cls := findClass_of_methodNamed B.named
  have hlocks := B.notSynchronized
  subst hsz
  have hA : ∀ q : Nat, s.heap.size ≤ q → zN s.heap.size q := fun q h => h
  have hS : va_S (zN s.heap.size) s.heap s.heap [] := va_S.rf
  have hD := hD0
  have hl := lv_entry ([.ref h0, .int x]) (n := 8) (Nat.le_of_ble_eq_true rfl)
  rw [lg_entry_eq]
  generalize (lg_sl ([.ref h0, .int x]) ++ List.replicate (8 - (lg_sl ([.ref h0, .int x])).length) Slot.unset).toArray = ls at hl ⊢
  have hl : lv_has ls 8 [(0, .ref h0), (1, .int x)] := hl
  refine lv_aload_n hx hb dX11_read_0 rfl (lv_at hl 0 rfl) ?_
  refine lv_iload_n hx hb dX11_read_1 rfl (lv_at hl 1 rfl) ?_
  refine zro_q hS hA (va_runV (As := [.int x]) (rest := []) ⟨hx, hb, hml, hown, hall⟩ (c_X11_slotAt l dC dI aC h0 b x s.heap.size) (cwV 1 hall (zgV zw_225 zw_227 zw_228 zw_802 g_X11_slotAt rfl) rfl rfl rfl (by decide +kernel) ⟨Nat.le_of_ble_eq_true rfl, Nat.le_of_ble_eq_true rfl⟩) (zPre_V (As := [.int x]) hK hP hD [0, 1] rfl (by decide +kernel) (ci := 10) (q0 := 0) rfl rfl) rfl rfl hl.1 rfl (lv_room (Nat.le_of_ble_eq_true rfl)) dX11_read_2 ⟨Nat.le_of_ble_eq_true rfl, Nat.le_of_ble_eq_true rfl⟩) (fun r9252 L9253 hw hS' => ?_)
  clear hS
  have hS := hS'
  clear hS'
  obtain rfl : r9252 = none := hw.trans hxm
  try clear hw
  refine lv_astore_nN (lv' := [(2, .null), (0, .ref h0), (1, .int x)]) hx hb dX11_read_5 rfl hl (by decide) rfl (fun ls9254 hl' => ?_)
  clear hl
  have hl : lv_has ls9254 8 [(2, .null), (0, .ref h0), (1, .int x)] := hl'
  clear hl'
  refine lv_aload_nN hx hb dX11_read_6 rfl (lv_at hl 0 rfl) ?_
  refine lv_ifnonnullN hx hb dX11_read_7 ?_
  show W p l e _ s m _ below meth c _ _ _ _ QQ (F0 m 10 ls9254 [])
  refine lv_iconst (v := (-1)) hx hb dX11_read_10 (by decide) ?_
  rw [← hQ]
  exact W.iret (v := (-1)) hx hb hr (fun zt ht hW => ⟨⟨(-1), (), rfl, rfl, (show zt.heap.size = s.heap.size by rw [ht])⟩, hS.F ht⟩) hS.2.2 dX11_read_11

set_option maxHeartbeats 4000000 in
set_option maxRecDepth 100000 in
theorem c_X11_read_in (l : Launch) (dC : Nat → ClassId) (dI : Nat → Nat → Nat) (aC : Nat → ClassId) (h0 b a : Nat) (x : Int32) (sz : Nat) (hxm : zslot b x = some a) : Met l yX11_read w_X11_read ({ frames := 2, cells := 0, slots := 0, locals := 47 }) (zPre (dC, dI) aC [(h0, .inr (10, [.ref (b + 0), .ref (b + 73), .ref (b + 75), .ref (b + 76), .ref (b + 80), .ref (b + 81), .ref (b + 88), .ref (b + 95), .ref (b + 100), .ref (b + 106), .int 0, .ref (b + 107), .int 0])), (b + 0, .inl (aC 3, 12, .inr (.inr (.inr (.inr (zrefs (fun i => b + (1 + 6 * i)) 12)))))), (b + 73, .inr (3, [.ref (b + 74), .int 2048, .int 0])), (b + 74, .inl (aC 0, 131072, .inl (fun _ => 0))), (b + 88, .inr (9, [.ref (b + 81), .ref (b + 89), .int 0, .ref (b + 90), .int 0, .ref (b + 91), .int 0, .ref (b + 92), .int 0, .ref (b + 93), .int 0, .int 0, .int 0, .ref (b + 94), .int 0, .int 0, .int 0, .int 0, .int (-1)])), (b + 89, .inl (aC 0, 400, .inl (fun _ => 0)))] sz [.ref h0, .int x]) (va_Qi (fun (r : Int32) (u : Unit) => r = -11) (fun u zt => zB (dC, dI) [] (va_A [(h0, .inr (10, [.ref (b + 0), .ref (b + 73), .ref (b + 75), .ref (b + 76), .ref (b + 80), .ref (b + 81), .ref (b + 88), .ref (b + 95), .ref (b + 100), .ref (b + 106), .int 0, .ref (b + 107), .int 0])), (b + 0, .inl (aC 3, 12, .inr (.inr (.inr (.inr (zrefs (fun i => b + (1 + 6 * i)) 12)))))), (b + 73, .inr (3, [.ref (b + 74), .int 2048, .int 0])), (b + 74, .inl (aC 0, 131072, .inl (fun _ => 0))), (b + 88, .inr (9, [.ref (b + 81), .ref (b + 89), .int 0, .ref (b + 90), .int 0, .ref (b + 91), .int 0, .ref (b + 92), .int 0, .ref (b + 93), .int 0, .int 0, .int 0, .ref (b + 94), .int 0, .int 0, .int 0, .int 0, .int (-1)])), (b + 89, .inl (aC 0, 400, .inl (fun _ => 0)))] sz) (sz + 0) zt) (va_A [(h0, .inr (10, [.ref (b + 0), .ref (b + 73), .ref (b + 75), .ref (b + 76), .ref (b + 80), .ref (b + 81), .ref (b + 88), .ref (b + 95), .ref (b + 100), .ref (b + 106), .int 0, .ref (b + 107), .int 0])), (b + 0, .inl (aC 3, 12, .inr (.inr (.inr (.inr (zrefs (fun i => b + (1 + 6 * i)) 12)))))), (b + 73, .inr (3, [.ref (b + 74), .int 2048, .int 0])), (b + 74, .inl (aC 0, 131072, .inl (fun _ => 0))), (b + 88, .inr (9, [.ref (b + 81), .ref (b + 89), .int 0, .ref (b + 90), .int 0, .ref (b + 91), .int 0, .ref (b + 92), .int 0, .ref (b + 93), .int 0, .int 0, .int 0, .ref (b + 94), .int 0, .int 0, .int 0, .int 0, .int (-1)])), (b + 89, .inl (aC 0, 400, .inl (fun _ => 0)))] sz)) 0 0 (va_A [(h0, .inr (10, [.ref (b + 0), .ref (b + 73), .ref (b + 75), .ref (b + 76), .ref (b + 80), .ref (b + 81), .ref (b + 88), .ref (b + 95), .ref (b + 100), .ref (b + 106), .int 0, .ref (b + 107), .int 0])), (b + 0, .inl (aC 3, 12, .inr (.inr (.inr (.inr (zrefs (fun i => b + (1 + 6 * i)) 12)))))), (b + 73, .inr (3, [.ref (b + 74), .int 2048, .int 0])), (b + 74, .inl (aC 0, 131072, .inl (fun _ => 0))), (b + 88, .inr (9, [.ref (b + 81), .ref (b + 89), .int 0, .ref (b + 90), .int 0, .ref (b + 91), .int 0, .ref (b + 92), .int 0, .ref (b + 93), .int 0, .int 0, .int 0, .ref (b + 94), .int 0, .int 0, .int 0, .int 0, .int (-1)])), (b + 89, .inl (aC 0, 400, .inl (fun _ => 0)))] sz) := by
  refine Met.ofW (cc := cX11_read) (maxL := 8) (ret := (some .int)) (by decide) rfl ?_
  intro p e s m args below meth c s₁ B hml hv
  generalize hQ : MQ below _ _ s _ _ _ = QQ
  obtain ⟨rfl, hsz, hP, hK, hD0⟩ := hv
  have hx := B.exec
  have hb := B.bytes
  have hr := B.returns
  have hts := atoms_spec (ws := w_X11_read) B.pre
  have hall := fun (w : Cond) (h : w ∈ zAll) => hts w (List.mem_cons_of_mem _ h)
  have hown : s.vm.findClass RX11 = some m.cls := findClass_of_methodNamed B.named
  have hlocks := B.notSynchronized
  subst hsz
  have hD := hD0.self (sz := s.heap.size)
  generalize hAe : va_A [(h0, .inr (10, [.ref (b + 0), .ref (b + 73), .ref (b + 75), .ref (b + 76), .ref (b + 80), .ref (b + 81), .ref (b + 88), .ref (b + 95), .ref (b + 100), .ref (b + 106), .int 0, .ref (b + 107), .int 0])), (b + 0, .inl (aC 3, 12, .inr (.inr (.inr (.inr (zrefs (fun i => b + (1 + 6 * i)) 12)))))), (b + 73, .inr (3, [.ref (b + 74), .int 2048, .int 0])), (b + 74, .inl (aC 0, 131072, .inl (fun _ => 0))), (b + 88, .inr (9, [.ref (b + 81), .ref (b + 89), .int 0, .ref (b + 90), .int 0, .ref (b + 91), .int 0, .ref (b + 92), .int 0, .ref (b + 93), .int 0, .int 0, .int 0, .ref (b + 94), .int 0, .int 0, .int 0, .int 0, .int (-1)])), (b + 89, .inl (aC 0, 400, .inl (fun _ => 0)))] s.heap.size = A at hD ⊢
  have hA : ∀ q : Nat, s.heap.size ≤ q → A q := fun q h => by rw [← hAe]; exact Or.inr h
  have hS : va_S A s.heap s.heap [] := va_S.rf
  have hz0 : s.heap.size = s.heap.size + 0 := rfl
  have hl := lv_entry ([.ref h0, .int x]) (n := 8) (Nat.le_of_ble_eq_true rfl)
  rw [lg_entry_eq]
  generalize (lg_sl ([.ref h0, .int x]) ++ List.replicate (8 - (lg_sl ([.ref h0, .int x])).length) Slot.unset).toArray = ls at hl ⊢
  have hl : lv_has ls 8 [(0, .ref h0), (1, .int x)] := hl
  refine lv_aload_n hx hb dX11_read_0 rfl (lv_at hl 0 rfl) ?_
  refine lv_iload_n hx hb dX11_read_1 rfl (lv_at hl 1 rfl) ?_
  refine zro_q hS hA (va_runV (As := [.int x]) (rest := []) ⟨hx, hb, hml, hown, hall⟩ (c_X11_slotAt l dC dI aC h0 b x s.heap.size) (cwV 1 hall (zgV zw_225 zw_227 zw_228 zw_802 g_X11_slotAt rfl) rfl rfl rfl (by decide +kernel) ⟨Nat.le_of_ble_eq_true rfl, Nat.le_of_ble_eq_true rfl⟩) (zPre_V (As := [.int x]) hK hP hD [0, 1] rfl (by decide +kernel) (ci := 10) (q0 := 0) rfl rfl) rfl rfl hl.1 rfl (lv_room (Nat.le_of_ble_eq_true rfl)) dX11_read_2 ⟨Nat.le_of_ble_eq_true rfl, Nat.le_of_ble_eq_true rfl⟩) (fun r9255 L9256 hw hS' => ?_)
  clear hS
  have hS := hS'
  clear hS'
  obtain rfl : r9255 = some a := hw.trans hxm
  try clear hw
  refine lv_astore_n (lv' := [(2, .ref a), (0, .ref h0), (1, .int x)]) hx hb dX11_read_5 rfl hl (by decide) rfl (fun ls9257 hl' => ?_)
  clear hl
  have hl : lv_has ls9257 8 [(2, .ref a), (0, .ref h0), (1, .int x)] := hl'
  clear hl'
  refine lv_aload_n hx hb dX11_read_6 rfl (lv_at hl 0 rfl) ?_
  refine lv_ifnonnull (tgt := 12) hx hb dX11_read_7 (by decide) ?_
  show W p l e _ s m _ below meth c _ _ _ _ QQ (F0 m 12 ls9257 [])
  refine lv_aload_n hx hb dX11_read_12 rfl (lv_at hl 1 rfl) ?_
  refine va_get (D := (dC, dI)) (ci := 10) (v := .ref (b + 73)) (C := RX11) (T := TX11) (N := 13) hx hb hall zx_11 hown hK.1 hP 0 rfl rfl 1 (by decide) (hall _ zw_188) (fun _ h9 => h9) rfl dX11_read_13 ?_
  refine zrw_v (k := 0) (wr := [(h0, .inr (10, [.ref (b + 0), .ref (b + 73), .ref (b + 75), .ref (b + 76), .ref (b + 80), .ref (b + 81), .ref (b + 88), .ref (b + 95), .ref (b + 100), .ref (b + 106), .int 0, .ref (b + 107), .int 0])), (b + 0, .inl (aC 3, 12, .inr (.inr (.inr (.inr (zrefs (fun i => b + (1 + 6 * i)) 12)))))), (b + 88, .inr (9, [.ref (b + 81), .ref (b + 89), .int 0, .ref (b + 90), .int 0, .ref (b + 91), .int 0, .ref (b + 92), .int 0, .ref (b + 93), .int 0, .int 0, .int 0, .ref (b + 94), .int 0, .int 0, .int 0, .int 0, .int (-1)])), (b + 89, .inl (aC 0, 400, .inl (fun _ => 0)))]) (wc := [(b + 73, .inr (3, [.ref (b + 74), .int 2048, .int 0])), (b + 74, .inl (aC 0, 131072, .inl (fun _ => 0)))]) (w1 := fun _ => [((b + 73), .inr (3, [.ref (b + 74), .int 2048, .int 0])), ((b + 74), .inl (aC 0, 131072, .inl (fun _ => 0)))]) hP hD hS hA [2, 3] [0, 1, 4, 5] rfl rfl (by decide +kernel) (by decide +kernel) (va_runV (As := []) (rest := []) ⟨hx, hb, hml, hown, hall⟩ (c_X4_empty l dC dI aC (b + 73) (b + 74) 2048 0 (fun _ => 0) s.heap.size) (cwV 0 hall (zgV zw_229 zw_70 zw_71 zw_788 g_X4_empty rfl) rfl rfl rfl (by decide +kernel) ⟨Nat.le_of_ble_eq_true rfl, Nat.le_of_ble_eq_true rfl⟩) (zPre_V (As := []) hK hP hD [2, 3] rfl (by decide +kernel) (ci := 3) (q0 := 0) rfl rfl) rfl rfl hl.1 rfl (lv_room (Nat.le_of_ble_eq_true rfl)) dX11_read_16 ⟨Nat.le_of_ble_eq_true rfl, Nat.le_of_ble_eq_true rfl⟩) (fun u H9259 L9260 hw hz hk hP' hD' hS' => ?_)
  try rw [hz0] at hP'
  try rw [hz0] at hD'
  rw [hz0] at hz
  replace hz0 : H9259.size = s.heap.size + 0 := by omega
  clear hz
  clear hP hD hS hk
  have hP : va_P (dC, dI) vwCl [(h0, .inr (10, [.ref (b + 0), .ref (b + 73), .ref (b + 75), .ref (b + 76), .ref (b + 80), .ref (b + 81), .ref (b + 88), .ref (b + 95), .ref (b + 100), .ref (b + 106), .int 0, .ref (b + 107), .int 0])), (b + 0, .inl (aC 3, 12, .inr (.inr (.inr (.inr (zrefs (fun i => b + (1 + 6 * i)) 12)))))), (b + 88, .inr (9, [.ref (b + 81), .ref (b + 89), .int 0, .ref (b + 90), .int 0, .ref (b + 91), .int 0, .ref (b + 92), .int 0, .ref (b + 93), .int 0, .int 0, .int 0, .ref (b + 94), .int 0, .int 0, .int 0, .int 0, .int (-1)])), (b + 89, .inl (aC 0, 400, .inl (fun _ => 0))), ((b + 73), .inr (3, [.ref (b + 74), .int 2048, .int 0])), ((b + 74), .inl (aC 0, 131072, .inl (fun _ => 0)))] H9259 := hP'
  have hD : va_D A [(h0, .inr (10, [.ref (b + 0), .ref (b + 73), .ref (b + 75), .ref (b + 76), .ref (b + 80), .ref (b + 81), .ref (b + 88), .ref (b + 95), .ref (b + 100), .ref (b + 106), .int 0, .ref (b + 107), .int 0])), (b + 0, .inl (aC 3, 12, .inr (.inr (.inr (.inr (zrefs (fun i => b + (1 + 6 * i)) 12)))))), (b + 88, .inr (9, [.ref (b + 81), .ref (b + 89), .int 0, .ref (b + 90), .int 0, .ref (b + 91), .int 0, .ref (b + 92), .int 0, .ref (b + 93), .int 0, .int 0, .int 0, .ref (b + 94), .int 0, .int 0, .int 0, .int 0, .int (-1)])), (b + 89, .inl (aC 0, 400, .inl (fun _ => 0))), ((b + 73), .inr (3, [.ref (b + 74), .int 2048, .int 0])), ((b + 74), .inl (aC 0, 131072, .inl (fun _ => 0)))] := hD'
  have hS : va_S A s.heap H9259 L9260 := hS'
  clear hP' hD' hS'
  refine lv_aload_n hx hb dX11_read_19 rfl (lv_at hl 1 rfl) ?_
  refine va_get (D := (dC, dI)) (ci := 10) (v := .ref (b + 88)) (C := RX11) (T := TX11) (N := 13) hx hb hall zx_11 hown hK.1 hP 0 rfl rfl 6 (by decide) (hall _ zw_197) (fun _ h9 => h9) rfl dX11_read_20 ?_
  show W p l e _ s m _ below meth c _ _ _ _ QQ (F0 m 23 ls9257 [.ref (b + 88)])
  refine zrw_i (f := fun _ => False) (B := fun _ _ => True) (k := 0) (wr := [(h0, .inr (10, [.ref (b + 0), .ref (b + 73), .ref (b + 75), .ref (b + 76), .ref (b + 80), .ref (b + 81), .ref (b + 88), .ref (b + 95), .ref (b + 100), .ref (b + 106), .int 0, .ref (b + 107), .int 0])), (b + 0, .inl (aC 3, 12, .inr (.inr (.inr (.inr (zrefs (fun i => b + (1 + 6 * i)) 12)))))), ((b + 73), .inr (3, [.ref (b + 74), .int 2048, .int 0])), ((b + 74), .inl (aC 0, 131072, .inl (fun _ => 0)))]) (wc := [(b + 88, .inr (9, [.ref (b + 81), .ref (b + 89), .int 0, .ref (b + 90), .int 0, .ref (b + 91), .int 0, .ref (b + 92), .int 0, .ref (b + 93), .int 0, .int 0, .int 0, .ref (b + 94), .int 0, .int 0, .int 0, .int 0, .int (-1)])), (b + 89, .inl (aC 0, 400, .inl (fun _ => 0)))]) (w1 := fun _ => [(b + 88, .inr (9, [.ref (b + 81), .ref (b + 89), .int 0, .ref (b + 90), .int 0, .ref (b + 91), .int 0, .ref (b + 92), .int 0, .ref (b + 93), .int 0, .int 0, .int 0, .ref (b + 94), .int 0, .int 0, .int 0, .int 0, .int 0])), (b + 89, .inl (aC 0, 400, .inl (fun _ => 0)))]) hP hD hS hA [2, 3] [0, 1, 4, 5] rfl rfl (by decide +kernel) (by decide +kernel) (va_runV (As := []) (rest := []) ⟨hx, hb, hml, hown, hall⟩ (c_X10_compile l dC dI aC b H9259.size) (cwV 0 hall (zgV zw_230 zw_232 zw_233 zw_800 g_X10_compile rfl) rfl rfl rfl (by decide +kernel) ⟨Nat.le_of_ble_eq_true rfl, Nat.le_of_ble_eq_true rfl⟩) (zPre_V (As := []) hK hP hD [2, 3] rfl (by decide +kernel) (ci := 9) (q0 := 0) rfl rfl) rfl rfl hl.1 rfl (lv_room (Nat.le_of_ble_eq_true rfl)) dX11_read_23 ⟨Nat.le_of_ble_eq_true rfl, Nat.le_of_ble_eq_true rfl⟩) (fun r9261 u H9262 L9263 hw hz hk hP' hD' hS' => ?_)
  try rw [hz0] at hP'
  try rw [hz0] at hD'
  rw [hz0] at hz
  replace hz0 : H9262.size = s.heap.size + 0 := by omega
  clear hz
  clear hP hD hS hk
  have hP : va_P (dC, dI) vwCl [(h0, .inr (10, [.ref (b + 0), .ref (b + 73), .ref (b + 75), .ref (b + 76), .ref (b + 80), .ref (b + 81), .ref (b + 88), .ref (b + 95), .ref (b + 100), .ref (b + 106), .int 0, .ref (b + 107), .int 0])), (b + 0, .inl (aC 3, 12, .inr (.inr (.inr (.inr (zrefs (fun i => b + (1 + 6 * i)) 12)))))), ((b + 73), .inr (3, [.ref (b + 74), .int 2048, .int 0])), ((b + 74), .inl (aC 0, 131072, .inl (fun _ => 0))), (b + 88, .inr (9, [.ref (b + 81), .ref (b + 89), .int 0, .ref (b + 90), .int 0, .ref (b + 91), .int 0, .ref (b + 92), .int 0, .ref (b + 93), .int 0, .int 0, .int 0, .ref (b + 94), .int 0, .int 0, .int 0, .int 0, .int 0])), (b + 89, .inl (aC 0, 400, .inl (fun _ => 0)))] H9262 := hP'
  have hD : va_D A [(h0, .inr (10, [.ref (b + 0), .ref (b + 73), .ref (b + 75), .ref (b + 76), .ref (b + 80), .ref (b + 81), .ref (b + 88), .ref (b + 95), .ref (b + 100), .ref (b + 106), .int 0, .ref (b + 107), .int 0])), (b + 0, .inl (aC 3, 12, .inr (.inr (.inr (.inr (zrefs (fun i => b + (1 + 6 * i)) 12)))))), ((b + 73), .inr (3, [.ref (b + 74), .int 2048, .int 0])), ((b + 74), .inl (aC 0, 131072, .inl (fun _ => 0))), (b + 88, .inr (9, [.ref (b + 81), .ref (b + 89), .int 0, .ref (b + 90), .int 0, .ref (b + 91), .int 0, .ref (b + 92), .int 0, .ref (b + 93), .int 0, .int 0, .int 0, .ref (b + 94), .int 0, .int 0, .int 0, .int 0, .int 0])), (b + 89, .inl (aC 0, 400, .inl (fun _ => 0)))] := hD'
  have hS : va_S A s.heap H9262 L9263 := hS'
  clear hP' hD' hS'
  clear L9260 H9259
  obtain rfl : r9261 = 1 := hw
  try clear hw
  refine lv_istore_n (lv' := [(3, .int 1), (2, .ref a), (0, .ref h0), (1, .int x)]) hx hb dX11_read_26 rfl hl (by decide) rfl (fun ls9264 hl' => ?_)
  clear hl
  have hl : lv_has ls9264 8 [(3, .int 1), (2, .ref a), (0, .ref h0), (1, .int x)] := hl'
  clear hl'
  refine lv_iconst (v := 0) hx hb dX11_read_27 (by decide) ?_
  refine lv_istore (lv' := [(4, .int 0), (3, .int 1), (2, .ref a), (0, .ref h0), (1, .int x)]) hx hb dX11_read_28 hl (by decide) rfl (fun ls9265 hl' => ?_)
  clear hl
  have hl : lv_has ls9265 8 [(4, .int 0), (3, .int 1), (2, .ref a), (0, .ref h0), (1, .int x)] := hl'
  clear hl'
  refine lv_iload hx hb dX11_read_30 (lv_at hl 0 rfl) ?_
  show W p l e _ s m _ below meth c _ _ _ _ QQ (F0 m 32 ls9265 [.int 0])
  refine lv_aload_n hx hb dX11_read_32 rfl (lv_at hl 3 rfl) ?_
  refine va_get (D := (dC, dI)) (ci := 10) (v := .ref (b + 88)) (C := RX11) (T := TX11) (N := 13) hx hb hall zx_11 hown hK.1 hP 0 rfl rfl 6 (by decide) (hall _ zw_197) (fun _ h9 => h9) rfl dX11_read_33 ?_
  refine va_get (D := (dC, dI)) (ci := 9) (v := .int 0) (C := RX10) (T := TX10) (N := 19) hx hb hall zx_10 hown hK.1 hP 4 rfl rfl 8 (by decide) (hall _ zw_234) (fun _ h9 => h9) rfl dX11_read_36 ?_
  refine lv_icmp_ge (tgt := 340) hx hb dX11_read_39 (by decide) (fun _ => ?_) (fun c_39_b9266 => absurd (by decide) c_39_b9266)
  refine lv_aload_n hx hb dX11_read_340 rfl (lv_at hl 3 rfl) ?_
  show W p l e _ s m _ below meth c _ _ _ _ QQ (F0 m 341 ls9265 [.ref h0])
  refine va_get (D := (dC, dI)) (ci := 10) (v := .ref (b + 88)) (C := RX11) (T := TX11) (N := 13) hx hb hall zx_11 hown hK.1 hP 0 rfl rfl 6 (by decide) (hall _ zw_197) (fun _ h9 => h9) rfl dX11_read_341 ?_
  refine zrw_v (k := 0) (wr := [(h0, .inr (10, [.ref (b + 0), .ref (b + 73), .ref (b + 75), .ref (b + 76), .ref (b + 80), .ref (b + 81), .ref (b + 88), .ref (b + 95), .ref (b + 100), .ref (b + 106), .int 0, .ref (b + 107), .int 0])), (b + 0, .inl (aC 3, 12, .inr (.inr (.inr (.inr (zrefs (fun i => b + (1 + 6 * i)) 12)))))), ((b + 73), .inr (3, [.ref (b + 74), .int 2048, .int 0])), ((b + 74), .inl (aC 0, 131072, .inl (fun _ => 0))), (b + 89, .inl (aC 0, 400, .inl (fun _ => 0)))]) (wc := [(b + 88, .inr (9, [.ref (b + 81), .ref (b + 89), .int 0, .ref (b + 90), .int 0, .ref (b + 91), .int 0, .ref (b + 92), .int 0, .ref (b + 93), .int 0, .int 0, .int 0, .ref (b + 94), .int 0, .int 0, .int 0, .int 0, .int 0]))]) (w1 := fun _ => []) hP hD hS hA [4] [0, 1, 2, 3, 5] rfl rfl (by decide +kernel) (by decide +kernel) (va_runV (As := []) (rest := []) ⟨hx, hb, hml, hown, hall⟩ (c_X10_emptyTape l dC dI aC b H9262.size) (cwV 0 hall (zgV zw_243 zw_245 zw_246 zw_800 g_X10_emptyTape rfl) rfl rfl rfl (by decide +kernel) ⟨Nat.le_of_ble_eq_true rfl, Nat.le_of_ble_eq_true rfl⟩) (zPre_V (As := []) hK hP hD [4] rfl (by decide +kernel) (ci := 9) (q0 := 0) rfl rfl) rfl rfl hl.1 rfl (lv_room (Nat.le_of_ble_eq_true rfl)) dX11_read_344 ⟨Nat.le_of_ble_eq_true rfl, Nat.le_of_ble_eq_true rfl⟩) (fun u H9268 L9269 hw hz hk hP' hD' hS' => ?_)
  try rw [hz0] at hP'
  try rw [hz0] at hD'
  rw [hz0] at hz
  replace hz0 : H9268.size = s.heap.size + 0 := by omega
  clear hz
  clear hP hD hS hk
  have hP : va_P (dC, dI) vwCl [(h0, .inr (10, [.ref (b + 0), .ref (b + 73), .ref (b + 75), .ref (b + 76), .ref (b + 80), .ref (b + 81), .ref (b + 88), .ref (b + 95), .ref (b + 100), .ref (b + 106), .int 0, .ref (b + 107), .int 0])), (b + 0, .inl (aC 3, 12, .inr (.inr (.inr (.inr (zrefs (fun i => b + (1 + 6 * i)) 12)))))), ((b + 73), .inr (3, [.ref (b + 74), .int 2048, .int 0])), ((b + 74), .inl (aC 0, 131072, .inl (fun _ => 0))), (b + 89, .inl (aC 0, 400, .inl (fun _ => 0)))] H9268 := hP'
  have hD : va_D A [(h0, .inr (10, [.ref (b + 0), .ref (b + 73), .ref (b + 75), .ref (b + 76), .ref (b + 80), .ref (b + 81), .ref (b + 88), .ref (b + 95), .ref (b + 100), .ref (b + 106), .int 0, .ref (b + 107), .int 0])), (b + 0, .inl (aC 3, 12, .inr (.inr (.inr (.inr (zrefs (fun i => b + (1 + 6 * i)) 12)))))), ((b + 73), .inr (3, [.ref (b + 74), .int 2048, .int 0])), ((b + 74), .inl (aC 0, 131072, .inl (fun _ => 0))), (b + 89, .inl (aC 0, 400, .inl (fun _ => 0)))] := hD'
  have hS : va_S A s.heap H9268 L9269 := hS'
  clear hP' hD' hS'
  clear L9263 H9262
  refine lv_iload_n hx hb dX11_read_347 rfl (lv_at hl 1 rfl) ?_
  refine lv_if_ne (tgt := 363) hx hb dX11_read_348 (by decide) (fun _ => ?_) (fun c_348_b9270 => absurd c_348_b9270 (by decide))
  refine lv_iload_n hx hb dX11_read_363 rfl (lv_at hl 1 rfl) ?_
  refine lv_if_eq (tgt := 372) hx hb dX11_read_364 (by decide) (fun c_364_b9271 => absurd c_364_b9271 (by decide)) (fun _ => ?_)
  show W p l e _ s m _ below meth c _ _ _ _ QQ (F0 m 367 ls9265 [])
  refine lv_bipush (v := (-10)) hx hb dX11_read_367 (by decide) ?_
  refine lv_iload_n hx hb dX11_read_369 rfl (lv_at hl 1 rfl) ?_
  refine lv_isub hx hb dX11_read_370 ?_
  refine lv_topi (fun y9272 ey9272 => ?_)
  obtain rfl : y9272 = (-11) := by rw [ey9272]; decide
  try clear ey9272
  refine W.widen (k := 0) (n := 0) (Nat.le_of_ble_eq_true rfl) (Nat.le_of_ble_eq_true rfl) ?_
  rw [← hQ, hAe]
  have hP := zsubP (wc := []) hP [] rfl
  have hD := hD.sub (ws' := []) [] (by decide) rfl
  exact W.iret (v := (-11)) hx hb hr (fun zt ht hW => ⟨⟨(-11), (), rfl, rfl, by rw [ht]; exact hP, hD, by rw [ht]; exact hz0⟩, hS.F ht⟩) hS.2.2 dX11_read_371

set_option maxHeartbeats 4000000 in
set_option maxRecDepth 100000 in
theorem c_X10_append (l : Launch) (dC : Nat → ClassId) (dI : Nat → Nat → Nat) (aC : Nat → ClassId) (b : Nat) (v : Int64) (x : Int32) (sz : Nat) : Met l yX10_append w_X10_append ({ frames := 1, cells := 0, slots := 0, locals := 24 }) (zPre (dC, dI) aC [(b + 88, .inr (9, [.ref (b + 81), .ref (b + 89), .int 0, .ref (b + 90), .int 0, .ref (b + 91), .int 0, .ref (b + 92), .int 0, .ref (b + 93), .int 0, .int 0, .int 0, .ref (b + 94), .int 0, .int 0, .int 0, .int 0, .int (-1)])), (b + 89, .inl (aC 0, 400, .inl (fun _ => 0)))] sz [.ref (b + 88), .long v, .int x]) (va_Qi (fun (r : Int32) (u : Unit) => r = ztype x) (fun u zt => zB (dC, dI) [] (va_A [(b + 88, .inr (9, [.ref (b + 81), .ref (b + 89), .int 0, .ref (b + 90), .int 0, .ref (b + 91), .int 0, .ref (b + 92), .int 0, .ref (b + 93), .int 0, .int 0, .int 0, .ref (b + 94), .int 0, .int 0, .int 0, .int 0, .int (-1)])), (b + 89, .inl (aC 0, 400, .inl (fun _ => 0)))] sz) (sz + 0) zt) (va_A [(b + 88, .inr (9, [.ref (b + 81), .ref (b + 89), .int 0, .ref (b + 90), .int 0, .ref (b + 91), .int 0, .ref (b + 92), .int 0, .ref (b + 93), .int 0, .int 0, .int 0, .ref (b + 94), .int 0, .int 0, .int 0, .int 0, .int (-1)])), (b + 89, .inl (aC 0, 400, .inl (fun _ => 0)))] sz)) 0 0 (va_A [(b + 88, .inr (9, [.ref (b + 81), .ref (b + 89), .int 0, .ref (b + 90), .int 0, .ref (b + 91), .int 0, .ref (b + 92), .int 0, .ref (b + 93), .int 0, .int 0, .int 0, .ref (b + 94), .int 0, .int 0, .int 0, .int 0, .int (-1)])), (b + 89, .inl (aC 0, 400, .inl (fun _ => 0)))] sz) := by
  refine Met.ofW (cc := cX10_append) (maxL := 5) (ret := (some .int)) (by decide) rfl ?_
  intro p e s m args below meth c s₁ B hml hv
  generalize hQ : MQ below _ _ s _ _ _ = QQ
  obtain ⟨rfl, hsz, hP, hK, hD0⟩ := hv
  have hx := B.exec
  have hb := B.bytes
  have hr := B.returns
  have hts := atoms_spec (ws := w_X10_append) B.pre
  have hall := fun (w : Cond) (h : w ∈ zAll) => hts w (List.mem_cons_of_mem _ h)
  have hown : s.vm.findClass RX10 = some m.cls := findClass_of_methodNamed B.named
  have hlocks := B.notSynchronized
  subst hsz
  have hD := hD0.self (sz := s.heap.size)
  generalize hAe : va_A [(b + 88, .inr (9, [.ref (b + 81), .ref (b + 89), .int 0, .ref (b + 90), .int 0, .ref (b + 91), .int 0, .ref (b + 92), .int 0, .ref (b + 93), .int 0, .int 0, .int 0, .ref (b + 94), .int 0, .int 0, .int 0, .int 0, .int (-1)])), (b + 89, .inl (aC 0, 400, .inl (fun _ => 0)))] s.heap.size = A at hD ⊢
  have hA : ∀ q : Nat, s.heap.size ≤ q → A q := fun q h => by rw [← hAe]; exact Or.inr h
  have hS : va_S A s.heap s.heap [] := va_S.rf
  have hz0 : s.heap.size = s.heap.size + 0 := rfl
  have hl := lv_entry ([.ref (b + 88), .long v, .int x]) (n := 5) (Nat.le_of_ble_eq_true rfl)
  rw [lg_entry_eq]
  generalize (lg_sl ([.ref (b + 88), .long v, .int x]) ++ List.replicate (5 - (lg_sl ([.ref (b + 88), .long v, .int x])).length) Slot.unset).toArray = ls at hl ⊢
  have hl : lv_has ls 5 [(0, .ref (b + 88)), (1, .long v), (3, .int x)] := hl
  refine lv_iload_n hx hb dX10_append_0 rfl (lv_at hl 2 rfl) ?_
  refine lv_iconst (v := 1) hx hb dX10_append_1 (by decide) ?_
  refine lv_icmp_lt (tgt := 23) hx hb dX10_append_2 (by decide) (fun c_2_b9273 => ?_) (fun c_2_b9273 => ?_)
  · refine lv_iconst (v := (-1)) hx hb dX10_append_23 (by decide) ?_
    refine W.widen (k := 0) (n := 0) (Nat.le_of_ble_eq_true rfl) (Nat.le_of_ble_eq_true rfl) ?_
    rw [← hQ, hAe]
    have hP := zsubP (wc := []) hP [] rfl
    have hD := hD.sub (ws' := []) [] (by decide) rfl
    exact W.iret (v := (-1)) hx hb hr (fun zt ht hW => ⟨⟨(-1), (), rfl, by simp [ztype, c_2_b9273], by rw [ht]; exact hP, hD, by rw [ht]; exact hz0⟩, hS.F ht⟩) hS.2.2 dX10_append_24
  · refine lv_iload_n hx hb dX10_append_5 rfl (lv_at hl 2 rfl) ?_
    refine lv_bipush (v := 8) hx hb dX10_append_6 (by decide) ?_
    refine lv_icmp_gt (tgt := 23) hx hb dX10_append_8 (by decide) (fun c_8_b9274 => ?_) (fun c_8_b9274 => ?_)
    · refine lv_iconst (v := (-1)) hx hb dX10_append_23 (by decide) ?_
      refine W.widen (k := 0) (n := 0) (Nat.le_of_ble_eq_true rfl) (Nat.le_of_ble_eq_true rfl) ?_
      rw [← hQ, hAe]
      have hP := zsubP (wc := []) hP [] rfl
      have hD := hD.sub (ws' := []) [] (by decide) rfl
      exact W.iret (v := (-1)) hx hb hr (fun zt ht hW => ⟨⟨(-1), (), rfl, by simp [ztype, c_2_b9273, c_8_b9274], by rw [ht]; exact hP, hD, by rw [ht]; exact hz0⟩, hS.F ht⟩) hS.2.2 dX10_append_24
    · refine lv_iload_n hx hb dX10_append_11 rfl (lv_at hl 2 rfl) ?_
      show W p l e _ s m _ below meth c _ _ _ _ QQ (F0 m 12 ls [.int x])
      refine lv_sipush (v := 400) hx hb dX10_append_12 (by decide) ?_
      refine lv_aload_n hx hb dX10_append_15 rfl (lv_at hl 0 rfl) ?_
      refine va_get (D := (dC, dI)) (ci := 9) (v := .int 0) (C := RX10) (T := TX10) (N := 19) hx hb hall zx_10 hown hK.1 hP 0 rfl rfl 2 (by decide) (hall _ zw_150) (fun _ h9 => h9) rfl dX10_append_16 ?_
      refine lv_isub hx hb dX10_append_19 ?_
      refine lv_topi (fun y9275 ey9275 => ?_)
      obtain rfl : y9275 = 400 := by rw [ey9275]; decide
      try clear ey9275
      refine lv_icmp_le (tgt := 25) hx hb dX10_append_20 (by decide) (fun _ => ?_) (fun c_20_b9276 => absurd (Int32.le_trans (Int32.not_lt.mp c_8_b9274) (by decide)) c_20_b9276)
      show W p l e _ s m _ below meth c _ _ _ _ QQ (F0 m 25 ls [])
      obtain ⟨N, hN, rfl⟩ := ztyp c_2_b9273 c_8_b9274
      refine lv_iload_n hx hb dX10_append_25 rfl (lv_at hl 2 rfl) ?_
      refine lv_iconst (v := 1) hx hb dX10_append_26 (by decide) ?_
      refine lv_isub hx hb dX10_append_27 ?_
      refine lv_topi (fun y9277 ey9277 => ?_)
      obtain rfl : y9277 = (nI N) - 1 - (nI 0) := by rw [ey9277]; exact zd0 N hN
      refine lv_istore (lv' := [(4, .int ((nI N) - 1 - (nI 0))), (0, .ref (b + 88)), (1, .long v), (3, .int (nI N))]) hx hb dX10_append_28 hl (by decide) rfl (fun ls9278 hl' => ?_)
      clear hl
      have hl : lv_has ls9278 5 [(4, .int ((nI N) - 1 - (nI 0))), (0, .ref (b + 88)), (1, .long v), (3, .int (nI N))] := hl'
      clear hl'
      have key : ∀ (n i : Nat), i ≤ N → N < i + n → ∀ (H : Heap) (locs : List Loc) (ls : Array Slot), H.size = s.heap.size + 0 → va_P (dC, dI) vwCl [(b + 88, .inr (9, [.ref (b + 81), .ref (b + 89), .int (nI i), .ref (b + 90), .int 0, .ref (b + 91), .int 0, .ref (b + 92), .int 0, .ref (b + 93), .int 0, .int 0, .int 0, .ref (b + 94), .int 0, .int 0, .int 0, .int 0, .int (-1)])), (b + 89, .inl (aC 0, 400, .inl (ztape v N i)))] H → va_D A [(b + 88, .inr (9, [.ref (b + 81), .ref (b + 89), .int (nI i), .ref (b + 90), .int 0, .ref (b + 91), .int 0, .ref (b + 92), .int 0, .ref (b + 93), .int 0, .int 0, .int 0, .ref (b + 94), .int 0, .int 0, .int 0, .int 0, .int (-1)])), (b + 89, .inl (aC 0, 400, .inl (ztape v N i)))] → va_S A s.heap H locs → lv_has ls 5 [(4, .int ((nI N) - 1 - (nI i))), (0, .ref (b + 88)), (1, .long v), (3, .int (nI N))] → W p l e (headSpec w_X10_append ({ frames := 1, cells := 0, slots := 0, locals := 24 })).room s m ([.ref (b + 88), .long v, .int (nI N)] : List Value).toArray below meth c H locs 0 0 QQ (F0 m 30 ls []) := by
        intro n
        induction n with
        | zero => exact fun i h1 h2 => absurd h2 (by omega)
        | succ n ih =>
          intro i hi hfu H locs ls hz0 hP hD hS hl
          rcases Nat.lt_or_ge i N with hlt | hge
          · refine lv_iload hx hb dX10_append_30 (lv_at hl 0 rfl) ?_
            refine lv_if_lt (tgt := 89) hx hb dX10_append_32 (by decide) (fun c_32_b9279 => absurd c_32_b9279 (zdl N hN i hlt)) (fun _ => ?_)
            show W p l e _ s m _ below meth c _ _ _ _ QQ (F0 m 35 ls [])
            refine lv_aload_n hx hb dX10_append_35 rfl (lv_at hl 1 rfl) ?_
            refine va_get (D := (dC, dI)) (ci := 9) (v := .int (nI i)) (C := RX10) (T := TX10) (N := 19) hx hb hall zx_10 hown hK.1 hP 0 rfl rfl 2 (by decide) (hall _ zw_150) (fun _ h9 => h9) rfl dX10_append_36 ?_
            refine lv_if_lt (tgt := 83) hx hb dX10_append_39 (by decide) (fun c_39_b9280 => absurd c_39_b9280 (nI_pos (show i < 2 ^ 31 by omega))) (fun _ => ?_)
            refine lv_aload_n hx hb dX10_append_42 rfl (lv_at hl 1 rfl) ?_
            refine va_get (D := (dC, dI)) (ci := 9) (v := .int (nI i)) (C := RX10) (T := TX10) (N := 19) hx hb hall zx_10 hown hK.1 hP 0 rfl rfl 2 (by decide) (hall _ zw_150) (fun _ h9 => h9) rfl dX10_append_43 ?_
            show W p l e _ s m _ below meth c _ _ _ _ QQ (F0 m 46 ls [.int (nI i)])
            refine lv_sipush (v := 400) hx hb dX10_append_46 (by decide) ?_
            refine lv_icmp_ge (tgt := 83) hx hb dX10_append_49 (by decide) (fun c_49_b9281 => absurd c_49_b9281 (nI_ge (show i < 400 by omega) (by decide))) (fun _ => ?_)
            refine lv_aload_n hx hb dX10_append_52 rfl (lv_at hl 1 rfl) ?_
            refine va_get (D := (dC, dI)) (ci := 9) (v := .ref (b + 89)) (C := RX10) (T := TX10) (N := 19) hx hb hall zx_10 hown hK.1 hP 0 rfl rfl 1 (by decide) (hall _ zw_143) (fun _ h9 => h9) rfl dX10_append_53 ?_
            refine lv_aload_n hx hb dX10_append_56 rfl (lv_at hl 1 rfl) ?_
            show W p l e _ s m _ below meth c _ _ _ _ QQ (F0 m 57 ls [.ref (b + 88), .ref (b + 89)])
            refine va_get (D := (dC, dI)) (ci := 9) (v := .int (nI i)) (C := RX10) (T := TX10) (N := 19) hx hb hall zx_10 hown hK.1 hP 0 rfl rfl 2 (by decide) (hall _ zw_150) (fun _ h9 => h9) rfl dX10_append_57 ?_
            refine lv_lload_n hx hb dX10_append_60 rfl (lv_at hl 2 rfl) ?_
            refine lv_bipush (v := 8) hx hb dX10_append_61 (by decide) ?_
            refine lv_iload hx hb dX10_append_63 (lv_at hl 0 rfl) ?_
            refine lv_imul hx hb dX10_append_65 ?_
            show W p l e _ s m _ below meth c _ _ _ _ QQ (F0 m 66 ls [.int (8 * ((nI N) - 1 - (nI i))), .long v, .int (nI i), .ref (b + 89)])
            refine lv_lshr hx hb dX10_append_66 rfl ?_
            refine lv_ldc2 hx hb hown (hall _ zw_151) dX10_append_67 ?_
            refine lv_land hx hb dX10_append_70 ?_
            refine lv_l2i (v := ((v >>> ((8 * ((nI N) - 1 - (nI i))).toInt64 &&& 63)) &&& 255).toInt32) hx hb dX10_append_71 rfl ?_
            refine ziast hx hb hK.1 hP hD hS 1 0 rfl rfl (vp_in_nI (show i < 400 by omega) (by decide)) dX10_append_72 (fun H9282 L9283 hB hP' hD' hS' => ?_)
            replace hz0 : H9282.size = s.heap.size + 0 := hB.1.trans hz0
            clear hP hD hS hB
            have hP : va_P (dC, dI) vwCl [(b + 88, .inr (9, [.ref (b + 81), .ref (b + 89), .int (nI i), .ref (b + 90), .int 0, .ref (b + 91), .int 0, .ref (b + 92), .int 0, .ref (b + 93), .int 0, .int 0, .int 0, .ref (b + 94), .int 0, .int 0, .int 0, .int 0, .int (-1)])), (b + 89, .inl (aC 0, 400, .inl (upd (ztape v N i) (nI i).toNatClampNeg (((v >>> ((8 * ((nI N) - 1 - (nI i))).toInt64 &&& 63)) &&& 255).toInt32))))] H9282 := hP'
            have hD : va_D A [(b + 88, .inr (9, [.ref (b + 81), .ref (b + 89), .int (nI i), .ref (b + 90), .int 0, .ref (b + 91), .int 0, .ref (b + 92), .int 0, .ref (b + 93), .int 0, .int 0, .int 0, .ref (b + 94), .int 0, .int 0, .int 0, .int 0, .int (-1)])), (b + 89, .inl (aC 0, 400, .inl (upd (ztape v N i) (nI i).toNatClampNeg (((v >>> ((8 * ((nI N) - 1 - (nI i))).toInt64 &&& 63)) &&& 255).toInt32))))] := hD'
            have hS : va_S A s.heap H9282 L9283 := hS'
            clear hP' hD' hS'
            rw [nI_clamp (show i < 2 ^ 31 by omega)] at hP hD
            replace hP : va_P (dC, dI) vwCl [(b + 88, .inr (9, [.ref (b + 81), .ref (b + 89), .int (nI i), .ref (b + 90), .int 0, .ref (b + 91), .int 0, .ref (b + 92), .int 0, .ref (b + 93), .int 0, .int 0, .int 0, .ref (b + 94), .int 0, .int 0, .int 0, .int 0, .int (-1)])), (b + 89, .inl (aC 0, 400, .inl (upd (ztape v N i) i (((v >>> ((8 * ((nI N) - 1 - (nI i))).toInt64 &&& 63)) &&& 255).toInt32))))] H9282 := hP
            replace hD : va_D A [(b + 88, .inr (9, [.ref (b + 81), .ref (b + 89), .int (nI i), .ref (b + 90), .int 0, .ref (b + 91), .int 0, .ref (b + 92), .int 0, .ref (b + 93), .int 0, .int 0, .int 0, .ref (b + 94), .int 0, .int 0, .int 0, .int 0, .int (-1)])), (b + 89, .inl (aC 0, 400, .inl (upd (ztape v N i) i (((v >>> ((8 * ((nI N) - 1 - (nI i))).toInt64 &&& 63)) &&& 255).toInt32))))] := hD
            show W p l e _ s m _ below meth c _ _ _ _ QQ (F0 m 73 ls [])
            refine lv_aload_n hx hb dX10_append_73 rfl (lv_at hl 1 rfl) ?_
            refine lv_dup hx hb dX10_append_74 rfl ?_
            refine va_get (D := (dC, dI)) (ci := 9) (v := .int (nI i)) (C := RX10) (T := TX10) (N := 19) hx hb hall zx_10 hown hK.1 hP 0 rfl rfl 2 (by decide) (hall _ zw_150) (fun _ h9 => h9) rfl dX10_append_75 ?_
            refine lv_iconst (v := 1) hx hb dX10_append_78 (by decide) ?_
            refine lv_iadd hx hb dX10_append_79 ?_
            show W p l e _ s m _ below meth c _ _ _ _ QQ (F0 m 80 ls [.int ((nI i) + 1), .ref (b + 88)])
            refine lv_topi (fun f9284 ef9284 => ?_)
            obtain rfl : f9284 = nI (i + 1) := by rw [ef9284]; exact nI_1 i
            refine zput (D := (dC, dI)) (ci := 9) (v := .int (nI (i + 1))) (ty := .int) (C := RX10) (T := TX10) (N := 19) hx hb hall zx_10 tyX10 tyX10_ok nmX10 hown hK.1 hP hD hS 0 rfl rfl 2 (by decide) (hall _ zw_150) (fun _ h9 => h9) rfl (by decide +kernel) rfl rfl (Nat.le_of_ble_eq_true rfl) dX10_append_80 (fun H9285 L9286 hB hP' hD' hS' => ?_)
            replace hz0 : H9285.size = s.heap.size + 0 := hB.1.trans hz0
            clear hP hD hS hB
            have hP : va_P (dC, dI) vwCl [(b + 88, .inr (9, [.ref (b + 81), .ref (b + 89), .int (nI (i + 1)), .ref (b + 90), .int 0, .ref (b + 91), .int 0, .ref (b + 92), .int 0, .ref (b + 93), .int 0, .int 0, .int 0, .ref (b + 94), .int 0, .int 0, .int 0, .int 0, .int (-1)])), (b + 89, .inl (aC 0, 400, .inl (upd (ztape v N i) i (((v >>> ((8 * ((nI N) - 1 - (nI i))).toInt64 &&& 63)) &&& 255).toInt32))))] H9285 := hP'
            have hD : va_D A [(b + 88, .inr (9, [.ref (b + 81), .ref (b + 89), .int (nI (i + 1)), .ref (b + 90), .int 0, .ref (b + 91), .int 0, .ref (b + 92), .int 0, .ref (b + 93), .int 0, .int 0, .int 0, .ref (b + 94), .int 0, .int 0, .int 0, .int 0, .int (-1)])), (b + 89, .inl (aC 0, 400, .inl (upd (ztape v N i) i (((v >>> ((8 * ((nI N) - 1 - (nI i))).toInt64 &&& 63)) &&& 255).toInt32))))] := hD'
            have hS : va_S A s.heap H9285 L9286 := hS'
            clear hP' hD' hS'
            clear L9283 H9282
            replace hP : va_P (dC, dI) vwCl [(b + 88, .inr (9, [.ref (b + 81), .ref (b + 89), .int (nI (i + 1)), .ref (b + 90), .int 0, .ref (b + 91), .int 0, .ref (b + 92), .int 0, .ref (b + 93), .int 0, .int 0, .int 0, .ref (b + 94), .int 0, .int 0, .int 0, .int 0, .int (-1)])), (b + 89, .inl (aC 0, 400, .inl (ztape v N (i + 1))))] H9285 := hP
            replace hD : va_D A [(b + 88, .inr (9, [.ref (b + 81), .ref (b + 89), .int (nI (i + 1)), .ref (b + 90), .int 0, .ref (b + 91), .int 0, .ref (b + 92), .int 0, .ref (b + 93), .int 0, .int 0, .int 0, .ref (b + 94), .int 0, .int 0, .int 0, .int 0, .int (-1)])), (b + 89, .inl (aC 0, 400, .inl (ztape v N (i + 1))))] := hD
            obtain ⟨y9287, ey9287⟩ : ∃ z : Int32, z = ((nI N) - 1 - (nI i)) + (-1) := ⟨_, rfl⟩
            refine lv_iinc (v := y9287) (lv' := [(4, .int y9287), (0, .ref (b + 88)), (1, .long v), (3, .int (nI N))]) hx hb dX10_append_83 hl (k := 0) rfl (by rw [ey9287]; rfl) (by decide) rfl (fun ls9288 hl' => ?_)
            clear hl
            have hl : lv_has ls9288 5 [(4, .int y9287), (0, .ref (b + 88)), (1, .long v), (3, .int (nI N))] := hl'
            clear hl'
            refine lv_goto (tgt := 30) hx hb dX10_append_86 (by decide) ?_
            have ey : y9287 = (nI N) - 1 - (nI (i + 1)) := by rw [ey9287]; exact zdn N hN i hlt
            rw [ey] at hl
            exact ih (i + 1) hlt (by omega) H9285 L9286 ls9288 hz0 hP hD hS (lv_sub hl [0, 1, 2, 3] rfl)
          · have ei : i = N := by omega
            try rw [ei] at hP
            try rw [ei] at hD
            try rw [ei] at hl
            refine lv_iload hx hb dX10_append_30 (lv_at hl 0 rfl) ?_
            refine lv_if_lt (tgt := 89) hx hb dX10_append_32 (by decide) (fun _ => ?_) (fun c_32_b9289 => absurd (zde N hN) c_32_b9289)
            show W p l e _ s m _ below meth c _ _ _ _ QQ (F0 m 89 ls [])
            refine lv_aload_n hx hb dX10_append_89 rfl (lv_at hl 1 rfl) ?_
            refine va_get (D := (dC, dI)) (ci := 9) (v := .int (nI N)) (C := RX10) (T := TX10) (N := 19) hx hb hall zx_10 hown hK.1 hP 0 rfl rfl 2 (by decide) (hall _ zw_150) (fun _ h9 => h9) rfl dX10_append_90 ?_
            refine W.widen (k := 0) (n := 0) (Nat.le_of_ble_eq_true rfl) (Nat.le_of_ble_eq_true rfl) ?_
            rw [← hQ, hAe]
            have hP := zsubP (wc := []) hP [] rfl
            have hD := hD.sub (ws' := []) [] (by decide) rfl
            exact W.iret (v := nI N) hx hb hr (fun zt ht hW => ⟨⟨nI N, (), rfl, by simp [ztype, c_2_b9273, c_8_b9274], by rw [ht]; exact hP, hD, by rw [ht]; exact hz0⟩, hS.F ht⟩) hS.2.2 dX10_append_93
      exact key (N + 1) 0 (Nat.zero_le _) (by omega) _ _ ls9278 hz0 hP hD hS (lv_sub hl [0, 1, 2, 3] rfl)

set_option maxHeartbeats 4000000 in
set_option maxRecDepth 100000 in
theorem c_X11_type (l : Launch) (dC : Nat → ClassId) (dI : Nat → Nat → Nat) (aC : Nat → ClassId) (h0 b : Nat) (v : Int64) (x : Int32) (sz : Nat) : Met l yX11_type w_X11_type ({ frames := 2, cells := 0, slots := 0, locals := 48 }) (zPre (dC, dI) aC [(h0, .inr (10, [.ref (b + 0), .ref (b + 73), .ref (b + 75), .ref (b + 76), .ref (b + 80), .ref (b + 81), .ref (b + 88), .ref (b + 95), .ref (b + 100), .ref (b + 106), .int 0, .ref (b + 107), .int 0])), (b + 88, .inr (9, [.ref (b + 81), .ref (b + 89), .int 0, .ref (b + 90), .int 0, .ref (b + 91), .int 0, .ref (b + 92), .int 0, .ref (b + 93), .int 0, .int 0, .int 0, .ref (b + 94), .int 0, .int 0, .int 0, .int 0, .int (-1)])), (b + 89, .inl (aC 0, 400, .inl (fun _ => 0)))] sz [.ref h0, .long v, .int x]) (va_Qi (fun (r : Int32) (u : Unit) => r = ztype x) (fun u zt => zB (dC, dI) [] (va_A [(h0, .inr (10, [.ref (b + 0), .ref (b + 73), .ref (b + 75), .ref (b + 76), .ref (b + 80), .ref (b + 81), .ref (b + 88), .ref (b + 95), .ref (b + 100), .ref (b + 106), .int 0, .ref (b + 107), .int 0])), (b + 88, .inr (9, [.ref (b + 81), .ref (b + 89), .int 0, .ref (b + 90), .int 0, .ref (b + 91), .int 0, .ref (b + 92), .int 0, .ref (b + 93), .int 0, .int 0, .int 0, .ref (b + 94), .int 0, .int 0, .int 0, .int 0, .int (-1)])), (b + 89, .inl (aC 0, 400, .inl (fun _ => 0)))] sz) (sz + 0) zt) (va_A [(h0, .inr (10, [.ref (b + 0), .ref (b + 73), .ref (b + 75), .ref (b + 76), .ref (b + 80), .ref (b + 81), .ref (b + 88), .ref (b + 95), .ref (b + 100), .ref (b + 106), .int 0, .ref (b + 107), .int 0])), (b + 88, .inr (9, [.ref (b + 81), .ref (b + 89), .int 0, .ref (b + 90), .int 0, .ref (b + 91), .int 0, .ref (b + 92), .int 0, .ref (b + 93), .int 0, .int 0, .int 0, .ref (b + 94), .int 0, .int 0, .int 0, .int 0, .int (-1)])), (b + 89, .inl (aC 0, 400, .inl (fun _ => 0)))] sz)) 0 0 (va_A [(h0, .inr (10, [.ref (b + 0), .ref (b + 73), .ref (b + 75), .ref (b + 76), .ref (b + 80), .ref (b + 81), .ref (b + 88), .ref (b + 95), .ref (b + 100), .ref (b + 106), .int 0, .ref (b + 107), .int 0])), (b + 88, .inr (9, [.ref (b + 81), .ref (b + 89), .int 0, .ref (b + 90), .int 0, .ref (b + 91), .int 0, .ref (b + 92), .int 0, .ref (b + 93), .int 0, .int 0, .int 0, .ref (b + 94), .int 0, .int 0, .int 0, .int 0, .int (-1)])), (b + 89, .inl (aC 0, 400, .inl (fun _ => 0)))] sz) := by
  refine Met.ofW (cc := cX11_type) (maxL := 4) (ret := (some .int)) (by decide) rfl ?_
  intro p e s m args below meth c s₁ B hml hv
  generalize hQ : MQ below _ _ s _ _ _ = QQ
  obtain ⟨rfl, hsz, hP, hK, hD0⟩ := hv
  have hx := B.exec
  have hb := B.bytes
  have hr := B.returns
  have hts := atoms_spec (ws := w_X11_type) B.pre
  have hall := fun (w : Cond) (h : w ∈ zAll) => hts w (List.mem_cons_of_mem _ h)
  have hown : s.vm.findClass RX11 = some m.cls := findClass_of_methodNamed B.named
  have hlocks := B.notSynchronized
  subst hsz
  have hD := hD0.self (sz := s.heap.size)
  generalize hAe : va_A [(h0, .inr (10, [.ref (b + 0), .ref (b + 73), .ref (b + 75), .ref (b + 76), .ref (b + 80), .ref (b + 81), .ref (b + 88), .ref (b + 95), .ref (b + 100), .ref (b + 106), .int 0, .ref (b + 107), .int 0])), (b + 88, .inr (9, [.ref (b + 81), .ref (b + 89), .int 0, .ref (b + 90), .int 0, .ref (b + 91), .int 0, .ref (b + 92), .int 0, .ref (b + 93), .int 0, .int 0, .int 0, .ref (b + 94), .int 0, .int 0, .int 0, .int 0, .int (-1)])), (b + 89, .inl (aC 0, 400, .inl (fun _ => 0)))] s.heap.size = A at hD ⊢
  have hA : ∀ q : Nat, s.heap.size ≤ q → A q := fun q h => by rw [← hAe]; exact Or.inr h
  have hS : va_S A s.heap s.heap [] := va_S.rf
  have hz0 : s.heap.size = s.heap.size + 0 := rfl
  have hl := lv_entry ([.ref h0, .long v, .int x]) (n := 4) (Nat.le_of_ble_eq_true rfl)
  rw [lg_entry_eq]
  generalize (lg_sl ([.ref h0, .long v, .int x]) ++ List.replicate (4 - (lg_sl ([.ref h0, .long v, .int x])).length) Slot.unset).toArray = ls at hl ⊢
  have hl : lv_has ls 4 [(0, .ref h0), (1, .long v), (3, .int x)] := hl
  refine lv_aload_n hx hb dX11_type_0 rfl (lv_at hl 0 rfl) ?_
  refine va_get (D := (dC, dI)) (ci := 10) (v := .ref (b + 88)) (C := RX11) (T := TX11) (N := 13) hx hb hall zx_11 hown hK.1 hP 0 rfl rfl 6 (by decide) (hall _ zw_197) (fun _ h9 => h9) rfl dX11_type_1 ?_
  refine lv_lload_n hx hb dX11_type_4 rfl (lv_at hl 1 rfl) ?_
  refine lv_iload_n hx hb dX11_type_5 rfl (lv_at hl 2 rfl) ?_
  refine zrw_i (f := fun _ => False) (B := fun _ _ => True) (k := 0) (wr := [(h0, .inr (10, [.ref (b + 0), .ref (b + 73), .ref (b + 75), .ref (b + 76), .ref (b + 80), .ref (b + 81), .ref (b + 88), .ref (b + 95), .ref (b + 100), .ref (b + 106), .int 0, .ref (b + 107), .int 0]))]) (wc := [(b + 88, .inr (9, [.ref (b + 81), .ref (b + 89), .int 0, .ref (b + 90), .int 0, .ref (b + 91), .int 0, .ref (b + 92), .int 0, .ref (b + 93), .int 0, .int 0, .int 0, .ref (b + 94), .int 0, .int 0, .int 0, .int 0, .int (-1)])), (b + 89, .inl (aC 0, 400, .inl (fun _ => 0)))]) (w1 := fun _ => []) hP hD hS hA [1, 2] [0] rfl rfl (by decide +kernel) (by decide +kernel) (va_runV (As := [.long v, .int x]) (rest := []) ⟨hx, hb, hml, hown, hall⟩ (c_X10_append l dC dI aC b v x s.heap.size) (cwV 2 hall (zgV zw_221 zw_223 zw_224 zw_800 g_X10_append rfl) rfl rfl rfl (by decide +kernel) ⟨Nat.le_of_ble_eq_true rfl, Nat.le_of_ble_eq_true rfl⟩) (zPre_V (As := [.long v, .int x]) hK hP hD [1, 2] rfl (by decide +kernel) (ci := 9) (q0 := 0) rfl rfl) rfl rfl hl.1 rfl (lv_room (Nat.le_of_ble_eq_true rfl)) dX11_type_6 ⟨Nat.le_of_ble_eq_true rfl, Nat.le_of_ble_eq_true rfl⟩) (fun r9290 u H9291 L9292 hw hz hk hP' hD' hS' => ?_)
  try rw [hz0] at hP'
  try rw [hz0] at hD'
  rw [hz0] at hz
  replace hz0 : H9291.size = s.heap.size + 0 := by omega
  clear hz
  clear hP hD hS hk
  have hP : va_P (dC, dI) vwCl [(h0, .inr (10, [.ref (b + 0), .ref (b + 73), .ref (b + 75), .ref (b + 76), .ref (b + 80), .ref (b + 81), .ref (b + 88), .ref (b + 95), .ref (b + 100), .ref (b + 106), .int 0, .ref (b + 107), .int 0]))] H9291 := hP'
  have hD : va_D A [(h0, .inr (10, [.ref (b + 0), .ref (b + 73), .ref (b + 75), .ref (b + 76), .ref (b + 80), .ref (b + 81), .ref (b + 88), .ref (b + 95), .ref (b + 100), .ref (b + 106), .int 0, .ref (b + 107), .int 0]))] := hD'
  have hS : va_S A s.heap H9291 L9292 := hS'
  clear hP' hD' hS'
  refine W.widen (k := 0) (n := 0) (Nat.le_of_ble_eq_true rfl) (Nat.le_of_ble_eq_true rfl) ?_
  rw [← hQ, hAe]
  have hP := zsubP (wc := []) hP [] rfl
  have hD := hD.sub (ws' := []) [] (by decide) rfl
  exact W.iret (v := r9290) hx hb hr (fun zt ht hW => ⟨⟨r9290, (), rfl, hw, by rw [ht]; exact hP, hD, by rw [ht]; exact hz0⟩, hS.F ht⟩) hS.2.2 dX11_type_9
