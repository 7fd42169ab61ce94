theorem dX1_rest_0 : decode cX1_rest 0 = .ok (.lload_n 0, 1) := by decide +kernel
theorem dX1_rest_1 : decode cX1_rest 1 = .ok (.ldc2_w 9, 3) := by decide +kernel
theorem dX1_rest_4 : decode cX1_rest 4 = .ok (.lrem, 1) := by decide +kernel
theorem dX1_rest_5 : decode cX1_rest 5 = .ok (.lstore_n 2, 1) := by decide +kernel
theorem dX1_rest_6 : decode cX1_rest 6 = .ok (.lload_n 2, 1) := by decide +kernel
theorem dX1_rest_7 : decode cX1_rest 7 = .ok (.lconst 0, 1) := by decide +kernel
theorem dX1_rest_8 : decode cX1_rest 8 = .ok (.lcmp, 1) := by decide +kernel
theorem dX1_rest_9 : decode cX1_rest 9 = .ok (.ifCond .ge 11, 3) := by decide +kernel
theorem dX1_rest_12 : decode cX1_rest 12 = .ok (.lload_n 2, 1) := by decide +kernel
theorem dX1_rest_13 : decode cX1_rest 13 = .ok (.ldc2_w 9, 3) := by decide +kernel
theorem dX1_rest_16 : decode cX1_rest 16 = .ok (.ladd, 1) := by decide +kernel
theorem dX1_rest_17 : decode cX1_rest 17 = .ok (.goto 4, 3) := by decide +kernel
theorem dX1_rest_20 : decode cX1_rest 20 = .ok (.lload_n 2, 1) := by decide +kernel
theorem dX1_rest_21 : decode cX1_rest 21 = .ok (.l2i, 1) := by decide +kernel
theorem dX1_rest_22 : decode cX1_rest 22 = .ok (.ireturn, 1) := by decide +kernel
theorem dX6_init_0 : decode cX6_init 0 = .ok (.aload_n 0, 1) := by decide +kernel
theorem dX6_init_1 : decode cX6_init 1 = .ok (.invokespecial 5, 3) := by decide +kernel
theorem dX6_init_4 : decode cX6_init 4 = .ok (.aload_n 0, 1) := by decide +kernel
theorem dX6_init_5 : decode cX6_init 5 = .ok (.bipush 48, 2) := by decide +kernel
theorem dX6_init_7 : decode cX6_init 7 = .ok (.newarray .int, 2) := by decide +kernel
theorem dX6_init_9 : decode cX6_init 9 = .ok (.putfield 11, 3) := by decide +kernel
theorem dX6_init_12 : decode cX6_init 12 = .ok (.aload_n 0, 1) := by decide +kernel
theorem dX6_init_13 : decode cX6_init 13 = .ok (.sipush 327, 3) := by decide +kernel
theorem dX6_init_16 : decode cX6_init 16 = .ok (.newarray .int, 2) := by decide +kernel
theorem dX6_init_18 : decode cX6_init 18 = .ok (.putfield 15, 3) := by decide +kernel
theorem dX6_init_21 : decode cX6_init 21 = .ok (.aload_n 0, 1) := by decide +kernel
theorem dX6_init_22 : decode cX6_init 22 = .ok (.sipush 327, 3) := by decide +kernel
theorem dX6_init_25 : decode cX6_init 25 = .ok (.newarray .int, 2) := by decide +kernel
theorem dX6_init_27 : decode cX6_init 27 = .ok (.putfield 18, 3) := by decide +kernel
theorem dX6_init_30 : decode cX6_init 30 = .ok (.aload_n 0, 1) := by decide +kernel
theorem dX6_init_31 : decode cX6_init 31 = .ok (.sipush 175, 3) := by decide +kernel
theorem dX6_init_34 : decode cX6_init 34 = .ok (.newarray .int, 2) := by decide +kernel
theorem dX6_init_36 : decode cX6_init 36 = .ok (.putfield 21, 3) := by decide +kernel
theorem dX6_init_39 : decode cX6_init 39 = .ok (.aload_n 0, 1) := by decide +kernel
theorem dX6_init_40 : decode cX6_init 40 = .ok (.bipush 60, 2) := by decide +kernel
theorem dX6_init_42 : decode cX6_init 42 = .ok (.newarray .int, 2) := by decide +kernel
theorem dX6_init_44 : decode cX6_init 44 = .ok (.putfield 24, 3) := by decide +kernel
theorem dX6_init_47 : decode cX6_init 47 = .ok (.return_, 1) := by decide +kernel
theorem dX6_wipe_0 : decode cX6_wipe 0 = .ok (.aload_n 0, 1) := by decide +kernel
theorem dX6_wipe_1 : decode cX6_wipe 1 = .ok (.iconst 0, 1) := by decide +kernel
theorem dX6_wipe_2 : decode cX6_wipe 2 = .ok (.putfield 27, 3) := by decide +kernel
theorem dX6_wipe_5 : decode cX6_wipe 5 = .ok (.aload_n 0, 1) := by decide +kernel
theorem dX6_wipe_6 : decode cX6_wipe 6 = .ok (.iconst 1, 1) := by decide +kernel
theorem dX6_wipe_7 : decode cX6_wipe 7 = .ok (.putfield 31, 3) := by decide +kernel
theorem dX6_wipe_10 : decode cX6_wipe 10 = .ok (.aload_n 0, 1) := by decide +kernel
theorem dX6_wipe_11 : decode cX6_wipe 11 = .ok (.iconst 1, 1) := by decide +kernel
theorem dX6_wipe_12 : decode cX6_wipe 12 = .ok (.putfield 34, 3) := by decide +kernel
theorem dX6_wipe_15 : decode cX6_wipe 15 = .ok (.aload_n 0, 1) := by decide +kernel
theorem dX6_wipe_16 : decode cX6_wipe 16 = .ok (.iconst 0, 1) := by decide +kernel
theorem dX6_wipe_17 : decode cX6_wipe 17 = .ok (.putfield 37, 3) := by decide +kernel
theorem dX6_wipe_20 : decode cX6_wipe 20 = .ok (.aload_n 0, 1) := by decide +kernel
theorem dX6_wipe_21 : decode cX6_wipe 21 = .ok (.iconst 0, 1) := by decide +kernel
theorem dX6_wipe_22 : decode cX6_wipe 22 = .ok (.putfield 40, 3) := by decide +kernel
theorem dX6_wipe_25 : decode cX6_wipe 25 = .ok (.aload_n 0, 1) := by decide +kernel
theorem dX6_wipe_26 : decode cX6_wipe 26 = .ok (.iconst 0, 1) := by decide +kernel
theorem dX6_wipe_27 : decode cX6_wipe 27 = .ok (.putfield 43, 3) := by decide +kernel
theorem dX6_wipe_30 : decode cX6_wipe 30 = .ok (.aload_n 0, 1) := by decide +kernel
theorem dX6_wipe_31 : decode cX6_wipe 31 = .ok (.iconst 0, 1) := by decide +kernel
theorem dX6_wipe_32 : decode cX6_wipe 32 = .ok (.putfield 46, 3) := by decide +kernel
theorem dX6_wipe_35 : decode cX6_wipe 35 = .ok (.return_, 1) := by decide +kernel
theorem dX4_init_0 : decode cX4_init 0 = .ok (.aload_n 0, 1) := by decide +kernel
theorem dX4_init_1 : decode cX4_init 1 = .ok (.invokespecial 3, 3) := by decide +kernel
theorem dX4_init_4 : decode cX4_init 4 = .ok (.aload_n 0, 1) := by decide +kernel
theorem dX4_init_5 : decode cX4_init 5 = .ok (.ldc 11, 2) := by decide +kernel
theorem dX4_init_7 : decode cX4_init 7 = .ok (.newarray .int, 2) := by decide +kernel
theorem dX4_init_9 : decode cX4_init 9 = .ok (.putfield 12, 3) := by decide +kernel
theorem dX4_init_12 : decode cX4_init 12 = .ok (.aload_n 0, 1) := by decide +kernel
theorem dX4_init_13 : decode cX4_init 13 = .ok (.sipush 2048, 3) := by decide +kernel
theorem dX4_init_16 : decode cX4_init 16 = .ok (.putfield 16, 3) := by decide +kernel
theorem dX4_init_19 : decode cX4_init 19 = .ok (.aload_n 0, 1) := by decide +kernel
theorem dX4_init_20 : decode cX4_init 20 = .ok (.iconst 0, 1) := by decide +kernel
theorem dX4_init_21 : decode cX4_init 21 = .ok (.putfield 20, 3) := by decide +kernel
theorem dX4_init_24 : decode cX4_init 24 = .ok (.return_, 1) := by decide +kernel
theorem dX4_empty_0 : decode cX4_empty 0 = .ok (.aload_n 0, 1) := by decide +kernel
theorem dX4_empty_1 : decode cX4_empty 1 = .ok (.sipush 2048, 3) := by decide +kernel
theorem dX4_empty_4 : decode cX4_empty 4 = .ok (.putfield 16, 3) := by decide +kernel
theorem dX4_empty_7 : decode cX4_empty 7 = .ok (.aload_n 0, 1) := by decide +kernel
theorem dX4_empty_8 : decode cX4_empty 8 = .ok (.iconst 0, 1) := by decide +kernel
theorem dX4_empty_9 : decode cX4_empty 9 = .ok (.putfield 20, 3) := by decide +kernel
theorem dX4_empty_12 : decode cX4_empty 12 = .ok (.return_, 1) := by decide +kernel
theorem dX4_get_0 : decode cX4_get 0 = .ok (.iload_n 1, 1) := by decide +kernel
theorem dX4_get_1 : decode cX4_get 1 = .ok (.ifCond .lt 18, 3) := by decide +kernel
theorem dX4_get_4 : decode cX4_get 4 = .ok (.iload_n 1, 1) := by decide +kernel
theorem dX4_get_5 : decode cX4_get 5 = .ok (.ldc 11, 2) := by decide +kernel
theorem dX4_get_7 : decode cX4_get 7 = .ok (.if_icmp .ge 12, 3) := by decide +kernel
theorem dX4_get_10 : decode cX4_get 10 = .ok (.aload_n 0, 1) := by decide +kernel
theorem dX4_get_11 : decode cX4_get 11 = .ok (.getfield 12, 3) := by decide +kernel
theorem dX4_get_14 : decode cX4_get 14 = .ok (.iload_n 1, 1) := by decide +kernel
theorem dX4_get_15 : decode cX4_get 15 = .ok (.iaload, 1) := by decide +kernel
theorem dX4_get_16 : decode cX4_get 16 = .ok (.goto 4, 3) := by decide +kernel
theorem dX4_get_19 : decode cX4_get 19 = .ok (.iconst 0, 1) := by decide +kernel
theorem dX4_get_20 : decode cX4_get 20 = .ok (.ireturn, 1) := by decide +kernel
theorem dX4_put_0 : decode cX4_put 0 = .ok (.iload_n 1, 1) := by decide +kernel
theorem dX4_put_1 : decode cX4_put 1 = .ok (.sipush 2048, 3) := by decide +kernel
theorem dX4_put_4 : decode cX4_put 4 = .ok (.if_icmp .lt 16, 3) := by decide +kernel
theorem dX4_put_7 : decode cX4_put 7 = .ok (.iload_n 1, 1) := by decide +kernel
theorem dX4_put_8 : decode cX4_put 8 = .ok (.ldc 11, 2) := by decide +kernel
theorem dX4_put_10 : decode cX4_put 10 = .ok (.if_icmp .ge 10, 3) := by decide +kernel
theorem dX4_put_13 : decode cX4_put 13 = .ok (.aload_n 0, 1) := by decide +kernel
theorem dX4_put_14 : decode cX4_put 14 = .ok (.getfield 12, 3) := by decide +kernel
theorem dX4_put_17 : decode cX4_put 17 = .ok (.iload_n 1, 1) := by decide +kernel
theorem dX4_put_18 : decode cX4_put 18 = .ok (.iload_n 2, 1) := by decide +kernel
theorem dX4_put_19 : decode cX4_put 19 = .ok (.iastore, 1) := by decide +kernel
theorem dX4_put_20 : decode cX4_put 20 = .ok (.return_, 1) := by decide +kernel
theorem dX4_take_0 : decode cX4_take 0 = .ok (.iload_n 1, 1) := by decide +kernel
theorem dX4_take_1 : decode cX4_take 1 = .ok (.ifCond .lt 14, 3) := by decide +kernel
theorem dX4_take_4 : decode cX4_take 4 = .ok (.iload_n 1, 1) := by decide +kernel
theorem dX4_take_5 : decode cX4_take 5 = .ok (.ldc 11, 2) := by decide +kernel
theorem dX4_take_7 : decode cX4_take 7 = .ok (.aload_n 0, 1) := by decide +kernel
theorem dX4_take_8 : decode cX4_take 8 = .ok (.getfield 16, 3) := by decide +kernel
theorem dX4_take_11 : decode cX4_take 11 = .ok (.isub, 1) := by decide +kernel
theorem dX4_take_12 : decode cX4_take 12 = .ok (.if_icmp .le 10, 3) := by decide +kernel
theorem dX4_take_15 : decode cX4_take 15 = .ok (.aload_n 0, 1) := by decide +kernel
theorem dX4_take_16 : decode cX4_take 16 = .ok (.iconst 1, 1) := by decide +kernel
theorem dX4_take_17 : decode cX4_take 17 = .ok (.putfield 20, 3) := by decide +kernel
theorem dX4_take_20 : decode cX4_take 20 = .ok (.iconst 0, 1) := by decide +kernel
theorem dX4_take_21 : decode cX4_take 21 = .ok (.ireturn, 1) := by decide +kernel
theorem dX4_take_22 : decode cX4_take 22 = .ok (.aload_n 0, 1) := by decide +kernel
theorem dX4_take_23 : decode cX4_take 23 = .ok (.getfield 16, 3) := by decide +kernel
theorem dX4_take_26 : decode cX4_take 26 = .ok (.istore_n 2, 1) := by decide +kernel
theorem dX4_take_27 : decode cX4_take 27 = .ok (.aload_n 0, 1) := by decide +kernel
theorem dX4_take_28 : decode cX4_take 28 = .ok (.dup, 1) := by decide +kernel
theorem dX4_take_29 : decode cX4_take 29 = .ok (.getfield 16, 3) := by decide +kernel
theorem dX4_take_32 : decode cX4_take 32 = .ok (.iload_n 1, 1) := by decide +kernel
theorem dX4_take_33 : decode cX4_take 33 = .ok (.iadd, 1) := by decide +kernel
theorem dX4_take_34 : decode cX4_take 34 = .ok (.putfield 16, 3) := by decide +kernel
theorem dX4_take_37 : decode cX4_take 37 = .ok (.iload_n 2, 1) := by decide +kernel
theorem dX4_take_38 : decode cX4_take 38 = .ok (.istore_n 3, 1) := by decide +kernel
theorem dX4_take_39 : decode cX4_take 39 = .ok (.iload_n 3, 1) := by decide +kernel
theorem dX4_take_40 : decode cX4_take 40 = .ok (.aload_n 0, 1) := by decide +kernel
theorem dX4_take_41 : decode cX4_take 41 = .ok (.getfield 16, 3) := by decide +kernel
theorem dX4_take_44 : decode cX4_take 44 = .ok (.if_icmp .ge 16, 3) := by decide +kernel
theorem dX4_take_47 : decode cX4_take 47 = .ok (.aload_n 0, 1) := by decide +kernel
theorem dX4_take_48 : decode cX4_take 48 = .ok (.getfield 12, 3) := by decide +kernel
theorem dX4_take_51 : decode cX4_take 51 = .ok (.iload_n 3, 1) := by decide +kernel
theorem dX4_take_52 : decode cX4_take 52 = .ok (.iconst 0, 1) := by decide +kernel
theorem dX4_take_53 : decode cX4_take 53 = .ok (.iastore, 1) := by decide +kernel
theorem dX4_take_54 : decode cX4_take 54 = .ok (.iinc 3 1, 3) := by decide +kernel
theorem dX4_take_57 : decode cX4_take 57 = .ok (.goto (-18), 3) := by decide +kernel
theorem dX4_take_60 : decode cX4_take 60 = .ok (.iload_n 2, 1) := by decide +kernel
theorem dX4_take_61 : decode cX4_take 61 = .ok (.ireturn, 1) := by decide +kernel
theorem dX4_constant_0 : decode cX4_constant 0 = .ok (.ldc 11, 2) := by decide +kernel
theorem dX4_constant_2 : decode cX4_constant 2 = .ok (.aload_n 0, 1) := by decide +kernel
theorem dX4_constant_3 : decode cX4_constant 3 = .ok (.getfield 16, 3) := by decide +kernel
theorem dX4_constant_6 : decode cX4_constant 6 = .ok (.isub, 1) := by decide +kernel
theorem dX4_constant_7 : decode cX4_constant 7 = .ok (.iconst 3, 1) := by decide +kernel
theorem dX4_constant_8 : decode cX4_constant 8 = .ok (.if_icmp .ge 10, 3) := by decide +kernel
theorem dX4_constant_11 : decode cX4_constant 11 = .ok (.aload_n 0, 1) := by decide +kernel
theorem dX4_constant_12 : decode cX4_constant 12 = .ok (.iconst 1, 1) := by decide +kernel
theorem dX4_constant_13 : decode cX4_constant 13 = .ok (.putfield 20, 3) := by decide +kernel
theorem dX4_constant_16 : decode cX4_constant 16 = .ok (.iconst 0, 1) := by decide +kernel
theorem dX4_constant_17 : decode cX4_constant 17 = .ok (.ireturn, 1) := by decide +kernel
theorem dX4_constant_18 : decode cX4_constant 18 = .ok (.aload_n 0, 1) := by decide +kernel
theorem dX4_constant_19 : decode cX4_constant 19 = .ok (.getfield 12, 3) := by decide +kernel
theorem dX4_constant_22 : decode cX4_constant 22 = .ok (.aload_n 0, 1) := by decide +kernel
theorem dX4_constant_23 : decode cX4_constant 23 = .ok (.getfield 16, 3) := by decide +kernel
theorem dX4_constant_26 : decode cX4_constant 26 = .ok (.iconst 0, 1) := by decide +kernel
theorem dX4_constant_27 : decode cX4_constant 27 = .ok (.iastore, 1) := by decide +kernel
theorem dX4_constant_28 : decode cX4_constant 28 = .ok (.aload_n 0, 1) := by decide +kernel
theorem dX4_constant_29 : decode cX4_constant 29 = .ok (.getfield 12, 3) := by decide +kernel
theorem dX4_constant_32 : decode cX4_constant 32 = .ok (.aload_n 0, 1) := by decide +kernel
theorem dX4_constant_33 : decode cX4_constant 33 = .ok (.getfield 16, 3) := by decide +kernel
theorem dX4_constant_36 : decode cX4_constant 36 = .ok (.iconst 1, 1) := by decide +kernel
theorem dX4_constant_37 : decode cX4_constant 37 = .ok (.iadd, 1) := by decide +kernel
theorem dX4_constant_38 : decode cX4_constant 38 = .ok (.iconst 0, 1) := by decide +kernel
theorem dX4_constant_39 : decode cX4_constant 39 = .ok (.iastore, 1) := by decide +kernel
theorem dX4_constant_40 : decode cX4_constant 40 = .ok (.aload_n 0, 1) := by decide +kernel
theorem dX4_constant_41 : decode cX4_constant 41 = .ok (.getfield 12, 3) := by decide +kernel
theorem dX4_constant_44 : decode cX4_constant 44 = .ok (.aload_n 0, 1) := by decide +kernel
theorem dX4_constant_45 : decode cX4_constant 45 = .ok (.getfield 16, 3) := by decide +kernel
theorem dX4_constant_48 : decode cX4_constant 48 = .ok (.iconst 2, 1) := by decide +kernel
theorem dX4_constant_49 : decode cX4_constant 49 = .ok (.iadd, 1) := by decide +kernel
theorem dX4_constant_50 : decode cX4_constant 50 = .ok (.iload_n 1, 1) := by decide +kernel
theorem dX4_constant_51 : decode cX4_constant 51 = .ok (.iastore, 1) := by decide +kernel
theorem dX4_constant_52 : decode cX4_constant 52 = .ok (.aload_n 0, 1) := by decide +kernel
theorem dX4_constant_53 : decode cX4_constant 53 = .ok (.dup, 1) := by decide +kernel
theorem dX4_constant_54 : decode cX4_constant 54 = .ok (.getfield 16, 3) := by decide +kernel
theorem dX4_constant_57 : decode cX4_constant 57 = .ok (.iconst 3, 1) := by decide +kernel
theorem dX4_constant_58 : decode cX4_constant 58 = .ok (.iadd, 1) := by decide +kernel
theorem dX4_constant_59 : decode cX4_constant 59 = .ok (.putfield 16, 3) := by decide +kernel
theorem dX4_constant_62 : decode cX4_constant 62 = .ok (.aload_n 0, 1) := by decide +kernel
theorem dX4_constant_63 : decode cX4_constant 63 = .ok (.getfield 16, 3) := by decide +kernel
theorem dX4_constant_66 : decode cX4_constant 66 = .ok (.iconst 3, 1) := by decide +kernel
theorem dX4_constant_67 : decode cX4_constant 67 = .ok (.isub, 1) := by decide +kernel
theorem dX4_constant_68 : decode cX4_constant 68 = .ok (.ireturn, 1) := by decide +kernel
theorem dX4_width_0 : decode cX4_width 0 = .ok (.iload_n 1, 1) := by decide +kernel
theorem dX4_width_1 : decode cX4_width 1 = .ok (.ifCond .lt 18, 3) := by decide +kernel
theorem dX4_width_4 : decode cX4_width 4 = .ok (.iload_n 1, 1) := by decide +kernel
theorem dX4_width_5 : decode cX4_width 5 = .ok (.ldc 24, 2) := by decide +kernel
theorem dX4_width_7 : decode cX4_width 7 = .ok (.if_icmp .ge 12, 3) := by decide +kernel
theorem dX4_width_10 : decode cX4_width 10 = .ok (.aload_n 0, 1) := by decide +kernel
theorem dX4_width_11 : decode cX4_width 11 = .ok (.getfield 12, 3) := by decide +kernel
theorem dX4_width_14 : decode cX4_width 14 = .ok (.iload_n 1, 1) := by decide +kernel
theorem dX4_width_15 : decode cX4_width 15 = .ok (.iaload, 1) := by decide +kernel
theorem dX4_width_16 : decode cX4_width 16 = .ok (.goto 4, 3) := by decide +kernel
theorem dX4_width_19 : decode cX4_width 19 = .ok (.iconst 0, 1) := by decide +kernel
theorem dX4_width_20 : decode cX4_width 20 = .ok (.ireturn, 1) := by decide +kernel
theorem dX4_height_0 : decode cX4_height 0 = .ok (.iload_n 1, 1) := by decide +kernel
theorem dX4_height_1 : decode cX4_height 1 = .ok (.ifCond .lt 20, 3) := by decide +kernel
theorem dX4_height_4 : decode cX4_height 4 = .ok (.iload_n 1, 1) := by decide +kernel
theorem dX4_height_5 : decode cX4_height 5 = .ok (.ldc 24, 2) := by decide +kernel
theorem dX4_height_7 : decode cX4_height 7 = .ok (.if_icmp .ge 14, 3) := by decide +kernel
theorem dX4_height_10 : decode cX4_height 10 = .ok (.aload_n 0, 1) := by decide +kernel
theorem dX4_height_11 : decode cX4_height 11 = .ok (.getfield 12, 3) := by decide +kernel
theorem dX4_height_14 : decode cX4_height 14 = .ok (.iload_n 1, 1) := by decide +kernel
theorem dX4_height_15 : decode cX4_height 15 = .ok (.iconst 1, 1) := by decide +kernel
theorem dX4_height_16 : decode cX4_height 16 = .ok (.iadd, 1) := by decide +kernel
theorem dX4_height_17 : decode cX4_height 17 = .ok (.iaload, 1) := by decide +kernel
theorem dX4_height_18 : decode cX4_height 18 = .ok (.goto 4, 3) := by decide +kernel
theorem dX4_height_21 : decode cX4_height 21 = .ok (.iconst 0, 1) := by decide +kernel
theorem dX4_height_22 : decode cX4_height 22 = .ok (.ireturn, 1) := by decide +kernel
theorem dX4_span_0 : decode cX4_span 0 = .ok (.iload_n 1, 1) := by decide +kernel
theorem dX4_span_1 : decode cX4_span 1 = .ok (.ifCond .lt 33, 3) := by decide +kernel
theorem dX4_span_4 : decode cX4_span 4 = .ok (.iload_n 1, 1) := by decide +kernel
theorem dX4_span_5 : decode cX4_span 5 = .ok (.ldc 24, 2) := by decide +kernel
theorem dX4_span_7 : decode cX4_span 7 = .ok (.if_icmp .ge 27, 3) := by decide +kernel
theorem dX4_span_10 : decode cX4_span 10 = .ok (.iconst 2, 1) := by decide +kernel
theorem dX4_span_11 : decode cX4_span 11 = .ok (.aload_n 0, 1) := by decide +kernel
theorem dX4_span_12 : decode cX4_span 12 = .ok (.getfield 12, 3) := by decide +kernel
theorem dX4_span_15 : decode cX4_span 15 = .ok (.iload_n 1, 1) := by decide +kernel
theorem dX4_span_16 : decode cX4_span 16 = .ok (.iaload, 1) := by decide +kernel
theorem dX4_span_17 : decode cX4_span 17 = .ok (.iconst 1, 1) := by decide +kernel
theorem dX4_span_18 : decode cX4_span 18 = .ok (.iadd, 1) := by decide +kernel
theorem dX4_span_19 : decode cX4_span 19 = .ok (.aload_n 0, 1) := by decide +kernel
theorem dX4_span_20 : decode cX4_span 20 = .ok (.getfield 12, 3) := by decide +kernel
theorem dX4_span_23 : decode cX4_span 23 = .ok (.iload_n 1, 1) := by decide +kernel
theorem dX4_span_24 : decode cX4_span 24 = .ok (.iconst 1, 1) := by decide +kernel
theorem dX4_span_25 : decode cX4_span 25 = .ok (.iadd, 1) := by decide +kernel
theorem dX4_span_26 : decode cX4_span 26 = .ok (.iaload, 1) := by decide +kernel
theorem dX4_span_27 : decode cX4_span 27 = .ok (.iconst 1, 1) := by decide +kernel
theorem dX4_span_28 : decode cX4_span 28 = .ok (.iadd, 1) := by decide +kernel
theorem dX4_span_29 : decode cX4_span 29 = .ok (.imul, 1) := by decide +kernel
theorem dX4_span_30 : decode cX4_span 30 = .ok (.iadd, 1) := by decide +kernel
theorem dX4_span_31 : decode cX4_span 31 = .ok (.goto 4, 3) := by decide +kernel
theorem dX4_span_34 : decode cX4_span 34 = .ok (.iconst 0, 1) := by decide +kernel
theorem dX4_span_35 : decode cX4_span 35 = .ok (.ireturn, 1) := by decide +kernel
theorem dX4_rowOf_0 : decode cX4_rowOf 0 = .ok (.iload_n 1, 1) := by decide +kernel
theorem dX4_rowOf_1 : decode cX4_rowOf 1 = .ok (.ifCond .lt 26, 3) := by decide +kernel
theorem dX4_rowOf_4 : decode cX4_rowOf 4 = .ok (.iload_n 1, 1) := by decide +kernel
theorem dX4_rowOf_5 : decode cX4_rowOf 5 = .ok (.ldc 24, 2) := by decide +kernel
theorem dX4_rowOf_7 : decode cX4_rowOf 7 = .ok (.if_icmp .ge 20, 3) := by decide +kernel
theorem dX4_rowOf_10 : decode cX4_rowOf 10 = .ok (.iload_n 1, 1) := by decide +kernel
theorem dX4_rowOf_11 : decode cX4_rowOf 11 = .ok (.iconst 2, 1) := by decide +kernel
theorem dX4_rowOf_12 : decode cX4_rowOf 12 = .ok (.iadd, 1) := by decide +kernel
theorem dX4_rowOf_13 : decode cX4_rowOf 13 = .ok (.iload_n 2, 1) := by decide +kernel
theorem dX4_rowOf_14 : decode cX4_rowOf 14 = .ok (.aload_n 0, 1) := by decide +kernel
theorem dX4_rowOf_15 : decode cX4_rowOf 15 = .ok (.getfield 12, 3) := by decide +kernel
theorem dX4_rowOf_18 : decode cX4_rowOf 18 = .ok (.iload_n 1, 1) := by decide +kernel
theorem dX4_rowOf_19 : decode cX4_rowOf 19 = .ok (.iaload, 1) := by decide +kernel
theorem dX4_rowOf_20 : decode cX4_rowOf 20 = .ok (.iconst 1, 1) := by decide +kernel
theorem dX4_rowOf_21 : decode cX4_rowOf 21 = .ok (.iadd, 1) := by decide +kernel
theorem dX4_rowOf_22 : decode cX4_rowOf 22 = .ok (.imul, 1) := by decide +kernel
theorem dX4_rowOf_23 : decode cX4_rowOf 23 = .ok (.iadd, 1) := by decide +kernel
theorem dX4_rowOf_24 : decode cX4_rowOf 24 = .ok (.goto 4, 3) := by decide +kernel
theorem dX4_rowOf_27 : decode cX4_rowOf 27 = .ok (.iconst 0, 1) := by decide +kernel
theorem dX4_rowOf_28 : decode cX4_rowOf 28 = .ok (.ireturn, 1) := by decide +kernel
theorem dX2_init_0 : decode cX2_init 0 = .ok (.aload_n 0, 1) := by decide +kernel
theorem dX2_init_1 : decode cX2_init 1 = .ok (.invokespecial 3, 3) := by decide +kernel
theorem dX2_init_4 : decode cX2_init 4 = .ok (.aload_n 0, 1) := by decide +kernel
theorem dX2_init_5 : decode cX2_init 5 = .ok (.aload_n 1, 1) := by decide +kernel
theorem dX2_init_6 : decode cX2_init 6 = .ok (.putfield 9, 3) := by decide +kernel
theorem dX2_init_9 : decode cX2_init 9 = .ok (.return_, 1) := by decide +kernel
theorem dX2_save_0 : decode cX2_save 0 = .ok (.iconst 0, 1) := by decide +kernel
theorem dX2_save_1 : decode cX2_save 1 = .ok (.istore_n 3, 1) := by decide +kernel
theorem dX2_save_2 : decode cX2_save 2 = .ok (.iload_n 3, 1) := by decide +kernel
theorem dX2_save_3 : decode cX2_save 3 = .ok (.aload_n 2, 1) := by decide +kernel
theorem dX2_save_4 : decode cX2_save 4 = .ok (.arraylength, 1) := by decide +kernel
theorem dX2_save_5 : decode cX2_save 5 = .ok (.if_icmp .ge 13, 3) := by decide +kernel
theorem dX2_save_8 : decode cX2_save 8 = .ok (.aload_n 2, 1) := by decide +kernel
theorem dX2_save_9 : decode cX2_save 9 = .ok (.iload_n 3, 1) := by decide +kernel
theorem dX2_save_10 : decode cX2_save 10 = .ok (.iconst 0, 1) := by decide +kernel
theorem dX2_save_11 : decode cX2_save 11 = .ok (.iastore, 1) := by decide +kernel
theorem dX2_save_12 : decode cX2_save 12 = .ok (.iinc 3 1, 3) := by decide +kernel
theorem dX2_save_15 : decode cX2_save 15 = .ok (.goto (-13), 3) := by decide +kernel
theorem dX2_save_18 : decode cX2_save 18 = .ok (.aload_n 2, 1) := by decide +kernel
theorem dX2_save_19 : decode cX2_save 19 = .ok (.arraylength, 1) := by decide +kernel
theorem dX2_save_20 : decode cX2_save 20 = .ok (.iconst 2, 1) := by decide +kernel
theorem dX2_save_21 : decode cX2_save 21 = .ok (.if_icmp .ge 4, 3) := by decide +kernel
theorem dX2_save_24 : decode cX2_save 24 = .ok (.return_, 1) := by decide +kernel
theorem dX2_save_25 : decode cX2_save 25 = .ok (.aload_n 2, 1) := by decide +kernel
theorem dX2_save_26 : decode cX2_save 26 = .ok (.iconst 0, 1) := by decide +kernel
theorem dX2_save_27 : decode cX2_save 27 = .ok (.aload_n 0, 1) := by decide +kernel
theorem dX2_save_28 : decode cX2_save 28 = .ok (.getfield 9, 3) := by decide +kernel
theorem dX2_save_31 : decode cX2_save 31 = .ok (.iload_n 1, 1) := by decide +kernel
theorem dX2_save_32 : decode cX2_save 32 = .ok (.invokevirtual 15, 3) := by decide +kernel
theorem dX2_save_35 : decode cX2_save 35 = .ok (.bipush 24, 2) := by decide +kernel
theorem dX2_save_37 : decode cX2_save 37 = .ok (.invokestatic 55, 3) := by decide +kernel
theorem dX2_save_40 : decode cX2_save 40 = .ok (.iastore, 1) := by decide +kernel
theorem dX2_save_41 : decode cX2_save 41 = .ok (.aload_n 2, 1) := by decide +kernel
theorem dX2_save_42 : decode cX2_save 42 = .ok (.iconst 1, 1) := by decide +kernel
theorem dX2_save_43 : decode cX2_save 43 = .ok (.aload_n 0, 1) := by decide +kernel
theorem dX2_save_44 : decode cX2_save 44 = .ok (.getfield 9, 3) := by decide +kernel
theorem dX2_save_47 : decode cX2_save 47 = .ok (.iload_n 1, 1) := by decide +kernel
theorem dX2_save_48 : decode cX2_save 48 = .ok (.invokevirtual 21, 3) := by decide +kernel
theorem dX2_save_51 : decode cX2_save 51 = .ok (.bipush 12, 2) := by decide +kernel
theorem dX2_save_53 : decode cX2_save 53 = .ok (.invokestatic 55, 3) := by decide +kernel
theorem dX2_save_56 : decode cX2_save 56 = .ok (.iastore, 1) := by decide +kernel
theorem dX2_save_57 : decode cX2_save 57 = .ok (.iconst 0, 1) := by decide +kernel
theorem dX2_save_58 : decode cX2_save 58 = .ok (.istore_n 3, 1) := by decide +kernel
theorem dX2_save_59 : decode cX2_save 59 = .ok (.iload_n 3, 1) := by decide +kernel
theorem dX2_save_60 : decode cX2_save 60 = .ok (.aload_n 2, 1) := by decide +kernel
theorem dX2_save_61 : decode cX2_save 61 = .ok (.iconst 1, 1) := by decide +kernel
theorem dX2_save_62 : decode cX2_save 62 = .ok (.iaload, 1) := by decide +kernel
theorem dX2_save_63 : decode cX2_save 63 = .ok (.if_icmp .gt 70, 3) := by decide +kernel
theorem dX2_save_66 : decode cX2_save 66 = .ok (.iconst 2, 1) := by decide +kernel
theorem dX2_save_67 : decode cX2_save 67 = .ok (.iload_n 3, 1) := by decide +kernel
theorem dX2_save_68 : decode cX2_save 68 = .ok (.bipush 25, 2) := by decide +kernel
theorem dX2_save_70 : decode cX2_save 70 = .ok (.imul, 1) := by decide +kernel
theorem dX2_save_71 : decode cX2_save 71 = .ok (.iadd, 1) := by decide +kernel
theorem dX2_save_72 : decode cX2_save 72 = .ok (.istore 4, 2) := by decide +kernel
theorem dX2_save_74 : decode cX2_save 74 = .ok (.iconst 0, 1) := by decide +kernel
theorem dX2_save_75 : decode cX2_save 75 = .ok (.istore 5, 2) := by decide +kernel
theorem dX2_save_77 : decode cX2_save 77 = .ok (.iload 5, 2) := by decide +kernel
theorem dX2_save_79 : decode cX2_save 79 = .ok (.aload_n 2, 1) := by decide +kernel
theorem dX2_save_80 : decode cX2_save 80 = .ok (.iconst 0, 1) := by decide +kernel
theorem dX2_save_81 : decode cX2_save 81 = .ok (.iaload, 1) := by decide +kernel
theorem dX2_save_82 : decode cX2_save 82 = .ok (.if_icmp .gt 45, 3) := by decide +kernel
theorem dX2_save_85 : decode cX2_save 85 = .ok (.iload 4, 2) := by decide +kernel
theorem dX2_save_87 : decode cX2_save 87 = .ok (.iload 5, 2) := by decide +kernel
theorem dX2_save_89 : decode cX2_save 89 = .ok (.iadd, 1) := by decide +kernel
theorem dX2_save_90 : decode cX2_save 90 = .ok (.aload_n 2, 1) := by decide +kernel
theorem dX2_save_91 : decode cX2_save 91 = .ok (.arraylength, 1) := by decide +kernel
theorem dX2_save_92 : decode cX2_save 92 = .ok (.if_icmp .ge 35, 3) := by decide +kernel
theorem dX2_save_95 : decode cX2_save 95 = .ok (.aload_n 2, 1) := by decide +kernel
theorem dX2_save_96 : decode cX2_save 96 = .ok (.iload 4, 2) := by decide +kernel
theorem dX2_save_98 : decode cX2_save 98 = .ok (.iload 5, 2) := by decide +kernel
theorem dX2_save_100 : decode cX2_save 100 = .ok (.iadd, 1) := by decide +kernel
theorem dX2_save_101 : decode cX2_save 101 = .ok (.aload_n 0, 1) := by decide +kernel
theorem dX2_save_102 : decode cX2_save 102 = .ok (.getfield 9, 3) := by decide +kernel
theorem dX2_save_105 : decode cX2_save 105 = .ok (.aload_n 0, 1) := by decide +kernel
theorem dX2_save_106 : decode cX2_save 106 = .ok (.getfield 9, 3) := by decide +kernel
theorem dX2_save_109 : decode cX2_save 109 = .ok (.iload_n 1, 1) := by decide +kernel
theorem dX2_save_110 : decode cX2_save 110 = .ok (.iload_n 3, 1) := by decide +kernel
theorem dX2_save_111 : decode cX2_save 111 = .ok (.invokevirtual 24, 3) := by decide +kernel
theorem dX2_save_114 : decode cX2_save 114 = .ok (.iload 5, 2) := by decide +kernel
theorem dX2_save_116 : decode cX2_save 116 = .ok (.iadd, 1) := by decide +kernel
theorem dX2_save_117 : decode cX2_save 117 = .ok (.invokevirtual 28, 3) := by decide +kernel
theorem dX2_save_120 : decode cX2_save 120 = .ok (.iastore, 1) := by decide +kernel
theorem dX2_save_121 : decode cX2_save 121 = .ok (.iinc 5 1, 3) := by decide +kernel
theorem dX2_save_124 : decode cX2_save 124 = .ok (.goto (-47), 3) := by decide +kernel
theorem dX2_save_127 : decode cX2_save 127 = .ok (.iinc 3 1, 3) := by decide +kernel
theorem dX2_save_130 : decode cX2_save 130 = .ok (.goto (-71), 3) := by decide +kernel
theorem dX2_save_133 : decode cX2_save 133 = .ok (.return_, 1) := by decide +kernel
theorem dX3_init_0 : decode cX3_init 0 = .ok (.aload_n 0, 1) := by decide +kernel
theorem dX3_init_1 : decode cX3_init 1 = .ok (.invokespecial 3, 3) := by decide +kernel
theorem dX3_init_4 : decode cX3_init 4 = .ok (.aload_n 0, 1) := by decide +kernel
theorem dX3_init_5 : decode cX3_init 5 = .ok (.aload_n 1, 1) := by decide +kernel
theorem dX3_init_6 : decode cX3_init 6 = .ok (.putfield 9, 3) := by decide +kernel
theorem dX3_init_9 : decode cX3_init 9 = .ok (.aload_n 0, 1) := by decide +kernel
theorem dX3_init_10 : decode cX3_init 10 = .ok (.aload_n 2, 1) := by decide +kernel
theorem dX3_init_11 : decode cX3_init 11 = .ok (.putfield 15, 3) := by decide +kernel
theorem dX3_init_14 : decode cX3_init 14 = .ok (.aload_n 0, 1) := by decide +kernel
theorem dX3_init_15 : decode cX3_init 15 = .ok (.aload_n 3, 1) := by decide +kernel
theorem dX3_init_16 : decode cX3_init 16 = .ok (.putfield 19, 3) := by decide +kernel
theorem dX3_init_19 : decode cX3_init 19 = .ok (.return_, 1) := by decide +kernel
theorem dX3_under_0 : decode cX3_under 0 = .ok (.iload_n 1, 1) := by decide +kernel
theorem dX3_under_1 : decode cX3_under 1 = .ok (.aload_n 0, 1) := by decide +kernel
theorem dX3_under_2 : decode cX3_under 2 = .ok (.getfield 9, 3) := by decide +kernel
theorem dX3_under_5 : decode cX3_under 5 = .ok (.iload_n 1, 1) := by decide +kernel
theorem dX3_under_6 : decode cX3_under 6 = .ok (.invokevirtual 23, 3) := by decide +kernel
theorem dX3_under_9 : decode cX3_under 9 = .ok (.iadd, 1) := by decide +kernel
theorem dX3_under_10 : decode cX3_under 10 = .ok (.ireturn, 1) := by decide +kernel
theorem dX0_init_0 : decode cX0_init 0 = .ok (.aload_n 0, 1) := by decide +kernel
theorem dX0_init_1 : decode cX0_init 1 = .ok (.invokespecial 3, 3) := by decide +kernel
theorem dX0_init_4 : decode cX0_init 4 = .ok (.aload_n 0, 1) := by decide +kernel
theorem dX0_init_5 : decode cX0_init 5 = .ok (.aload_n 1, 1) := by decide +kernel
theorem dX0_init_6 : decode cX0_init 6 = .ok (.putfield 9, 3) := by decide +kernel
theorem dX0_init_9 : decode cX0_init 9 = .ok (.aload_n 0, 1) := by decide +kernel
theorem dX0_init_10 : decode cX0_init 10 = .ok (.aload_n 2, 1) := by decide +kernel
theorem dX0_init_11 : decode cX0_init 11 = .ok (.putfield 15, 3) := by decide +kernel
theorem dX0_init_14 : decode cX0_init 14 = .ok (.aload_n 0, 1) := by decide +kernel
theorem dX0_init_15 : decode cX0_init 15 = .ok (.bipush 96, 2) := by decide +kernel
theorem dX0_init_17 : decode cX0_init 17 = .ok (.newarray .int, 2) := by decide +kernel
theorem dX0_init_19 : decode cX0_init 19 = .ok (.putfield 19, 3) := by decide +kernel
theorem dX0_init_22 : decode cX0_init 22 = .ok (.aload_n 0, 1) := by decide +kernel
theorem dX0_init_23 : decode cX0_init 23 = .ok (.bipush 96, 2) := by decide +kernel
theorem dX0_init_25 : decode cX0_init 25 = .ok (.newarray .int, 2) := by decide +kernel
theorem dX0_init_27 : decode cX0_init 27 = .ok (.putfield 23, 3) := by decide +kernel
theorem dX0_init_30 : decode cX0_init 30 = .ok (.aload_n 0, 1) := by decide +kernel
theorem dX0_init_31 : decode cX0_init 31 = .ok (.bipush 24, 2) := by decide +kernel
theorem dX0_init_33 : decode cX0_init 33 = .ok (.newarray .int, 2) := by decide +kernel
theorem dX0_init_35 : decode cX0_init 35 = .ok (.putfield 26, 3) := by decide +kernel
theorem dX0_init_38 : decode cX0_init 38 = .ok (.return_, 1) := by decide +kernel
theorem dX5_init_0 : decode cX5_init 0 = .ok (.aload_n 0, 1) := by decide +kernel
theorem dX5_init_1 : decode cX5_init 1 = .ok (.invokespecial 3, 3) := by decide +kernel
theorem dX5_init_4 : decode cX5_init 4 = .ok (.aload_n 0, 1) := by decide +kernel
theorem dX5_init_5 : decode cX5_init 5 = .ok (.aload_n 1, 1) := by decide +kernel
theorem dX5_init_6 : decode cX5_init 6 = .ok (.putfield 9, 3) := by decide +kernel
theorem dX5_init_9 : decode cX5_init 9 = .ok (.aload_n 0, 1) := by decide +kernel
theorem dX5_init_10 : decode cX5_init 10 = .ok (.aload_n 2, 1) := by decide +kernel
theorem dX5_init_11 : decode cX5_init 11 = .ok (.putfield 15, 3) := by decide +kernel
theorem dX5_init_14 : decode cX5_init 14 = .ok (.aload_n 0, 1) := by decide +kernel
theorem dX5_init_15 : decode cX5_init 15 = .ok (.aload_n 3, 1) := by decide +kernel
theorem dX5_init_16 : decode cX5_init 16 = .ok (.putfield 19, 3) := by decide +kernel
theorem dX5_init_19 : decode cX5_init 19 = .ok (.aload_n 0, 1) := by decide +kernel
theorem dX5_init_20 : decode cX5_init 20 = .ok (.aload 4, 2) := by decide +kernel
theorem dX5_init_22 : decode cX5_init 22 = .ok (.putfield 23, 3) := by decide +kernel
theorem dX5_init_25 : decode cX5_init 25 = .ok (.aload_n 0, 1) := by decide +kernel
theorem dX5_init_26 : decode cX5_init 26 = .ok (.bipush 8, 2) := by decide +kernel
theorem dX5_init_28 : decode cX5_init 28 = .ok (.newarray .int, 2) := by decide +kernel
theorem dX5_init_30 : decode cX5_init 30 = .ok (.putfield 27, 3) := by decide +kernel
theorem dX5_init_33 : decode cX5_init 33 = .ok (.aload_n 0, 1) := by decide +kernel
theorem dX5_init_34 : decode cX5_init 34 = .ok (.sipush 301, 3) := by decide +kernel
theorem dX5_init_37 : decode cX5_init 37 = .ok (.newarray .int, 2) := by decide +kernel
theorem dX5_init_39 : decode cX5_init 39 = .ok (.putfield 31, 3) := by decide +kernel
theorem dX5_init_42 : decode cX5_init 42 = .ok (.aload_n 0, 1) := by decide +kernel
theorem dX5_init_43 : decode cX5_init 43 = .ok (.sipush 301, 3) := by decide +kernel
theorem dX5_init_46 : decode cX5_init 46 = .ok (.newarray .int, 2) := by decide +kernel
theorem dX5_init_48 : decode cX5_init 48 = .ok (.putfield 34, 3) := by decide +kernel
theorem dX5_init_51 : decode cX5_init 51 = .ok (.aload_n 0, 1) := by decide +kernel
theorem dX5_init_52 : decode cX5_init 52 = .ok (.bipush 42, 2) := by decide +kernel
theorem dX5_init_54 : decode cX5_init 54 = .ok (.newarray .int, 2) := by decide +kernel
theorem dX5_init_56 : decode cX5_init 56 = .ok (.putfield 37, 3) := by decide +kernel
theorem dX5_init_59 : decode cX5_init 59 = .ok (.aload_n 0, 1) := by decide +kernel
theorem dX5_init_60 : decode cX5_init 60 = .ok (.bipush 42, 2) := by decide +kernel
theorem dX5_init_62 : decode cX5_init 62 = .ok (.newarray .int, 2) := by decide +kernel
theorem dX5_init_64 : decode cX5_init 64 = .ok (.putfield 40, 3) := by decide +kernel
theorem dX5_init_67 : decode cX5_init 67 = .ok (.return_, 1) := by decide +kernel
theorem dX5_guessed_0 : decode cX5_guessed 0 = .ok (.iconst 1, 1) := by decide +kernel
theorem dX5_guessed_1 : decode cX5_guessed 1 = .ok (.istore 4, 2) := by decide +kernel
theorem dX5_guessed_3 : decode cX5_guessed 3 = .ok (.iload 4, 2) := by decide +kernel
theorem dX5_guessed_5 : decode cX5_guessed 5 = .ok (.iconst 4, 1) := by decide +kernel
theorem dX5_guessed_6 : decode cX5_guessed 6 = .ok (.if_icmp .gt 75, 3) := by decide +kernel
theorem dX5_guessed_9 : decode cX5_guessed 9 = .ok (.iconst 0, 1) := by decide +kernel
theorem dX5_guessed_10 : decode cX5_guessed 10 = .ok (.istore 5, 2) := by decide +kernel
theorem dX5_guessed_12 : decode cX5_guessed 12 = .ok (.iload 5, 2) := by decide +kernel
theorem dX5_guessed_14 : decode cX5_guessed 14 = .ok (.bipush 8, 2) := by decide +kernel
theorem dX5_guessed_16 : decode cX5_guessed 16 = .ok (.if_icmp .gt 59, 3) := by decide +kernel
theorem dX5_guessed_19 : decode cX5_guessed 19 = .ok (.iload 4, 2) := by decide +kernel
theorem dX5_guessed_21 : decode cX5_guessed 21 = .ok (.iconst 1, 1) := by decide +kernel
theorem dX5_guessed_22 : decode cX5_guessed 22 = .ok (.iadd, 1) := by decide +kernel
theorem dX5_guessed_23 : decode cX5_guessed 23 = .ok (.iload 5, 2) := by decide +kernel
theorem dX5_guessed_25 : decode cX5_guessed 25 = .ok (.iconst 1, 1) := by decide +kernel
theorem dX5_guessed_26 : decode cX5_guessed 26 = .ok (.iadd, 1) := by decide +kernel
theorem dX5_guessed_27 : decode cX5_guessed 27 = .ok (.imul, 1) := by decide +kernel
theorem dX5_guessed_28 : decode cX5_guessed 28 = .ok (.iconst 4, 1) := by decide +kernel
theorem dX5_guessed_29 : decode cX5_guessed 29 = .ok (.iadd, 1) := by decide +kernel
theorem dX5_guessed_30 : decode cX5_guessed 30 = .ok (.iload_n 2, 1) := by decide +kernel
theorem dX5_guessed_31 : decode cX5_guessed 31 = .ok (.iload 4, 2) := by decide +kernel
theorem dX5_guessed_33 : decode cX5_guessed 33 = .ok (.isub, 1) := by decide +kernel
theorem dX5_guessed_34 : decode cX5_guessed 34 = .ok (.if_icmp .gt 41, 3) := by decide +kernel
theorem dX5_guessed_37 : decode cX5_guessed 37 = .ok (.aload_n 0, 1) := by decide +kernel
theorem dX5_guessed_38 : decode cX5_guessed 38 = .ok (.getfield 9, 3) := by decide +kernel
theorem dX5_guessed_41 : decode cX5_guessed 41 = .ok (.invokevirtual 195, 3) := by decide +kernel
theorem dX5_guessed_44 : decode cX5_guessed 44 = .ok (.aload_n 0, 1) := by decide +kernel
theorem dX5_guessed_45 : decode cX5_guessed 45 = .ok (.iload 4, 2) := by decide +kernel
theorem dX5_guessed_47 : decode cX5_guessed 47 = .ok (.iload 5, 2) := by decide +kernel
theorem dX5_guessed_49 : decode cX5_guessed 49 = .ok (.aload_n 1, 1) := by decide +kernel
theorem dX5_guessed_50 : decode cX5_guessed 50 = .ok (.iload_n 2, 1) := by decide +kernel
theorem dX5_guessed_51 : decode cX5_guessed 51 = .ok (.invokevirtual 198, 3) := by decide +kernel
theorem dX5_guessed_54 : decode cX5_guessed 54 = .ok (.ifCond .eq 15, 3) := by decide +kernel
theorem dX5_guessed_57 : decode cX5_guessed 57 = .ok (.aload_n 0, 1) := by decide +kernel
theorem dX5_guessed_58 : decode cX5_guessed 58 = .ok (.iload 4, 2) := by decide +kernel
theorem dX5_guessed_60 : decode cX5_guessed 60 = .ok (.iload 5, 2) := by decide +kernel
theorem dX5_guessed_62 : decode cX5_guessed 62 = .ok (.aload_n 1, 1) := by decide +kernel
theorem dX5_guessed_63 : decode cX5_guessed 63 = .ok (.iload_n 2, 1) := by decide +kernel
theorem dX5_guessed_64 : decode cX5_guessed 64 = .ok (.aload_n 3, 1) := by decide +kernel
theorem dX5_guessed_65 : decode cX5_guessed 65 = .ok (.invokevirtual 202, 3) := by decide +kernel
theorem dX5_guessed_68 : decode cX5_guessed 68 = .ok (.ireturn, 1) := by decide +kernel
theorem dX5_guessed_69 : decode cX5_guessed 69 = .ok (.iinc 5 1, 3) := by decide +kernel
theorem dX5_guessed_72 : decode cX5_guessed 72 = .ok (.goto (-60), 3) := by decide +kernel
theorem dX5_guessed_75 : decode cX5_guessed 75 = .ok (.iinc 4 1, 3) := by decide +kernel
theorem dX5_guessed_78 : decode cX5_guessed 78 = .ok (.goto (-75), 3) := by decide +kernel
theorem dX5_guessed_81 : decode cX5_guessed 81 = .ok (.iconst (-1), 1) := by decide +kernel
theorem dX5_guessed_82 : decode cX5_guessed 82 = .ok (.ireturn, 1) := by decide +kernel
theorem dX7_init_0 : decode cX7_init 0 = .ok (.aload_n 0, 1) := by decide +kernel
theorem dX7_init_1 : decode cX7_init 1 = .ok (.invokespecial 3, 3) := by decide +kernel
theorem dX7_init_4 : decode cX7_init 4 = .ok (.aload_n 0, 1) := by decide +kernel
theorem dX7_init_5 : decode cX7_init 5 = .ok (.aload_n 1, 1) := by decide +kernel
theorem dX7_init_6 : decode cX7_init 6 = .ok (.putfield 9, 3) := by decide +kernel
theorem dX7_init_9 : decode cX7_init 9 = .ok (.aload_n 0, 1) := by decide +kernel
theorem dX7_init_10 : decode cX7_init 10 = .ok (.sipush 2760, 3) := by decide +kernel
theorem dX7_init_13 : decode cX7_init 13 = .ok (.newarray .int, 2) := by decide +kernel
theorem dX7_init_15 : decode cX7_init 15 = .ok (.putfield 15, 3) := by decide +kernel
theorem dX7_init_18 : decode cX7_init 18 = .ok (.aload_n 0, 1) := by decide +kernel
theorem dX7_init_19 : decode cX7_init 19 = .ok (.bipush 60, 2) := by decide +kernel
theorem dX7_init_21 : decode cX7_init 21 = .ok (.newarray .int, 2) := by decide +kernel
theorem dX7_init_23 : decode cX7_init 23 = .ok (.putfield 19, 3) := by decide +kernel
theorem dX7_init_26 : decode cX7_init 26 = .ok (.aload_n 0, 1) := by decide +kernel
theorem dX7_init_27 : decode cX7_init 27 = .ok (.bipush 46, 2) := by decide +kernel
theorem dX7_init_29 : decode cX7_init 29 = .ok (.newarray .int, 2) := by decide +kernel
theorem dX7_init_31 : decode cX7_init 31 = .ok (.putfield 22, 3) := by decide +kernel
theorem dX7_init_34 : decode cX7_init 34 = .ok (.return_, 1) := by decide +kernel
theorem dX8_init_0 : decode cX8_init 0 = .ok (.aload_n 0, 1) := by decide +kernel
theorem dX8_init_1 : decode cX8_init 1 = .ok (.invokespecial 3, 3) := by decide +kernel
theorem dX8_init_4 : decode cX8_init 4 = .ok (.aload_n 0, 1) := by decide +kernel
theorem dX8_init_5 : decode cX8_init 5 = .ok (.aload_n 1, 1) := by decide +kernel
theorem dX8_init_6 : decode cX8_init 6 = .ok (.putfield 9, 3) := by decide +kernel
theorem dX8_init_9 : decode cX8_init 9 = .ok (.aload_n 0, 1) := by decide +kernel
theorem dX8_init_10 : decode cX8_init 10 = .ok (.aload_n 2, 1) := by decide +kernel
theorem dX8_init_11 : decode cX8_init 11 = .ok (.putfield 15, 3) := by decide +kernel
theorem dX8_init_14 : decode cX8_init 14 = .ok (.aload_n 0, 1) := by decide +kernel
theorem dX8_init_15 : decode cX8_init 15 = .ok (.aload_n 3, 1) := by decide +kernel
theorem dX8_init_16 : decode cX8_init 16 = .ok (.putfield 19, 3) := by decide +kernel
theorem dX8_init_19 : decode cX8_init 19 = .ok (.aload_n 0, 1) := by decide +kernel
theorem dX8_init_20 : decode cX8_init 20 = .ok (.aload 4, 2) := by decide +kernel
theorem dX8_init_22 : decode cX8_init 22 = .ok (.putfield 23, 3) := by decide +kernel
theorem dX8_init_25 : decode cX8_init 25 = .ok (.aload_n 0, 1) := by decide +kernel
theorem dX8_init_26 : decode cX8_init 26 = .ok (.aload 5, 2) := by decide +kernel
theorem dX8_init_28 : decode cX8_init 28 = .ok (.putfield 27, 3) := by decide +kernel
theorem dX8_init_31 : decode cX8_init 31 = .ok (.aload_n 0, 1) := by decide +kernel
theorem dX8_init_32 : decode cX8_init 32 = .ok (.aload 6, 2) := by decide +kernel
theorem dX8_init_34 : decode cX8_init 34 = .ok (.putfield 31, 3) := by decide +kernel
theorem dX8_init_37 : decode cX8_init 37 = .ok (.aload_n 0, 1) := by decide +kernel
theorem dX8_init_38 : decode cX8_init 38 = .ok (.iconst 4, 1) := by decide +kernel
theorem dX8_init_39 : decode cX8_init 39 = .ok (.newarray .int, 2) := by decide +kernel
theorem dX8_init_41 : decode cX8_init 41 = .ok (.putfield 35, 3) := by decide +kernel
theorem dX8_init_44 : decode cX8_init 44 = .ok (.aload_n 0, 1) := by decide +kernel
theorem dX8_init_45 : decode cX8_init 45 = .ok (.iconst 4, 1) := by decide +kernel
theorem dX8_init_46 : decode cX8_init 46 = .ok (.newarray .int, 2) := by decide +kernel
theorem dX8_init_48 : decode cX8_init 48 = .ok (.putfield 39, 3) := by decide +kernel
theorem dX8_init_51 : decode cX8_init 51 = .ok (.aload_n 0, 1) := by decide +kernel
theorem dX8_init_52 : decode cX8_init 52 = .ok (.iconst 4, 1) := by decide +kernel
theorem dX8_init_53 : decode cX8_init 53 = .ok (.newarray .int, 2) := by decide +kernel
theorem dX8_init_55 : decode cX8_init 55 = .ok (.putfield 42, 3) := by decide +kernel
theorem dX8_init_58 : decode cX8_init 58 = .ok (.aload_n 0, 1) := by decide +kernel
theorem dX8_init_59 : decode cX8_init 59 = .ok (.iconst 4, 1) := by decide +kernel
theorem dX8_init_60 : decode cX8_init 60 = .ok (.newarray .int, 2) := by decide +kernel
theorem dX8_init_62 : decode cX8_init 62 = .ok (.putfield 45, 3) := by decide +kernel
theorem dX8_init_65 : decode cX8_init 65 = .ok (.return_, 1) := by decide +kernel
theorem dX9_init_0 : decode cX9_init 0 = .ok (.aload_n 0, 1) := by decide +kernel
theorem dX9_init_1 : decode cX9_init 1 = .ok (.invokespecial 5, 3) := by decide +kernel
theorem dX9_init_4 : decode cX9_init 4 = .ok (.aload_n 0, 1) := by decide +kernel
theorem dX9_init_5 : decode cX9_init 5 = .ok (.aload_n 1, 1) := by decide +kernel
theorem dX9_init_6 : decode cX9_init 6 = .ok (.putfield 11, 3) := by decide +kernel
theorem dX9_init_9 : decode cX9_init 9 = .ok (.aload_n 0, 1) := by decide +kernel
theorem dX9_init_10 : decode cX9_init 10 = .ok (.aload_n 2, 1) := by decide +kernel
theorem dX9_init_11 : decode cX9_init 11 = .ok (.putfield 15, 3) := by decide +kernel
theorem dX9_init_14 : decode cX9_init 14 = .ok (.aload_n 0, 1) := by decide +kernel
theorem dX9_init_15 : decode cX9_init 15 = .ok (.aload_n 3, 1) := by decide +kernel
theorem dX9_init_16 : decode cX9_init 16 = .ok (.putfield 19, 3) := by decide +kernel
theorem dX9_init_19 : decode cX9_init 19 = .ok (.aload_n 0, 1) := by decide +kernel
theorem dX9_init_20 : decode cX9_init 20 = .ok (.aload 4, 2) := by decide +kernel
theorem dX9_init_22 : decode cX9_init 22 = .ok (.putfield 23, 3) := by decide +kernel
theorem dX9_init_25 : decode cX9_init 25 = .ok (.aload_n 0, 1) := by decide +kernel
theorem dX9_init_26 : decode cX9_init 26 = .ok (.sipush 3051, 3) := by decide +kernel
theorem dX9_init_29 : decode cX9_init 29 = .ok (.newarray .int, 2) := by decide +kernel
theorem dX9_init_31 : decode cX9_init 31 = .ok (.putfield 27, 3) := by decide +kernel
theorem dX9_init_34 : decode cX9_init 34 = .ok (.aload_n 0, 1) := by decide +kernel
theorem dX9_init_35 : decode cX9_init 35 = .ok (.bipush 9, 2) := by decide +kernel
theorem dX9_init_37 : decode cX9_init 37 = .ok (.newarray .int, 2) := by decide +kernel
theorem dX9_init_39 : decode cX9_init 39 = .ok (.putfield 31, 3) := by decide +kernel
theorem dX9_init_42 : decode cX9_init 42 = .ok (.lconst 1, 1) := by decide +kernel
theorem dX9_init_43 : decode cX9_init 43 = .ok (.lstore 5, 2) := by decide +kernel
theorem dX9_init_45 : decode cX9_init 45 = .ok (.iconst 0, 1) := by decide +kernel
theorem dX9_init_46 : decode cX9_init 46 = .ok (.istore 7, 2) := by decide +kernel
theorem dX9_init_48 : decode cX9_init 48 = .ok (.iload 7, 2) := by decide +kernel
theorem dX9_init_50 : decode cX9_init 50 = .ok (.aload_n 0, 1) := by decide +kernel
theorem dX9_init_51 : decode cX9_init 51 = .ok (.getfield 27, 3) := by decide +kernel
theorem dX9_init_54 : decode cX9_init 54 = .ok (.arraylength, 1) := by decide +kernel
theorem dX9_init_55 : decode cX9_init 55 = .ok (.if_icmp .ge 40, 3) := by decide +kernel
theorem dX9_init_58 : decode cX9_init 58 = .ok (.iload 7, 2) := by decide +kernel
theorem dX9_init_60 : decode cX9_init 60 = .ok (.ifCond .ne 7, 3) := by decide +kernel
theorem dX9_init_63 : decode cX9_init 63 = .ok (.lconst 1, 1) := by decide +kernel
theorem dX9_init_64 : decode cX9_init 64 = .ok (.goto 13, 3) := by decide +kernel
theorem dX9_init_67 : decode cX9_init 67 = .ok (.lload 5, 2) := by decide +kernel
theorem dX9_init_69 : decode cX9_init 69 = .ok (.iload 7, 2) := by decide +kernel
theorem dX9_init_71 : decode cX9_init 71 = .ok (.i2l, 1) := by decide +kernel
theorem dX9_init_72 : decode cX9_init 72 = .ok (.lmul, 1) := by decide +kernel
theorem dX9_init_73 : decode cX9_init 73 = .ok (.ldc2_w 34, 3) := by decide +kernel
theorem dX9_init_76 : decode cX9_init 76 = .ok (.lrem, 1) := by decide +kernel
theorem dX9_init_77 : decode cX9_init 77 = .ok (.lstore 5, 2) := by decide +kernel
theorem dX9_init_79 : decode cX9_init 79 = .ok (.aload_n 0, 1) := by decide +kernel
theorem dX9_init_80 : decode cX9_init 80 = .ok (.getfield 27, 3) := by decide +kernel
theorem dX9_init_83 : decode cX9_init 83 = .ok (.iload 7, 2) := by decide +kernel
theorem dX9_init_85 : decode cX9_init 85 = .ok (.lload 5, 2) := by decide +kernel
theorem dX9_init_87 : decode cX9_init 87 = .ok (.l2i, 1) := by decide +kernel
theorem dX9_init_88 : decode cX9_init 88 = .ok (.iastore, 1) := by decide +kernel
theorem dX9_init_89 : decode cX9_init 89 = .ok (.iinc 7 1, 3) := by decide +kernel
theorem dX9_init_92 : decode cX9_init 92 = .ok (.goto (-44), 3) := by decide +kernel
theorem dX9_init_95 : decode cX9_init 95 = .ok (.return_, 1) := by decide +kernel
theorem dX9_open_0 : decode cX9_open 0 = .ok (.aload_n 0, 1) := by decide +kernel
theorem dX9_open_1 : decode cX9_open 1 = .ok (.getfield 11, 3) := by decide +kernel
theorem dX9_open_4 : decode cX9_open 4 = .ok (.bipush 99, 2) := by decide +kernel
theorem dX9_open_6 : decode cX9_open 6 = .ok (.invokevirtual 36, 3) := by decide +kernel
theorem dX9_open_9 : decode cX9_open 9 = .ok (.istore_n 1, 1) := by decide +kernel
theorem dX9_open_10 : decode cX9_open 10 = .ok (.aload_n 0, 1) := by decide +kernel
theorem dX9_open_11 : decode cX9_open 11 = .ok (.getfield 11, 3) := by decide +kernel
theorem dX9_open_14 : decode cX9_open 14 = .ok (.iload_n 1, 1) := by decide +kernel
theorem dX9_open_15 : decode cX9_open 15 = .ok (.iconst 1, 1) := by decide +kernel
theorem dX9_open_16 : decode cX9_open 16 = .ok (.invokevirtual 42, 3) := by decide +kernel
theorem dX9_open_19 : decode cX9_open 19 = .ok (.aload_n 0, 1) := by decide +kernel
theorem dX9_open_20 : decode cX9_open 20 = .ok (.getfield 11, 3) := by decide +kernel
theorem dX9_open_23 : decode cX9_open 23 = .ok (.iload_n 1, 1) := by decide +kernel
theorem dX9_open_24 : decode cX9_open 24 = .ok (.iconst 1, 1) := by decide +kernel
theorem dX9_open_25 : decode cX9_open 25 = .ok (.iadd, 1) := by decide +kernel
theorem dX9_open_26 : decode cX9_open 26 = .ok (.iconst 1, 1) := by decide +kernel
theorem dX9_open_27 : decode cX9_open 27 = .ok (.invokevirtual 42, 3) := by decide +kernel
theorem dX9_open_30 : decode cX9_open 30 = .ok (.iload_n 1, 1) := by decide +kernel
theorem dX9_open_31 : decode cX9_open 31 = .ok (.ireturn, 1) := by decide +kernel
theorem dX9_ofNumber_0 : decode cX9_ofNumber 0 = .ok (.aload_n 0, 1) := by decide +kernel
theorem dX9_ofNumber_1 : decode cX9_ofNumber 1 = .ok (.invokevirtual 68, 3) := by decide +kernel
theorem dX9_ofNumber_4 : decode cX9_ofNumber 4 = .ok (.istore_n 2, 1) := by decide +kernel
theorem dX9_ofNumber_5 : decode cX9_ofNumber 5 = .ok (.aload_n 0, 1) := by decide +kernel
theorem dX9_ofNumber_6 : decode cX9_ofNumber 6 = .ok (.getfield 11, 3) := by decide +kernel
theorem dX9_ofNumber_9 : decode cX9_ofNumber 9 = .ok (.iload_n 1, 1) := by decide +kernel
theorem dX9_ofNumber_10 : decode cX9_ofNumber 10 = .ok (.invokevirtual 72, 3) := by decide +kernel
theorem dX9_ofNumber_13 : decode cX9_ofNumber 13 = .ok (.pop, 1) := by decide +kernel
theorem dX9_ofNumber_14 : decode cX9_ofNumber 14 = .ok (.aload_n 0, 1) := by decide +kernel
theorem dX9_ofNumber_15 : decode cX9_ofNumber 15 = .ok (.getfield 11, 3) := by decide +kernel
theorem dX9_ofNumber_18 : decode cX9_ofNumber 18 = .ok (.iconst 1, 1) := by decide +kernel
theorem dX9_ofNumber_19 : decode cX9_ofNumber 19 = .ok (.invokevirtual 72, 3) := by decide +kernel
theorem dX9_ofNumber_22 : decode cX9_ofNumber 22 = .ok (.pop, 1) := by decide +kernel
theorem dX9_ofNumber_23 : decode cX9_ofNumber 23 = .ok (.iload_n 2, 1) := by decide +kernel
theorem dX9_ofNumber_24 : decode cX9_ofNumber 24 = .ok (.ireturn, 1) := by decide +kernel
theorem dX9_ratioOf_0 : decode cX9_ratioOf 0 = .ok (.iload_n 1, 1) := by decide +kernel
theorem dX9_ratioOf_1 : decode cX9_ratioOf 1 = .ok (.bipush 99, 2) := by decide +kernel
theorem dX9_ratioOf_3 : decode cX9_ratioOf 3 = .ok (.iadd, 1) := by decide +kernel
theorem dX9_ratioOf_4 : decode cX9_ratioOf 4 = .ok (.ireturn, 1) := by decide +kernel
theorem dX9_save_0 : decode cX9_save 0 = .ok (.aload_n 2, 1) := by decide +kernel
theorem dX9_save_1 : decode cX9_save 1 = .ok (.invokevirtual 111, 3) := by decide +kernel
theorem dX9_save_4 : decode cX9_save 4 = .ok (.aload_n 2, 1) := by decide +kernel
theorem dX9_save_5 : decode cX9_save 5 = .ok (.aload_n 0, 1) := by decide +kernel
theorem dX9_save_6 : decode cX9_save 6 = .ok (.iload_n 1, 1) := by decide +kernel
theorem dX9_save_7 : decode cX9_save 7 = .ok (.invokevirtual 114, 3) := by decide +kernel
theorem dX9_save_10 : decode cX9_save 10 = .ok (.putfield 84, 3) := by decide +kernel
theorem dX9_save_13 : decode cX9_save 13 = .ok (.aload_n 2, 1) := by decide +kernel
theorem dX9_save_14 : decode cX9_save 14 = .ok (.aload_n 0, 1) := by decide +kernel
theorem dX9_save_15 : decode cX9_save 15 = .ok (.getfield 11, 3) := by decide +kernel
theorem dX9_save_18 : decode cX9_save 18 = .ok (.iload_n 1, 1) := by decide +kernel
theorem dX9_save_19 : decode cX9_save 19 = .ok (.invokevirtual 117, 3) := by decide +kernel
theorem dX9_save_22 : decode cX9_save 22 = .ok (.putfield 90, 3) := by decide +kernel
theorem dX9_save_25 : decode cX9_save 25 = .ok (.aload_n 2, 1) := by decide +kernel
theorem dX9_save_26 : decode cX9_save 26 = .ok (.aload_n 0, 1) := by decide +kernel
theorem dX9_save_27 : decode cX9_save 27 = .ok (.getfield 11, 3) := by decide +kernel
theorem dX9_save_30 : decode cX9_save 30 = .ok (.iload_n 1, 1) := by decide +kernel
theorem dX9_save_31 : decode cX9_save 31 = .ok (.iconst 1, 1) := by decide +kernel
theorem dX9_save_32 : decode cX9_save 32 = .ok (.iadd, 1) := by decide +kernel
theorem dX9_save_33 : decode cX9_save 33 = .ok (.invokevirtual 117, 3) := by decide +kernel
theorem dX9_save_36 : decode cX9_save 36 = .ok (.putfield 93, 3) := by decide +kernel
theorem dX9_save_39 : decode cX9_save 39 = .ok (.aload_n 2, 1) := by decide +kernel
theorem dX9_save_40 : decode cX9_save 40 = .ok (.aload_n 0, 1) := by decide +kernel
theorem dX9_save_41 : decode cX9_save 41 = .ok (.getfield 11, 3) := by decide +kernel
theorem dX9_save_44 : decode cX9_save 44 = .ok (.iload_n 1, 1) := by decide +kernel
theorem dX9_save_45 : decode cX9_save 45 = .ok (.iconst 2, 1) := by decide +kernel
theorem dX9_save_46 : decode cX9_save 46 = .ok (.iadd, 1) := by decide +kernel
theorem dX9_save_47 : decode cX9_save 47 = .ok (.invokevirtual 117, 3) := by decide +kernel
theorem dX9_save_50 : decode cX9_save 50 = .ok (.aload_n 2, 1) := by decide +kernel
theorem dX9_save_51 : decode cX9_save 51 = .ok (.getfield 98, 3) := by decide +kernel
theorem dX9_save_54 : decode cX9_save 54 = .ok (.arraylength, 1) := by decide +kernel
theorem dX9_save_55 : decode cX9_save 55 = .ok (.iconst 4, 1) := by decide +kernel
theorem dX9_save_56 : decode cX9_save 56 = .ok (.idiv, 1) := by decide +kernel
theorem dX9_save_57 : decode cX9_save 57 = .ok (.invokestatic 120, 3) := by decide +kernel
theorem dX9_save_60 : decode cX9_save 60 = .ok (.putfield 96, 3) := by decide +kernel
theorem dX9_save_63 : decode cX9_save 63 = .ok (.iconst 0, 1) := by decide +kernel
theorem dX9_save_64 : decode cX9_save 64 = .ok (.istore_n 3, 1) := by decide +kernel
theorem dX9_save_65 : decode cX9_save 65 = .ok (.iload_n 3, 1) := by decide +kernel
theorem dX9_save_66 : decode cX9_save 66 = .ok (.aload_n 2, 1) := by decide +kernel
theorem dX9_save_67 : decode cX9_save 67 = .ok (.getfield 96, 3) := by decide +kernel
theorem dX9_save_70 : decode cX9_save 70 = .ok (.iconst 4, 1) := by decide +kernel
theorem dX9_save_71 : decode cX9_save 71 = .ok (.imul, 1) := by decide +kernel
theorem dX9_save_72 : decode cX9_save 72 = .ok (.if_icmp .ge 36, 3) := by decide +kernel
theorem dX9_save_75 : decode cX9_save 75 = .ok (.iload_n 3, 1) := by decide +kernel
theorem dX9_save_76 : decode cX9_save 76 = .ok (.aload_n 2, 1) := by decide +kernel
theorem dX9_save_77 : decode cX9_save 77 = .ok (.getfield 98, 3) := by decide +kernel
theorem dX9_save_80 : decode cX9_save 80 = .ok (.arraylength, 1) := by decide +kernel
theorem dX9_save_81 : decode cX9_save 81 = .ok (.if_icmp .ge 27, 3) := by decide +kernel
theorem dX9_save_84 : decode cX9_save 84 = .ok (.aload_n 2, 1) := by decide +kernel
theorem dX9_save_85 : decode cX9_save 85 = .ok (.getfield 98, 3) := by decide +kernel
theorem dX9_save_88 : decode cX9_save 88 = .ok (.iload_n 3, 1) := by decide +kernel
theorem dX9_save_89 : decode cX9_save 89 = .ok (.aload_n 0, 1) := by decide +kernel
theorem dX9_save_90 : decode cX9_save 90 = .ok (.getfield 11, 3) := by decide +kernel
theorem dX9_save_93 : decode cX9_save 93 = .ok (.iload_n 1, 1) := by decide +kernel
theorem dX9_save_94 : decode cX9_save 94 = .ok (.iconst 3, 1) := by decide +kernel
theorem dX9_save_95 : decode cX9_save 95 = .ok (.iadd, 1) := by decide +kernel
theorem dX9_save_96 : decode cX9_save 96 = .ok (.iload_n 3, 1) := by decide +kernel
theorem dX9_save_97 : decode cX9_save 97 = .ok (.iadd, 1) := by decide +kernel
theorem dX9_save_98 : decode cX9_save 98 = .ok (.invokevirtual 117, 3) := by decide +kernel
theorem dX9_save_101 : decode cX9_save 101 = .ok (.iastore, 1) := by decide +kernel
theorem dX9_save_102 : decode cX9_save 102 = .ok (.iinc 3 1, 3) := by decide +kernel
theorem dX9_save_105 : decode cX9_save 105 = .ok (.goto (-40), 3) := by decide +kernel
theorem dX9_save_108 : decode cX9_save 108 = .ok (.aload_n 0, 1) := by decide +kernel
theorem dX9_save_109 : decode cX9_save 109 = .ok (.getfield 15, 3) := by decide +kernel
theorem dX9_save_112 : decode cX9_save 112 = .ok (.aload_n 0, 1) := by decide +kernel
theorem dX9_save_113 : decode cX9_save 113 = .ok (.iload_n 1, 1) := by decide +kernel
theorem dX9_save_114 : decode cX9_save 114 = .ok (.invokevirtual 46, 3) := by decide +kernel
theorem dX9_save_117 : decode cX9_save 117 = .ok (.aload_n 2, 1) := by decide +kernel
theorem dX9_save_118 : decode cX9_save 118 = .ok (.getfield 101, 3) := by decide +kernel
theorem dX9_save_121 : decode cX9_save 121 = .ok (.invokevirtual 126, 3) := by decide +kernel
theorem dX9_save_124 : decode cX9_save 124 = .ok (.aload_n 0, 1) := by decide +kernel
theorem dX9_save_125 : decode cX9_save 125 = .ok (.getfield 15, 3) := by decide +kernel
theorem dX9_save_128 : decode cX9_save 128 = .ok (.aload_n 0, 1) := by decide +kernel
theorem dX9_save_129 : decode cX9_save 129 = .ok (.getfield 23, 3) := by decide +kernel
theorem dX9_save_132 : decode cX9_save 132 = .ok (.aload_n 0, 1) := by decide +kernel
theorem dX9_save_133 : decode cX9_save 133 = .ok (.iload_n 1, 1) := by decide +kernel
theorem dX9_save_134 : decode cX9_save 134 = .ok (.invokevirtual 46, 3) := by decide +kernel
theorem dX9_save_137 : decode cX9_save 137 = .ok (.invokevirtual 52, 3) := by decide +kernel
theorem dX9_save_140 : decode cX9_save 140 = .ok (.aload_n 2, 1) := by decide +kernel
theorem dX9_save_141 : decode cX9_save 141 = .ok (.getfield 108, 3) := by decide +kernel
theorem dX9_save_144 : decode cX9_save 144 = .ok (.invokevirtual 126, 3) := by decide +kernel
theorem dX9_save_147 : decode cX9_save 147 = .ok (.aload_n 2, 1) := by decide +kernel
theorem dX9_save_148 : decode cX9_save 148 = .ok (.getfield 84, 3) := by decide +kernel
theorem dX9_save_151 : decode cX9_save 151 = .ok (.ireturn, 1) := by decide +kernel
theorem dX9_kindOf_0 : decode cX9_kindOf 0 = .ok (.aload_n 0, 1) := by decide +kernel
theorem dX9_kindOf_1 : decode cX9_kindOf 1 = .ok (.getfield 11, 3) := by decide +kernel
theorem dX9_kindOf_4 : decode cX9_kindOf 4 = .ok (.iload_n 1, 1) := by decide +kernel
theorem dX9_kindOf_5 : decode cX9_kindOf 5 = .ok (.invokevirtual 117, 3) := by decide +kernel
theorem dX9_kindOf_8 : decode cX9_kindOf 8 = .ok (.iconst 1, 1) := by decide +kernel
theorem dX9_kindOf_9 : decode cX9_kindOf 9 = .ok (.if_icmp .ne 34, 3) := by decide +kernel
theorem dX9_kindOf_12 : decode cX9_kindOf 12 = .ok (.aload_n 0, 1) := by decide +kernel
theorem dX9_kindOf_13 : decode cX9_kindOf 13 = .ok (.getfield 11, 3) := by decide +kernel
theorem dX9_kindOf_16 : decode cX9_kindOf 16 = .ok (.iload_n 1, 1) := by decide +kernel
theorem dX9_kindOf_17 : decode cX9_kindOf 17 = .ok (.iconst 1, 1) := by decide +kernel
theorem dX9_kindOf_18 : decode cX9_kindOf 18 = .ok (.iadd, 1) := by decide +kernel
theorem dX9_kindOf_19 : decode cX9_kindOf 19 = .ok (.invokevirtual 117, 3) := by decide +kernel
theorem dX9_kindOf_22 : decode cX9_kindOf 22 = .ok (.iconst 1, 1) := by decide +kernel
theorem dX9_kindOf_23 : decode cX9_kindOf 23 = .ok (.if_icmp .ne 20, 3) := by decide +kernel
theorem dX9_kindOf_26 : decode cX9_kindOf 26 = .ok (.aload_n 0, 1) := by decide +kernel
theorem dX9_kindOf_27 : decode cX9_kindOf 27 = .ok (.getfield 11, 3) := by decide +kernel
theorem dX9_kindOf_30 : decode cX9_kindOf 30 = .ok (.iload_n 1, 1) := by decide +kernel
theorem dX9_kindOf_31 : decode cX9_kindOf 31 = .ok (.iconst 2, 1) := by decide +kernel
theorem dX9_kindOf_32 : decode cX9_kindOf 32 = .ok (.iadd, 1) := by decide +kernel
theorem dX9_kindOf_33 : decode cX9_kindOf 33 = .ok (.invokevirtual 117, 3) := by decide +kernel
theorem dX9_kindOf_36 : decode cX9_kindOf 36 = .ok (.ifCond .ne 7, 3) := by decide +kernel
theorem dX9_kindOf_39 : decode cX9_kindOf 39 = .ok (.iconst 1, 1) := by decide +kernel
theorem dX9_kindOf_40 : decode cX9_kindOf 40 = .ok (.goto 4, 3) := by decide +kernel
theorem dX9_kindOf_43 : decode cX9_kindOf 43 = .ok (.iconst 2, 1) := by decide +kernel
theorem dX9_kindOf_44 : decode cX9_kindOf 44 = .ok (.ireturn, 1) := by decide +kernel
theorem dX10_init_0 : decode cX10_init 0 = .ok (.aload_n 0, 1) := by decide +kernel
theorem dX10_init_1 : decode cX10_init 1 = .ok (.invokespecial 3, 3) := by decide +kernel
theorem dX10_init_4 : decode cX10_init 4 = .ok (.aload_n 0, 1) := by decide +kernel
theorem dX10_init_5 : decode cX10_init 5 = .ok (.aload_n 1, 1) := by decide +kernel
theorem dX10_init_6 : decode cX10_init 6 = .ok (.putfield 9, 3) := by decide +kernel
theorem dX10_init_9 : decode cX10_init 9 = .ok (.aload_n 0, 1) := by decide +kernel
theorem dX10_init_10 : decode cX10_init 10 = .ok (.sipush 400, 3) := by decide +kernel
theorem dX10_init_13 : decode cX10_init 13 = .ok (.newarray .int, 2) := by decide +kernel
theorem dX10_init_15 : decode cX10_init 15 = .ok (.putfield 15, 3) := by decide +kernel
theorem dX10_init_18 : decode cX10_init 18 = .ok (.aload_n 0, 1) := by decide +kernel
theorem dX10_init_19 : decode cX10_init 19 = .ok (.sipush 4000, 3) := by decide +kernel
theorem dX10_init_22 : decode cX10_init 22 = .ok (.newarray .int, 2) := by decide +kernel
theorem dX10_init_24 : decode cX10_init 24 = .ok (.putfield 19, 3) := by decide +kernel
theorem dX10_init_27 : decode cX10_init 27 = .ok (.aload_n 0, 1) := by decide +kernel
theorem dX10_init_28 : decode cX10_init 28 = .ok (.sipush 4000, 3) := by decide +kernel
theorem dX10_init_31 : decode cX10_init 31 = .ok (.newarray .int, 2) := by decide +kernel
theorem dX10_init_33 : decode cX10_init 33 = .ok (.putfield 22, 3) := by decide +kernel
theorem dX10_init_36 : decode cX10_init 36 = .ok (.aload_n 0, 1) := by decide +kernel
theorem dX10_init_37 : decode cX10_init 37 = .ok (.sipush 1203, 3) := by decide +kernel
theorem dX10_init_40 : decode cX10_init 40 = .ok (.newarray .int, 2) := by decide +kernel
theorem dX10_init_42 : decode cX10_init 42 = .ok (.putfield 25, 3) := by decide +kernel
theorem dX10_init_45 : decode cX10_init 45 = .ok (.aload_n 0, 1) := by decide +kernel
theorem dX10_init_46 : decode cX10_init 46 = .ok (.sipush 802, 3) := by decide +kernel
theorem dX10_init_49 : decode cX10_init 49 = .ok (.newarray .int, 2) := by decide +kernel
theorem dX10_init_51 : decode cX10_init 51 = .ok (.putfield 28, 3) := by decide +kernel
theorem dX10_init_54 : decode cX10_init 54 = .ok (.aload_n 0, 1) := by decide +kernel
theorem dX10_init_55 : decode cX10_init 55 = .ok (.sipush 401, 3) := by decide +kernel
theorem dX10_init_58 : decode cX10_init 58 = .ok (.newarray .int, 2) := by decide +kernel
theorem dX10_init_60 : decode cX10_init 60 = .ok (.putfield 31, 3) := by decide +kernel
theorem dX10_init_63 : decode cX10_init 63 = .ok (.aload_n 0, 1) := by decide +kernel
theorem dX10_init_64 : decode cX10_init 64 = .ok (.iconst (-1), 1) := by decide +kernel
theorem dX10_init_65 : decode cX10_init 65 = .ok (.putfield 34, 3) := by decide +kernel
theorem dX10_init_68 : decode cX10_init 68 = .ok (.return_, 1) := by decide +kernel
theorem dX10_append_0 : decode cX10_append 0 = .ok (.iload_n 3, 1) := by decide +kernel
theorem dX10_append_1 : decode cX10_append 1 = .ok (.iconst 1, 1) := by decide +kernel
theorem dX10_append_2 : decode cX10_append 2 = .ok (.if_icmp .lt 21, 3) := by decide +kernel
theorem dX10_append_5 : decode cX10_append 5 = .ok (.iload_n 3, 1) := by decide +kernel
theorem dX10_append_6 : decode cX10_append 6 = .ok (.bipush 8, 2) := by decide +kernel
theorem dX10_append_8 : decode cX10_append 8 = .ok (.if_icmp .gt 15, 3) := by decide +kernel
theorem dX10_append_11 : decode cX10_append 11 = .ok (.iload_n 3, 1) := by decide +kernel
theorem dX10_append_12 : decode cX10_append 12 = .ok (.sipush 400, 3) := by decide +kernel
theorem dX10_append_15 : decode cX10_append 15 = .ok (.aload_n 0, 1) := by decide +kernel
theorem dX10_append_16 : decode cX10_append 16 = .ok (.getfield 38, 3) := by decide +kernel
theorem dX10_append_19 : decode cX10_append 19 = .ok (.isub, 1) := by decide +kernel
theorem dX10_append_20 : decode cX10_append 20 = .ok (.if_icmp .le 5, 3) := by decide +kernel
theorem dX10_append_23 : decode cX10_append 23 = .ok (.iconst (-1), 1) := by decide +kernel
theorem dX10_append_24 : decode cX10_append 24 = .ok (.ireturn, 1) := by decide +kernel
theorem dX10_append_25 : decode cX10_append 25 = .ok (.iload_n 3, 1) := by decide +kernel
theorem dX10_append_26 : decode cX10_append 26 = .ok (.iconst 1, 1) := by decide +kernel
theorem dX10_append_27 : decode cX10_append 27 = .ok (.isub, 1) := by decide +kernel
theorem dX10_append_28 : decode cX10_append 28 = .ok (.istore 4, 2) := by decide +kernel
theorem dX10_append_30 : decode cX10_append 30 = .ok (.iload 4, 2) := by decide +kernel
theorem dX10_append_32 : decode cX10_append 32 = .ok (.ifCond .lt 57, 3) := by decide +kernel
theorem dX10_append_35 : decode cX10_append 35 = .ok (.aload_n 0, 1) := by decide +kernel
theorem dX10_append_36 : decode cX10_append 36 = .ok (.getfield 38, 3) := by decide +kernel
theorem dX10_append_39 : decode cX10_append 39 = .ok (.ifCond .lt 44, 3) := by decide +kernel
theorem dX10_append_42 : decode cX10_append 42 = .ok (.aload_n 0, 1) := by decide +kernel
theorem dX10_append_43 : decode cX10_append 43 = .ok (.getfield 38, 3) := by decide +kernel
theorem dX10_append_46 : decode cX10_append 46 = .ok (.sipush 400, 3) := by decide +kernel
theorem dX10_append_49 : decode cX10_append 49 = .ok (.if_icmp .ge 34, 3) := by decide +kernel
theorem dX10_append_52 : decode cX10_append 52 = .ok (.aload_n 0, 1) := by decide +kernel
theorem dX10_append_53 : decode cX10_append 53 = .ok (.getfield 15, 3) := by decide +kernel
theorem dX10_append_56 : decode cX10_append 56 = .ok (.aload_n 0, 1) := by decide +kernel
theorem dX10_append_57 : decode cX10_append 57 = .ok (.getfield 38, 3) := by decide +kernel
theorem dX10_append_60 : decode cX10_append 60 = .ok (.lload_n 1, 1) := by decide +kernel
theorem dX10_append_61 : decode cX10_append 61 = .ok (.bipush 8, 2) := by decide +kernel
theorem dX10_append_63 : decode cX10_append 63 = .ok (.iload 4, 2) := by decide +kernel
theorem dX10_append_65 : decode cX10_append 65 = .ok (.imul, 1) := by decide +kernel
theorem dX10_append_66 : decode cX10_append 66 = .ok (.lshr, 1) := by decide +kernel
theorem dX10_append_67 : decode cX10_append 67 = .ok (.ldc2_w 41, 3) := by decide +kernel
theorem dX10_append_70 : decode cX10_append 70 = .ok (.land, 1) := by decide +kernel
theorem dX10_append_71 : decode cX10_append 71 = .ok (.l2i, 1) := by decide +kernel
theorem dX10_append_72 : decode cX10_append 72 = .ok (.iastore, 1) := by decide +kernel
theorem dX10_append_73 : decode cX10_append 73 = .ok (.aload_n 0, 1) := by decide +kernel
theorem dX10_append_74 : decode cX10_append 74 = .ok (.dup, 1) := by decide +kernel
theorem dX10_append_75 : decode cX10_append 75 = .ok (.getfield 38, 3) := by decide +kernel
theorem dX10_append_78 : decode cX10_append 78 = .ok (.iconst 1, 1) := by decide +kernel
theorem dX10_append_79 : decode cX10_append 79 = .ok (.iadd, 1) := by decide +kernel
theorem dX10_append_80 : decode cX10_append 80 = .ok (.putfield 38, 3) := by decide +kernel
theorem dX10_append_83 : decode cX10_append 83 = .ok (.iinc 4 (-1), 3) := by decide +kernel
theorem dX10_append_86 : decode cX10_append 86 = .ok (.goto (-56), 3) := by decide +kernel
theorem dX10_append_89 : decode cX10_append 89 = .ok (.aload_n 0, 1) := by decide +kernel
theorem dX10_append_90 : decode cX10_append 90 = .ok (.getfield 38, 3) := by decide +kernel
theorem dX10_append_93 : decode cX10_append 93 = .ok (.ireturn, 1) := by decide +kernel
theorem dX10_compile_0 : decode cX10_compile 0 = .ok (.aload_n 0, 1) := by decide +kernel
theorem dX10_compile_1 : decode cX10_compile 1 = .ok (.iconst 0, 1) := by decide +kernel
theorem dX10_compile_2 : decode cX10_compile 2 = .ok (.putfield 46, 3) := by decide +kernel
theorem dX10_compile_5 : decode cX10_compile 5 = .ok (.aload_n 0, 1) := by decide +kernel
theorem dX10_compile_6 : decode cX10_compile 6 = .ok (.iconst 0, 1) := by decide +kernel
theorem dX10_compile_7 : decode cX10_compile 7 = .ok (.putfield 49, 3) := by decide +kernel
theorem dX10_compile_10 : decode cX10_compile 10 = .ok (.aload_n 0, 1) := by decide +kernel
theorem dX10_compile_11 : decode cX10_compile 11 = .ok (.iconst 0, 1) := by decide +kernel
theorem dX10_compile_12 : decode cX10_compile 12 = .ok (.putfield 52, 3) := by decide +kernel
theorem dX10_compile_15 : decode cX10_compile 15 = .ok (.aload_n 0, 1) := by decide +kernel
theorem dX10_compile_16 : decode cX10_compile 16 = .ok (.iconst 0, 1) := by decide +kernel
theorem dX10_compile_17 : decode cX10_compile 17 = .ok (.putfield 55, 3) := by decide +kernel
theorem dX10_compile_20 : decode cX10_compile 20 = .ok (.aload_n 0, 1) := by decide +kernel
theorem dX10_compile_21 : decode cX10_compile 21 = .ok (.iconst 0, 1) := by decide +kernel
theorem dX10_compile_22 : decode cX10_compile 22 = .ok (.putfield 58, 3) := by decide +kernel
theorem dX10_compile_25 : decode cX10_compile 25 = .ok (.iconst 0, 1) := by decide +kernel
theorem dX10_compile_26 : decode cX10_compile 26 = .ok (.istore_n 1, 1) := by decide +kernel
theorem dX10_compile_27 : decode cX10_compile 27 = .ok (.iconst 0, 1) := by decide +kernel
theorem dX10_compile_28 : decode cX10_compile 28 = .ok (.istore_n 2, 1) := by decide +kernel
theorem dX10_compile_29 : decode cX10_compile 29 = .ok (.iload_n 2, 1) := by decide +kernel
theorem dX10_compile_30 : decode cX10_compile 30 = .ok (.sipush 400, 3) := by decide +kernel
theorem dX10_compile_33 : decode cX10_compile 33 = .ok (.if_icmp .gt 117, 3) := by decide +kernel
theorem dX10_compile_36 : decode cX10_compile 36 = .ok (.iload_n 1, 1) := by decide +kernel
theorem dX10_compile_37 : decode cX10_compile 37 = .ok (.aload_n 0, 1) := by decide +kernel
theorem dX10_compile_38 : decode cX10_compile 38 = .ok (.getfield 38, 3) := by decide +kernel
theorem dX10_compile_41 : decode cX10_compile 41 = .ok (.if_icmp .ge 109, 3) := by decide +kernel
theorem dX10_compile_44 : decode cX10_compile 44 = .ok (.iload_n 1, 1) := by decide +kernel
theorem dX10_compile_45 : decode cX10_compile 45 = .ok (.sipush 400, 3) := by decide +kernel
theorem dX10_compile_48 : decode cX10_compile 48 = .ok (.if_icmp .ge 102, 3) := by decide +kernel
theorem dX10_compile_51 : decode cX10_compile 51 = .ok (.aload_n 0, 1) := by decide +kernel
theorem dX10_compile_52 : decode cX10_compile 52 = .ok (.getfield 58, 3) := by decide +kernel
theorem dX10_compile_55 : decode cX10_compile 55 = .ok (.bipush 6, 2) := by decide +kernel
theorem dX10_compile_57 : decode cX10_compile 57 = .ok (.if_icmp .eq 93, 3) := by decide +kernel
theorem dX10_compile_60 : decode cX10_compile 60 = .ok (.aload_n 0, 1) := by decide +kernel
theorem dX10_compile_61 : decode cX10_compile 61 = .ok (.getfield 15, 3) := by decide +kernel
theorem dX10_compile_64 : decode cX10_compile 64 = .ok (.iload_n 1, 1) := by decide +kernel
theorem dX10_compile_65 : decode cX10_compile 65 = .ok (.iaload, 1) := by decide +kernel
theorem dX10_compile_66 : decode cX10_compile 66 = .ok (.istore_n 3, 1) := by decide +kernel
theorem dX10_compile_67 : decode cX10_compile 67 = .ok (.aload_n 0, 1) := by decide +kernel
theorem dX10_compile_68 : decode cX10_compile 68 = .ok (.getfield 58, 3) := by decide +kernel
theorem dX10_compile_71 : decode cX10_compile 71 = .ok (.ifCond .eq 11, 3) := by decide +kernel
theorem dX10_compile_74 : decode cX10_compile 74 = .ok (.aload_n 0, 1) := by decide +kernel
theorem dX10_compile_75 : decode cX10_compile 75 = .ok (.getfield 58, 3) := by decide +kernel
theorem dX10_compile_78 : decode cX10_compile 78 = .ok (.iconst 1, 1) := by decide +kernel
theorem dX10_compile_79 : decode cX10_compile 79 = .ok (.if_icmp .ne 41, 3) := by decide +kernel
theorem dX10_compile_82 : decode cX10_compile 82 = .ok (.iload_n 3, 1) := by decide +kernel
theorem dX10_compile_83 : decode cX10_compile 83 = .ok (.bipush 48, 2) := by decide +kernel
theorem dX10_compile_85 : decode cX10_compile 85 = .ok (.if_icmp .lt 20, 3) := by decide +kernel
theorem dX10_compile_88 : decode cX10_compile 88 = .ok (.iload_n 3, 1) := by decide +kernel
theorem dX10_compile_89 : decode cX10_compile 89 = .ok (.bipush 57, 2) := by decide +kernel
theorem dX10_compile_91 : decode cX10_compile 91 = .ok (.if_icmp .gt 14, 3) := by decide +kernel
theorem dX10_compile_94 : decode cX10_compile 94 = .ok (.aload_n 0, 1) := by decide +kernel
theorem dX10_compile_95 : decode cX10_compile 95 = .ok (.iload_n 1, 1) := by decide +kernel
theorem dX10_compile_96 : decode cX10_compile 96 = .ok (.invokevirtual 61, 3) := by decide +kernel
theorem dX10_compile_99 : decode cX10_compile 99 = .ok (.iconst 1, 1) := by decide +kernel
theorem dX10_compile_100 : decode cX10_compile 100 = .ok (.isub, 1) := by decide +kernel
theorem dX10_compile_101 : decode cX10_compile 101 = .ok (.istore_n 1, 1) := by decide +kernel
theorem dX10_compile_102 : decode cX10_compile 102 = .ok (.goto 30, 3) := by decide +kernel
theorem dX10_compile_105 : decode cX10_compile 105 = .ok (.iload_n 3, 1) := by decide +kernel
theorem dX10_compile_106 : decode cX10_compile 106 = .ok (.bipush 32, 2) := by decide +kernel
theorem dX10_compile_108 : decode cX10_compile 108 = .ok (.if_icmp .eq 24, 3) := by decide +kernel
theorem dX10_compile_111 : decode cX10_compile 111 = .ok (.aload_n 0, 1) := by decide +kernel
theorem dX10_compile_112 : decode cX10_compile 112 = .ok (.iload_n 3, 1) := by decide +kernel
theorem dX10_compile_113 : decode cX10_compile 113 = .ok (.iload_n 1, 1) := by decide +kernel
theorem dX10_compile_114 : decode cX10_compile 114 = .ok (.invokevirtual 65, 3) := by decide +kernel
theorem dX10_compile_117 : decode cX10_compile 117 = .ok (.goto 15, 3) := by decide +kernel
theorem dX10_compile_120 : decode cX10_compile 120 = .ok (.iload_n 3, 1) := by decide +kernel
theorem dX10_compile_121 : decode cX10_compile 121 = .ok (.bipush 32, 2) := by decide +kernel
theorem dX10_compile_123 : decode cX10_compile 123 = .ok (.if_icmp .eq 9, 3) := by decide +kernel
theorem dX10_compile_126 : decode cX10_compile 126 = .ok (.aload_n 0, 1) := by decide +kernel
theorem dX10_compile_127 : decode cX10_compile 127 = .ok (.iload_n 3, 1) := by decide +kernel
theorem dX10_compile_128 : decode cX10_compile 128 = .ok (.iload_n 1, 1) := by decide +kernel
theorem dX10_compile_129 : decode cX10_compile 129 = .ok (.invokevirtual 69, 3) := by decide +kernel
theorem dX10_compile_132 : decode cX10_compile 132 = .ok (.aload_n 0, 1) := by decide +kernel
theorem dX10_compile_133 : decode cX10_compile 133 = .ok (.getfield 58, 3) := by decide +kernel
theorem dX10_compile_136 : decode cX10_compile 136 = .ok (.bipush 6, 2) := by decide +kernel
theorem dX10_compile_138 : decode cX10_compile 138 = .ok (.if_icmp .eq 6, 3) := by decide +kernel
theorem dX10_compile_141 : decode cX10_compile 141 = .ok (.iinc 1 1, 3) := by decide +kernel
theorem dX10_compile_144 : decode cX10_compile 144 = .ok (.iinc 2 1, 3) := by decide +kernel
theorem dX10_compile_147 : decode cX10_compile 147 = .ok (.goto (-118), 3) := by decide +kernel
theorem dX10_compile_150 : decode cX10_compile 150 = .ok (.aload_n 0, 1) := by decide +kernel
theorem dX10_compile_151 : decode cX10_compile 151 = .ok (.getfield 58, 3) := by decide +kernel
theorem dX10_compile_154 : decode cX10_compile 154 = .ok (.bipush 6, 2) := by decide +kernel
theorem dX10_compile_156 : decode cX10_compile 156 = .ok (.if_icmp .eq 26, 3) := by decide +kernel
theorem dX10_compile_159 : decode cX10_compile 159 = .ok (.aload_n 0, 1) := by decide +kernel
theorem dX10_compile_160 : decode cX10_compile 160 = .ok (.getfield 52, 3) := by decide +kernel
theorem dX10_compile_163 : decode cX10_compile 163 = .ok (.ifCond .gt 19, 3) := by decide +kernel
theorem dX10_compile_166 : decode cX10_compile 166 = .ok (.aload_n 0, 1) := by decide +kernel
theorem dX10_compile_167 : decode cX10_compile 167 = .ok (.getfield 58, 3) := by decide +kernel
theorem dX10_compile_170 : decode cX10_compile 170 = .ok (.iconst 2, 1) := by decide +kernel
theorem dX10_compile_171 : decode cX10_compile 171 = .ok (.if_icmp .lt 11, 3) := by decide +kernel
theorem dX10_compile_174 : decode cX10_compile 174 = .ok (.aload_n 0, 1) := by decide +kernel
theorem dX10_compile_175 : decode cX10_compile 175 = .ok (.getfield 58, 3) := by decide +kernel
theorem dX10_compile_178 : decode cX10_compile 178 = .ok (.iconst 4, 1) := by decide +kernel
theorem dX10_compile_179 : decode cX10_compile 179 = .ok (.if_icmp .le 10, 3) := by decide +kernel
theorem dX10_compile_182 : decode cX10_compile 182 = .ok (.aload_n 0, 1) := by decide +kernel
theorem dX10_compile_183 : decode cX10_compile 183 = .ok (.iload_n 1, 1) := by decide +kernel
theorem dX10_compile_184 : decode cX10_compile 184 = .ok (.putfield 34, 3) := by decide +kernel
theorem dX10_compile_187 : decode cX10_compile 187 = .ok (.iconst 1, 1) := by decide +kernel
theorem dX10_compile_188 : decode cX10_compile 188 = .ok (.ireturn, 1) := by decide +kernel
theorem dX10_compile_189 : decode cX10_compile 189 = .ok (.aload_n 0, 1) := by decide +kernel
theorem dX10_compile_190 : decode cX10_compile 190 = .ok (.iconst 3, 1) := by decide +kernel
theorem dX10_compile_191 : decode cX10_compile 191 = .ok (.invokevirtual 72, 3) := by decide +kernel
theorem dX10_compile_194 : decode cX10_compile 194 = .ok (.iconst 0, 1) := by decide +kernel
theorem dX10_compile_195 : decode cX10_compile 195 = .ok (.ireturn, 1) := by decide +kernel
theorem dX10_emptyTape_0 : decode cX10_emptyTape 0 = .ok (.aload_n 0, 1) := by decide +kernel
theorem dX10_emptyTape_1 : decode cX10_emptyTape 1 = .ok (.iconst 0, 1) := by decide +kernel
theorem dX10_emptyTape_2 : decode cX10_emptyTape 2 = .ok (.putfield 38, 3) := by decide +kernel
theorem dX10_emptyTape_5 : decode cX10_emptyTape 5 = .ok (.return_, 1) := by decide +kernel
theorem dX10_retype_0 : decode cX10_retype 0 = .ok (.aload_n 0, 1) := by decide +kernel
theorem dX10_retype_1 : decode cX10_retype 1 = .ok (.getfield 43, 3) := by decide +kernel
theorem dX10_retype_4 : decode cX10_retype 4 = .ok (.sipush 400, 3) := by decide +kernel
theorem dX10_retype_7 : decode cX10_retype 7 = .ok (.if_icmp .le 6, 3) := by decide +kernel
theorem dX10_retype_10 : decode cX10_retype 10 = .ok (.bipush (-2), 2) := by decide +kernel
theorem dX10_retype_12 : decode cX10_retype 12 = .ok (.ireturn, 1) := by decide +kernel
theorem dX10_retype_13 : decode cX10_retype 13 = .ok (.iconst 0, 1) := by decide +kernel
theorem dX10_retype_14 : decode cX10_retype 14 = .ok (.istore_n 1, 1) := by decide +kernel
theorem dX10_retype_15 : decode cX10_retype 15 = .ok (.iload_n 1, 1) := by decide +kernel
theorem dX10_retype_16 : decode cX10_retype 16 = .ok (.aload_n 0, 1) := by decide +kernel
theorem dX10_retype_17 : decode cX10_retype 17 = .ok (.getfield 43, 3) := by decide +kernel
theorem dX10_retype_20 : decode cX10_retype 20 = .ok (.if_icmp .ge 28, 3) := by decide +kernel
theorem dX10_retype_23 : decode cX10_retype 23 = .ok (.iload_n 1, 1) := by decide +kernel
theorem dX10_retype_24 : decode cX10_retype 24 = .ok (.sipush 400, 3) := by decide +kernel
theorem dX10_retype_27 : decode cX10_retype 27 = .ok (.if_icmp .ge 21, 3) := by decide +kernel
theorem dX10_retype_30 : decode cX10_retype 30 = .ok (.aload_n 0, 1) := by decide +kernel
theorem dX10_retype_31 : decode cX10_retype 31 = .ok (.getfield 15, 3) := by decide +kernel
theorem dX10_retype_34 : decode cX10_retype 34 = .ok (.iload_n 1, 1) := by decide +kernel
theorem dX10_retype_35 : decode cX10_retype 35 = .ok (.aload_n 0, 1) := by decide +kernel
theorem dX10_retype_36 : decode cX10_retype 36 = .ok (.getfield 19, 3) := by decide +kernel
theorem dX10_retype_39 : decode cX10_retype 39 = .ok (.iload_n 1, 1) := by decide +kernel
theorem dX10_retype_40 : decode cX10_retype 40 = .ok (.iaload, 1) := by decide +kernel
theorem dX10_retype_41 : decode cX10_retype 41 = .ok (.iastore, 1) := by decide +kernel
theorem dX10_retype_42 : decode cX10_retype 42 = .ok (.iinc 1 1, 3) := by decide +kernel
theorem dX10_retype_45 : decode cX10_retype 45 = .ok (.goto (-30), 3) := by decide +kernel
theorem dX10_retype_48 : decode cX10_retype 48 = .ok (.aload_n 0, 1) := by decide +kernel
theorem dX10_retype_49 : decode cX10_retype 49 = .ok (.aload_n 0, 1) := by decide +kernel
theorem dX10_retype_50 : decode cX10_retype 50 = .ok (.getfield 43, 3) := by decide +kernel
theorem dX10_retype_53 : decode cX10_retype 53 = .ok (.putfield 38, 3) := by decide +kernel
theorem dX10_retype_56 : decode cX10_retype 56 = .ok (.aload_n 0, 1) := by decide +kernel
theorem dX10_retype_57 : decode cX10_retype 57 = .ok (.getfield 38, 3) := by decide +kernel
theorem dX10_retype_60 : decode cX10_retype 60 = .ok (.ireturn, 1) := by decide +kernel
theorem dX10_inscribed_0 : decode cX10_inscribed 0 = .ok (.iload_n 1, 1) := by decide +kernel
theorem dX10_inscribed_1 : decode cX10_inscribed 1 = .ok (.ifCond .lt 27, 3) := by decide +kernel
theorem dX10_inscribed_4 : decode cX10_inscribed 4 = .ok (.iload_n 1, 1) := by decide +kernel
theorem dX10_inscribed_5 : decode cX10_inscribed 5 = .ok (.aload_n 0, 1) := by decide +kernel
theorem dX10_inscribed_6 : decode cX10_inscribed 6 = .ok (.getfield 43, 3) := by decide +kernel
theorem dX10_inscribed_9 : decode cX10_inscribed 9 = .ok (.if_icmp .ge 19, 3) := by decide +kernel
theorem dX10_inscribed_12 : decode cX10_inscribed 12 = .ok (.iload_n 1, 1) := by decide +kernel
theorem dX10_inscribed_13 : decode cX10_inscribed 13 = .ok (.sipush 4000, 3) := by decide +kernel
theorem dX10_inscribed_16 : decode cX10_inscribed 16 = .ok (.if_icmp .ge 12, 3) := by decide +kernel
theorem dX10_inscribed_19 : decode cX10_inscribed 19 = .ok (.aload_n 0, 1) := by decide +kernel
theorem dX10_inscribed_20 : decode cX10_inscribed 20 = .ok (.getfield 19, 3) := by decide +kernel
theorem dX10_inscribed_23 : decode cX10_inscribed 23 = .ok (.iload_n 1, 1) := by decide +kernel
theorem dX10_inscribed_24 : decode cX10_inscribed 24 = .ok (.iaload, 1) := by decide +kernel
theorem dX10_inscribed_25 : decode cX10_inscribed 25 = .ok (.goto 4, 3) := by decide +kernel
theorem dX10_inscribed_28 : decode cX10_inscribed 28 = .ok (.iconst (-1), 1) := by decide +kernel
theorem dX10_inscribed_29 : decode cX10_inscribed 29 = .ok (.ireturn, 1) := by decide +kernel
theorem dX11_init_0 : decode cX11_init 0 = .ok (.aload_n 0, 1) := by decide +kernel
theorem dX11_init_1 : decode cX11_init 1 = .ok (.invokespecial 1, 3) := by decide +kernel
theorem dX11_init_4 : decode cX11_init 4 = .ok (.aload_n 0, 1) := by decide +kernel
theorem dX11_init_5 : decode cX11_init 5 = .ok (.bipush 12, 2) := by decide +kernel
theorem dX11_init_7 : decode cX11_init 7 = .ok (.anewarray 9, 3) := by decide +kernel
theorem dX11_init_10 : decode cX11_init 10 = .ok (.putfield 11, 3) := by decide +kernel
theorem dX11_init_13 : decode cX11_init 13 = .ok (.iconst 0, 1) := by decide +kernel
theorem dX11_init_14 : decode cX11_init 14 = .ok (.istore_n 1, 1) := by decide +kernel
theorem dX11_init_15 : decode cX11_init 15 = .ok (.iload_n 1, 1) := by decide +kernel
theorem dX11_init_16 : decode cX11_init 16 = .ok (.bipush 12, 2) := by decide +kernel
theorem dX11_init_18 : decode cX11_init 18 = .ok (.if_icmp .ge 22, 3) := by decide +kernel
theorem dX11_init_21 : decode cX11_init 21 = .ok (.aload_n 0, 1) := by decide +kernel
theorem dX11_init_22 : decode cX11_init 22 = .ok (.getfield 11, 3) := by decide +kernel
theorem dX11_init_25 : decode cX11_init 25 = .ok (.iload_n 1, 1) := by decide +kernel
theorem dX11_init_26 : decode cX11_init 26 = .ok (.new 9, 3) := by decide +kernel
theorem dX11_init_29 : decode cX11_init 29 = .ok (.dup, 1) := by decide +kernel
theorem dX11_init_30 : decode cX11_init 30 = .ok (.invokespecial 15, 3) := by decide +kernel
theorem dX11_init_33 : decode cX11_init 33 = .ok (.aastore, 1) := by decide +kernel
theorem dX11_init_34 : decode cX11_init 34 = .ok (.iinc 1 1, 3) := by decide +kernel
theorem dX11_init_37 : decode cX11_init 37 = .ok (.goto (-22), 3) := by decide +kernel
theorem dX11_init_40 : decode cX11_init 40 = .ok (.new 16, 3) := by decide +kernel
theorem dX11_init_43 : decode cX11_init 43 = .ok (.dup, 1) := by decide +kernel
theorem dX11_init_44 : decode cX11_init 44 = .ok (.invokespecial 18, 3) := by decide +kernel
theorem dX11_init_47 : decode cX11_init 47 = .ok (.astore_n 1, 1) := by decide +kernel
theorem dX11_init_48 : decode cX11_init 48 = .ok (.new 19, 3) := by decide +kernel
theorem dX11_init_51 : decode cX11_init 51 = .ok (.dup, 1) := by decide +kernel
theorem dX11_init_52 : decode cX11_init 52 = .ok (.aload_n 1, 1) := by decide +kernel
theorem dX11_init_53 : decode cX11_init 53 = .ok (.invokespecial 21, 3) := by decide +kernel
theorem dX11_init_56 : decode cX11_init 56 = .ok (.astore_n 2, 1) := by decide +kernel
theorem dX11_init_57 : decode cX11_init 57 = .ok (.new 24, 3) := by decide +kernel
theorem dX11_init_60 : decode cX11_init 60 = .ok (.dup, 1) := by decide +kernel
theorem dX11_init_61 : decode cX11_init 61 = .ok (.aload_n 1, 1) := by decide +kernel
theorem dX11_init_62 : decode cX11_init 62 = .ok (.aload_n 2, 1) := by decide +kernel
theorem dX11_init_63 : decode cX11_init 63 = .ok (.invokespecial 26, 3) := by decide +kernel
theorem dX11_init_66 : decode cX11_init 66 = .ok (.astore_n 3, 1) := by decide +kernel
theorem dX11_init_67 : decode cX11_init 67 = .ok (.new 29, 3) := by decide +kernel
theorem dX11_init_70 : decode cX11_init 70 = .ok (.dup, 1) := by decide +kernel
theorem dX11_init_71 : decode cX11_init 71 = .ok (.aload_n 1, 1) := by decide +kernel
theorem dX11_init_72 : decode cX11_init 72 = .ok (.aload_n 2, 1) := by decide +kernel
theorem dX11_init_73 : decode cX11_init 73 = .ok (.aload_n 3, 1) := by decide +kernel
theorem dX11_init_74 : decode cX11_init 74 = .ok (.invokespecial 31, 3) := by decide +kernel
theorem dX11_init_77 : decode cX11_init 77 = .ok (.astore 4, 2) := by decide +kernel
theorem dX11_init_79 : decode cX11_init 79 = .ok (.new 34, 3) := by decide +kernel
theorem dX11_init_82 : decode cX11_init 82 = .ok (.dup, 1) := by decide +kernel
theorem dX11_init_83 : decode cX11_init 83 = .ok (.aload_n 1, 1) := by decide +kernel
theorem dX11_init_84 : decode cX11_init 84 = .ok (.aload_n 2, 1) := by decide +kernel
theorem dX11_init_85 : decode cX11_init 85 = .ok (.aload_n 3, 1) := by decide +kernel
theorem dX11_init_86 : decode cX11_init 86 = .ok (.aload 4, 2) := by decide +kernel
theorem dX11_init_88 : decode cX11_init 88 = .ok (.invokespecial 36, 3) := by decide +kernel
theorem dX11_init_91 : decode cX11_init 91 = .ok (.astore 5, 2) := by decide +kernel
theorem dX11_init_93 : decode cX11_init 93 = .ok (.new 39, 3) := by decide +kernel
theorem dX11_init_96 : decode cX11_init 96 = .ok (.dup, 1) := by decide +kernel
theorem dX11_init_97 : decode cX11_init 97 = .ok (.aload_n 1, 1) := by decide +kernel
theorem dX11_init_98 : decode cX11_init 98 = .ok (.invokespecial 41, 3) := by decide +kernel
theorem dX11_init_101 : decode cX11_init 101 = .ok (.astore 6, 2) := by decide +kernel
theorem dX11_init_103 : decode cX11_init 103 = .ok (.aload_n 0, 1) := by decide +kernel
theorem dX11_init_104 : decode cX11_init 104 = .ok (.aload_n 1, 1) := by decide +kernel
theorem dX11_init_105 : decode cX11_init 105 = .ok (.putfield 42, 3) := by decide +kernel
theorem dX11_init_108 : decode cX11_init 108 = .ok (.aload_n 0, 1) := by decide +kernel
theorem dX11_init_109 : decode cX11_init 109 = .ok (.aload_n 2, 1) := by decide +kernel
theorem dX11_init_110 : decode cX11_init 110 = .ok (.putfield 46, 3) := by decide +kernel
theorem dX11_init_113 : decode cX11_init 113 = .ok (.aload_n 0, 1) := by decide +kernel
theorem dX11_init_114 : decode cX11_init 114 = .ok (.aload_n 3, 1) := by decide +kernel
theorem dX11_init_115 : decode cX11_init 115 = .ok (.putfield 50, 3) := by decide +kernel
theorem dX11_init_118 : decode cX11_init 118 = .ok (.aload_n 0, 1) := by decide +kernel
theorem dX11_init_119 : decode cX11_init 119 = .ok (.aload 4, 2) := by decide +kernel
theorem dX11_init_121 : decode cX11_init 121 = .ok (.putfield 54, 3) := by decide +kernel
theorem dX11_init_124 : decode cX11_init 124 = .ok (.aload_n 0, 1) := by decide +kernel
theorem dX11_init_125 : decode cX11_init 125 = .ok (.aload 5, 2) := by decide +kernel
theorem dX11_init_127 : decode cX11_init 127 = .ok (.putfield 58, 3) := by decide +kernel
theorem dX11_init_130 : decode cX11_init 130 = .ok (.aload_n 0, 1) := by decide +kernel
theorem dX11_init_131 : decode cX11_init 131 = .ok (.new 62, 3) := by decide +kernel
theorem dX11_init_134 : decode cX11_init 134 = .ok (.dup, 1) := by decide +kernel
theorem dX11_init_135 : decode cX11_init 135 = .ok (.aload 5, 2) := by decide +kernel
theorem dX11_init_137 : decode cX11_init 137 = .ok (.invokespecial 64, 3) := by decide +kernel
theorem dX11_init_140 : decode cX11_init 140 = .ok (.putfield 67, 3) := by decide +kernel
theorem dX11_init_143 : decode cX11_init 143 = .ok (.aload_n 0, 1) := by decide +kernel
theorem dX11_init_144 : decode cX11_init 144 = .ok (.new 71, 3) := by decide +kernel
theorem dX11_init_147 : decode cX11_init 147 = .ok (.dup, 1) := by decide +kernel
theorem dX11_init_148 : decode cX11_init 148 = .ok (.aload_n 1, 1) := by decide +kernel
theorem dX11_init_149 : decode cX11_init 149 = .ok (.aload_n 2, 1) := by decide +kernel
theorem dX11_init_150 : decode cX11_init 150 = .ok (.aload_n 3, 1) := by decide +kernel
theorem dX11_init_151 : decode cX11_init 151 = .ok (.aload 4, 2) := by decide +kernel
theorem dX11_init_153 : decode cX11_init 153 = .ok (.aload 5, 2) := by decide +kernel
theorem dX11_init_155 : decode cX11_init 155 = .ok (.aload 6, 2) := by decide +kernel
theorem dX11_init_157 : decode cX11_init 157 = .ok (.invokespecial 73, 3) := by decide +kernel
theorem dX11_init_160 : decode cX11_init 160 = .ok (.putfield 76, 3) := by decide +kernel
theorem dX11_init_163 : decode cX11_init 163 = .ok (.aload_n 0, 1) := by decide +kernel
theorem dX11_init_164 : decode cX11_init 164 = .ok (.new 80, 3) := by decide +kernel
theorem dX11_init_167 : decode cX11_init 167 = .ok (.dup, 1) := by decide +kernel
theorem dX11_init_168 : decode cX11_init 168 = .ok (.aload_n 1, 1) := by decide +kernel
theorem dX11_init_169 : decode cX11_init 169 = .ok (.aload_n 2, 1) := by decide +kernel
theorem dX11_init_170 : decode cX11_init 170 = .ok (.aload_n 3, 1) := by decide +kernel
theorem dX11_init_171 : decode cX11_init 171 = .ok (.aload 6, 2) := by decide +kernel
theorem dX11_init_173 : decode cX11_init 173 = .ok (.invokespecial 82, 3) := by decide +kernel
theorem dX11_init_176 : decode cX11_init 176 = .ok (.putfield 85, 3) := by decide +kernel
theorem dX11_init_179 : decode cX11_init 179 = .ok (.aload_n 0, 1) := by decide +kernel
theorem dX11_init_180 : decode cX11_init 180 = .ok (.bipush 60, 2) := by decide +kernel
theorem dX11_init_182 : decode cX11_init 182 = .ok (.newarray .int, 2) := by decide +kernel
theorem dX11_init_184 : decode cX11_init 184 = .ok (.putfield 89, 3) := by decide +kernel
theorem dX11_init_187 : decode cX11_init 187 = .ok (.aload_n 0, 1) := by decide +kernel
theorem dX11_init_188 : decode cX11_init 188 = .ok (.iconst 0, 1) := by decide +kernel
theorem dX11_init_189 : decode cX11_init 189 = .ok (.putfield 93, 3) := by decide +kernel
theorem dX11_init_192 : decode cX11_init 192 = .ok (.aload_n 0, 1) := by decide +kernel
theorem dX11_init_193 : decode cX11_init 193 = .ok (.bipush 24, 2) := by decide +kernel
theorem dX11_init_195 : decode cX11_init 195 = .ok (.newarray .int, 2) := by decide +kernel
theorem dX11_init_197 : decode cX11_init 197 = .ok (.putfield 97, 3) := by decide +kernel
theorem dX11_init_200 : decode cX11_init 200 = .ok (.aload_n 0, 1) := by decide +kernel
theorem dX11_init_201 : decode cX11_init 201 = .ok (.iconst 0, 1) := by decide +kernel
theorem dX11_init_202 : decode cX11_init 202 = .ok (.putfield 100, 3) := by decide +kernel
theorem dX11_init_205 : decode cX11_init 205 = .ok (.return_, 1) := by decide +kernel
theorem dX11_slotAt_0 : decode cX11_slotAt 0 = .ok (.iload_n 1, 1) := by decide +kernel
theorem dX11_slotAt_1 : decode cX11_slotAt 1 = .ok (.ifCond .lt 18, 3) := by decide +kernel
theorem dX11_slotAt_4 : decode cX11_slotAt 4 = .ok (.iload_n 1, 1) := by decide +kernel
theorem dX11_slotAt_5 : decode cX11_slotAt 5 = .ok (.bipush 12, 2) := by decide +kernel
theorem dX11_slotAt_7 : decode cX11_slotAt 7 = .ok (.if_icmp .ge 12, 3) := by decide +kernel
theorem dX11_slotAt_10 : decode cX11_slotAt 10 = .ok (.aload_n 0, 1) := by decide +kernel
theorem dX11_slotAt_11 : decode cX11_slotAt 11 = .ok (.getfield 11, 3) := by decide +kernel
theorem dX11_slotAt_14 : decode cX11_slotAt 14 = .ok (.iload_n 1, 1) := by decide +kernel
theorem dX11_slotAt_15 : decode cX11_slotAt 15 = .ok (.aaload, 1) := by decide +kernel
theorem dX11_slotAt_16 : decode cX11_slotAt 16 = .ok (.goto 4, 3) := by decide +kernel
theorem dX11_slotAt_19 : decode cX11_slotAt 19 = .ok (.aconst_null, 1) := by decide +kernel
theorem dX11_slotAt_20 : decode cX11_slotAt 20 = .ok (.areturn, 1) := by decide +kernel
theorem dX11_isRatioOrTerm_0 : decode cX11_isRatioOrTerm 0 = .ok (.aload_n 0, 1) := by decide +kernel
theorem dX11_isRatioOrTerm_1 : decode cX11_isRatioOrTerm 1 = .ok (.getfield 191, 3) := by decide +kernel
theorem dX11_isRatioOrTerm_4 : decode cX11_isRatioOrTerm 4 = .ok (.iconst 1, 1) := by decide +kernel
theorem dX11_isRatioOrTerm_5 : decode cX11_isRatioOrTerm 5 = .ok (.if_icmp .eq 11, 3) := by decide +kernel
theorem dX11_isRatioOrTerm_8 : decode cX11_isRatioOrTerm 8 = .ok (.aload_n 0, 1) := by decide +kernel
theorem dX11_isRatioOrTerm_9 : decode cX11_isRatioOrTerm 9 = .ok (.getfield 191, 3) := by decide +kernel
theorem dX11_isRatioOrTerm_12 : decode cX11_isRatioOrTerm 12 = .ok (.iconst 2, 1) := by decide +kernel
theorem dX11_isRatioOrTerm_13 : decode cX11_isRatioOrTerm 13 = .ok (.if_icmp .ne 7, 3) := by decide +kernel
theorem dX11_isRatioOrTerm_16 : decode cX11_isRatioOrTerm 16 = .ok (.iconst 1, 1) := by decide +kernel
theorem dX11_isRatioOrTerm_17 : decode cX11_isRatioOrTerm 17 = .ok (.goto 4, 3) := by decide +kernel
theorem dX11_isRatioOrTerm_20 : decode cX11_isRatioOrTerm 20 = .ok (.iconst 0, 1) := by decide +kernel
theorem dX11_isRatioOrTerm_21 : decode cX11_isRatioOrTerm 21 = .ok (.ireturn, 1) := by decide +kernel
theorem dX11_isFactor_0 : decode cX11_isFactor 0 = .ok (.aload_n 0, 1) := by decide +kernel
theorem dX11_isFactor_1 : decode cX11_isFactor 1 = .ok (.invokestatic 234, 3) := by decide +kernel
theorem dX11_isFactor_4 : decode cX11_isFactor 4 = .ok (.ifCond .eq 21, 3) := by decide +kernel
theorem dX11_isFactor_7 : decode cX11_isFactor 7 = .ok (.aload_n 0, 1) := by decide +kernel
theorem dX11_isFactor_8 : decode cX11_isFactor 8 = .ok (.invokevirtual 237, 3) := by decide +kernel
theorem dX11_isFactor_11 : decode cX11_isFactor 11 = .ok (.ifCond .ne 14, 3) := by decide +kernel
theorem dX11_isFactor_14 : decode cX11_isFactor 14 = .ok (.aload_n 0, 1) := by decide +kernel
theorem dX11_isFactor_15 : decode cX11_isFactor 15 = .ok (.invokevirtual 431, 3) := by decide +kernel
theorem dX11_isFactor_18 : decode cX11_isFactor 18 = .ok (.ifCond .eq 7, 3) := by decide +kernel
theorem dX11_isFactor_21 : decode cX11_isFactor 21 = .ok (.iconst 1, 1) := by decide +kernel
theorem dX11_isFactor_22 : decode cX11_isFactor 22 = .ok (.goto 4, 3) := by decide +kernel
theorem dX11_isFactor_25 : decode cX11_isFactor 25 = .ok (.iconst 0, 1) := by decide +kernel
theorem dX11_isFactor_26 : decode cX11_isFactor 26 = .ok (.ireturn, 1) := by decide +kernel
theorem dX11_isPolynomial_0 : decode cX11_isPolynomial 0 = .ok (.aload_n 0, 1) := by decide +kernel
theorem dX11_isPolynomial_1 : decode cX11_isPolynomial 1 = .ok (.getfield 191, 3) := by decide +kernel
theorem dX11_isPolynomial_4 : decode cX11_isPolynomial 4 = .ok (.iconst 1, 1) := by decide +kernel
theorem dX11_isPolynomial_5 : decode cX11_isPolynomial 5 = .ok (.if_icmp .ne 14, 3) := by decide +kernel
theorem dX11_isPolynomial_8 : decode cX11_isPolynomial 8 = .ok (.aload_n 0, 1) := by decide +kernel
theorem dX11_isPolynomial_9 : decode cX11_isPolynomial 9 = .ok (.invokevirtual 428, 3) := by decide +kernel
theorem dX11_isPolynomial_12 : decode cX11_isPolynomial 12 = .ok (.ifCond .eq 7, 3) := by decide +kernel
theorem dX11_isPolynomial_15 : decode cX11_isPolynomial 15 = .ok (.iconst 1, 1) := by decide +kernel
theorem dX11_isPolynomial_16 : decode cX11_isPolynomial 16 = .ok (.goto 4, 3) := by decide +kernel
theorem dX11_isPolynomial_19 : decode cX11_isPolynomial 19 = .ok (.iconst 0, 1) := by decide +kernel
theorem dX11_isPolynomial_20 : decode cX11_isPolynomial 20 = .ok (.ireturn, 1) := by decide +kernel
theorem dX11_keep_0 : decode cX11_keep 0 = .ok (.iload_n 1, 1) := by decide +kernel
theorem dX11_keep_1 : decode cX11_keep 1 = .ok (.ifCond .lt 13, 3) := by decide +kernel
theorem dX11_keep_4 : decode cX11_keep 4 = .ok (.aload_n 0, 1) := by decide +kernel
theorem dX11_keep_5 : decode cX11_keep 5 = .ok (.getfield 42, 3) := by decide +kernel
theorem dX11_keep_8 : decode cX11_keep 8 = .ok (.getfield 163, 3) := by decide +kernel
theorem dX11_keep_11 : decode cX11_keep 11 = .ok (.ifCond .eq 8, 3) := by decide +kernel
theorem dX11_keep_14 : decode cX11_keep 14 = .ok (.bipush (-2), 2) := by decide +kernel
theorem dX11_keep_16 : decode cX11_keep 16 = .ok (.goto 12, 3) := by decide +kernel
theorem dX11_keep_19 : decode cX11_keep 19 = .ok (.aload_n 0, 1) := by decide +kernel
theorem dX11_keep_20 : decode cX11_keep 20 = .ok (.getfield 58, 3) := by decide +kernel
theorem dX11_keep_23 : decode cX11_keep 23 = .ok (.iload_n 1, 1) := by decide +kernel
theorem dX11_keep_24 : decode cX11_keep 24 = .ok (.aload_n 2, 1) := by decide +kernel
theorem dX11_keep_25 : decode cX11_keep 25 = .ok (.invokevirtual 173, 3) := by decide +kernel
theorem dX11_keep_28 : decode cX11_keep 28 = .ok (.ireturn, 1) := by decide +kernel
theorem dX11_type_0 : decode cX11_type 0 = .ok (.aload_n 0, 1) := by decide +kernel
theorem dX11_type_1 : decode cX11_type 1 = .ok (.getfield 67, 3) := by decide +kernel
theorem dX11_type_4 : decode cX11_type 4 = .ok (.lload_n 1, 1) := by decide +kernel
theorem dX11_type_5 : decode cX11_type 5 = .ok (.iload_n 3, 1) := by decide +kernel
theorem dX11_type_6 : decode cX11_type 6 = .ok (.invokevirtual 103, 3) := by decide +kernel
theorem dX11_type_9 : decode cX11_type 9 = .ok (.ireturn, 1) := by decide +kernel
theorem dX11_read_0 : decode cX11_read 0 = .ok (.aload_n 0, 1) := by decide +kernel
theorem dX11_read_1 : decode cX11_read 1 = .ok (.iload_n 1, 1) := by decide +kernel
theorem dX11_read_2 : decode cX11_read 2 = .ok (.invokevirtual 107, 3) := by decide +kernel
theorem dX11_read_5 : decode cX11_read 5 = .ok (.astore_n 2, 1) := by decide +kernel
theorem dX11_read_6 : decode cX11_read 6 = .ok (.aload_n 2, 1) := by decide +kernel
theorem dX11_read_7 : decode cX11_read 7 = .ok (.ifnonnull 5, 3) := by decide +kernel
theorem dX11_read_10 : decode cX11_read 10 = .ok (.iconst (-1), 1) := by decide +kernel
theorem dX11_read_11 : decode cX11_read 11 = .ok (.ireturn, 1) := by decide +kernel
theorem dX11_read_12 : decode cX11_read 12 = .ok (.aload_n 0, 1) := by decide +kernel
theorem dX11_read_13 : decode cX11_read 13 = .ok (.getfield 42, 3) := by decide +kernel
theorem dX11_read_16 : decode cX11_read 16 = .ok (.invokevirtual 111, 3) := by decide +kernel
theorem dX11_read_19 : decode cX11_read 19 = .ok (.aload_n 0, 1) := by decide +kernel
theorem dX11_read_20 : decode cX11_read 20 = .ok (.getfield 67, 3) := by decide +kernel
theorem dX11_read_23 : decode cX11_read 23 = .ok (.invokevirtual 114, 3) := by decide +kernel
theorem dX11_read_26 : decode cX11_read 26 = .ok (.istore_n 3, 1) := by decide +kernel
theorem dX11_read_27 : decode cX11_read 27 = .ok (.iconst 0, 1) := by decide +kernel
theorem dX11_read_28 : decode cX11_read 28 = .ok (.istore 4, 2) := by decide +kernel
theorem dX11_read_30 : decode cX11_read 30 = .ok (.iload 4, 2) := by decide +kernel
theorem dX11_read_32 : decode cX11_read 32 = .ok (.aload_n 0, 1) := by decide +kernel
theorem dX11_read_33 : decode cX11_read 33 = .ok (.getfield 67, 3) := by decide +kernel
theorem dX11_read_36 : decode cX11_read 36 = .ok (.getfield 118, 3) := by decide +kernel
theorem dX11_read_39 : decode cX11_read 39 = .ok (.if_icmp .ge 301, 3) := by decide +kernel
theorem dX11_read_42 : decode cX11_read 42 = .ok (.iload_n 3, 1) := by decide +kernel
theorem dX11_read_43 : decode cX11_read 43 = .ok (.ifCond .ne 297, 3) := by decide +kernel
theorem dX11_read_46 : decode cX11_read 46 = .ok (.aload_n 0, 1) := by decide +kernel
theorem dX11_read_47 : decode cX11_read 47 = .ok (.getfield 67, 3) := by decide +kernel
theorem dX11_read_50 : decode cX11_read 50 = .ok (.iload 4, 2) := by decide +kernel
theorem dX11_read_52 : decode cX11_read 52 = .ok (.invokevirtual 121, 3) := by decide +kernel
theorem dX11_read_55 : decode cX11_read 55 = .ok (.istore_n 3, 1) := by decide +kernel
theorem dX11_read_56 : decode cX11_read 56 = .ok (.iload_n 3, 1) := by decide +kernel
theorem dX11_read_57 : decode cX11_read 57 = .ok (.ifCond .eq 6, 3) := by decide +kernel
theorem dX11_read_60 : decode cX11_read 60 = .ok (.goto 280, 3) := by decide +kernel
theorem dX11_read_63 : decode cX11_read 63 = .ok (.aload_n 0, 1) := by decide +kernel
theorem dX11_read_64 : decode cX11_read 64 = .ok (.getfield 67, 3) := by decide +kernel
theorem dX11_read_67 : decode cX11_read 67 = .ok (.getfield 125, 3) := by decide +kernel
theorem dX11_read_70 : decode cX11_read 70 = .ok (.istore 5, 2) := by decide +kernel
theorem dX11_read_72 : decode cX11_read 72 = .ok (.aload_n 0, 1) := by decide +kernel
theorem dX11_read_73 : decode cX11_read 73 = .ok (.getfield 67, 3) := by decide +kernel
theorem dX11_read_76 : decode cX11_read 76 = .ok (.getfield 128, 3) := by decide +kernel
theorem dX11_read_79 : decode cX11_read 79 = .ok (.istore 6, 2) := by decide +kernel
theorem dX11_read_81 : decode cX11_read 81 = .ok (.aload_n 0, 1) := by decide +kernel
theorem dX11_read_82 : decode cX11_read 82 = .ok (.getfield 67, 3) := by decide +kernel
theorem dX11_read_85 : decode cX11_read 85 = .ok (.getfield 131, 3) := by decide +kernel
theorem dX11_read_88 : decode cX11_read 88 = .ok (.tableswitch 192 1 10 #[136, 192, 56, 56, 164, 89, 89, 122, 136, 178], 56) := by decide +kernel
theorem dX11_read_144 : decode cX11_read 144 = .ok (.aload_n 0, 1) := by decide +kernel
theorem dX11_read_145 : decode cX11_read 145 = .ok (.getfield 58, 3) := by decide +kernel
theorem dX11_read_148 : decode cX11_read 148 = .ok (.iload 5, 2) := by decide +kernel
theorem dX11_read_150 : decode cX11_read 150 = .ok (.iload 6, 2) := by decide +kernel
theorem dX11_read_152 : decode cX11_read 152 = .ok (.aload_n 0, 1) := by decide +kernel
theorem dX11_read_153 : decode cX11_read 153 = .ok (.getfield 67, 3) := by decide +kernel
theorem dX11_read_156 : decode cX11_read 156 = .ok (.getfield 131, 3) := by decide +kernel
theorem dX11_read_159 : decode cX11_read 159 = .ok (.iconst 3, 1) := by decide +kernel
theorem dX11_read_160 : decode cX11_read 160 = .ok (.if_icmp .ne 7, 3) := by decide +kernel
theorem dX11_read_163 : decode cX11_read 163 = .ok (.iconst 1, 1) := by decide +kernel
theorem dX11_read_164 : decode cX11_read 164 = .ok (.goto 5, 3) := by decide +kernel
theorem dX11_read_167 : decode cX11_read 167 = .ok (.ldc 134, 2) := by decide +kernel
theorem dX11_read_169 : decode cX11_read 169 = .ok (.invokevirtual 135, 3) := by decide +kernel
theorem dX11_read_172 : decode cX11_read 172 = .ok (.istore 7, 2) := by decide +kernel
theorem dX11_read_174 : decode cX11_read 174 = .ok (.goto 150, 3) := by decide +kernel
theorem dX11_read_177 : decode cX11_read 177 = .ok (.aload_n 0, 1) := by decide +kernel
theorem dX11_read_178 : decode cX11_read 178 = .ok (.getfield 58, 3) := by decide +kernel
theorem dX11_read_181 : decode cX11_read 181 = .ok (.iload 5, 2) := by decide +kernel
theorem dX11_read_183 : decode cX11_read 183 = .ok (.iload 6, 2) := by decide +kernel
theorem dX11_read_185 : decode cX11_read 185 = .ok (.aload_n 0, 1) := by decide +kernel
theorem dX11_read_186 : decode cX11_read 186 = .ok (.getfield 67, 3) := by decide +kernel
theorem dX11_read_189 : decode cX11_read 189 = .ok (.getfield 131, 3) := by decide +kernel
theorem dX11_read_192 : decode cX11_read 192 = .ok (.bipush 6, 2) := by decide +kernel
theorem dX11_read_194 : decode cX11_read 194 = .ok (.if_icmp .ne 7, 3) := by decide +kernel
theorem dX11_read_197 : decode cX11_read 197 = .ok (.iconst 1, 1) := by decide +kernel
theorem dX11_read_198 : decode cX11_read 198 = .ok (.goto 4, 3) := by decide +kernel
theorem dX11_read_201 : decode cX11_read 201 = .ok (.iconst (-1), 1) := by decide +kernel
theorem dX11_read_202 : decode cX11_read 202 = .ok (.invokevirtual 139, 3) := by decide +kernel
theorem dX11_read_205 : decode cX11_read 205 = .ok (.istore 7, 2) := by decide +kernel
theorem dX11_read_207 : decode cX11_read 207 = .ok (.goto 117, 3) := by decide +kernel
theorem dX11_read_210 : decode cX11_read 210 = .ok (.aload_n 0, 1) := by decide +kernel
theorem dX11_read_211 : decode cX11_read 211 = .ok (.getfield 58, 3) := by decide +kernel
theorem dX11_read_214 : decode cX11_read 214 = .ok (.iload 5, 2) := by decide +kernel
theorem dX11_read_216 : decode cX11_read 216 = .ok (.invokevirtual 142, 3) := by decide +kernel
theorem dX11_read_219 : decode cX11_read 219 = .ok (.istore 7, 2) := by decide +kernel
theorem dX11_read_221 : decode cX11_read 221 = .ok (.goto 103, 3) := by decide +kernel
theorem dX11_read_224 : decode cX11_read 224 = .ok (.aload_n 0, 1) := by decide +kernel
theorem dX11_read_225 : decode cX11_read 225 = .ok (.getfield 58, 3) := by decide +kernel
theorem dX11_read_228 : decode cX11_read 228 = .ok (.aload_n 0, 1) := by decide +kernel
theorem dX11_read_229 : decode cX11_read 229 = .ok (.getfield 67, 3) := by decide +kernel
theorem dX11_read_232 : decode cX11_read 232 = .ok (.getfield 131, 3) := by decide +kernel
theorem dX11_read_235 : decode cX11_read 235 = .ok (.iconst 1, 1) := by decide +kernel
theorem dX11_read_236 : decode cX11_read 236 = .ok (.if_icmp .ne 7, 3) := by decide +kernel
theorem dX11_read_239 : decode cX11_read 239 = .ok (.iconst 3, 1) := by decide +kernel
theorem dX11_read_240 : decode cX11_read 240 = .ok (.goto 4, 3) := by decide +kernel
theorem dX11_read_243 : decode cX11_read 243 = .ok (.iconst 1, 1) := by decide +kernel
theorem dX11_read_244 : decode cX11_read 244 = .ok (.invokevirtual 145, 3) := by decide +kernel
theorem dX11_read_247 : decode cX11_read 247 = .ok (.istore 7, 2) := by decide +kernel
theorem dX11_read_249 : decode cX11_read 249 = .ok (.goto 75, 3) := by decide +kernel
theorem dX11_read_252 : decode cX11_read 252 = .ok (.aload_n 0, 1) := by decide +kernel
theorem dX11_read_253 : decode cX11_read 253 = .ok (.getfield 58, 3) := by decide +kernel
theorem dX11_read_256 : decode cX11_read 256 = .ok (.iload 5, 2) := by decide +kernel
theorem dX11_read_258 : decode cX11_read 258 = .ok (.invokevirtual 148, 3) := by decide +kernel
theorem dX11_read_261 : decode cX11_read 261 = .ok (.istore 7, 2) := by decide +kernel
theorem dX11_read_263 : decode cX11_read 263 = .ok (.goto 61, 3) := by decide +kernel
theorem dX11_read_266 : decode cX11_read 266 = .ok (.aload_n 0, 1) := by decide +kernel
theorem dX11_read_267 : decode cX11_read 267 = .ok (.getfield 58, 3) := by decide +kernel
theorem dX11_read_270 : decode cX11_read 270 = .ok (.iload 6, 2) := by decide +kernel
theorem dX11_read_272 : decode cX11_read 272 = .ok (.invokevirtual 151, 3) := by decide +kernel
theorem dX11_read_275 : decode cX11_read 275 = .ok (.istore 7, 2) := by decide +kernel
theorem dX11_read_277 : decode cX11_read 277 = .ok (.goto 47, 3) := by decide +kernel
theorem dX11_read_280 : decode cX11_read 280 = .ok (.aload_n 0, 1) := by decide +kernel
theorem dX11_read_281 : decode cX11_read 281 = .ok (.getfield 58, 3) := by decide +kernel
theorem dX11_read_284 : decode cX11_read 284 = .ok (.aload_n 0, 1) := by decide +kernel
theorem dX11_read_285 : decode cX11_read 285 = .ok (.getfield 67, 3) := by decide +kernel
theorem dX11_read_288 : decode cX11_read 288 = .ok (.getfield 131, 3) := by decide +kernel
theorem dX11_read_291 : decode cX11_read 291 = .ok (.bipush 11, 2) := by decide +kernel
theorem dX11_read_293 : decode cX11_read 293 = .ok (.if_icmp .ne 7, 3) := by decide +kernel
theorem dX11_read_296 : decode cX11_read 296 = .ok (.iconst 1, 1) := by decide +kernel
theorem dX11_read_297 : decode cX11_read 297 = .ok (.goto 4, 3) := by decide +kernel
theorem dX11_read_300 : decode cX11_read 300 = .ok (.iconst 0, 1) := by decide +kernel
theorem dX11_read_301 : decode cX11_read 301 = .ok (.aload_n 0, 1) := by decide +kernel
theorem dX11_read_302 : decode cX11_read 302 = .ok (.getfield 67, 3) := by decide +kernel
theorem dX11_read_305 : decode cX11_read 305 = .ok (.getfield 131, 3) := by decide +kernel
theorem dX11_read_308 : decode cX11_read 308 = .ok (.bipush 12, 2) := by decide +kernel
theorem dX11_read_310 : decode cX11_read 310 = .ok (.if_icmp .ne 7, 3) := by decide +kernel
theorem dX11_read_313 : decode cX11_read 313 = .ok (.iconst 1, 1) := by decide +kernel
theorem dX11_read_314 : decode cX11_read 314 = .ok (.goto 4, 3) := by decide +kernel
theorem dX11_read_317 : decode cX11_read 317 = .ok (.iconst 0, 1) := by decide +kernel
theorem dX11_read_318 : decode cX11_read 318 = .ok (.iconst 0, 1) := by decide +kernel
theorem dX11_read_319 : decode cX11_read 319 = .ok (.invokevirtual 154, 3) := by decide +kernel
theorem dX11_read_322 : decode cX11_read 322 = .ok (.istore 7, 2) := by decide +kernel
theorem dX11_read_324 : decode cX11_read 324 = .ok (.aload_n 0, 1) := by decide +kernel
theorem dX11_read_325 : decode cX11_read 325 = .ok (.getfield 67, 3) := by decide +kernel
theorem dX11_read_328 : decode cX11_read 328 = .ok (.iload 7, 2) := by decide +kernel
theorem dX11_read_330 : decode cX11_read 330 = .ok (.invokevirtual 157, 3) := by decide +kernel
theorem dX11_read_333 : decode cX11_read 333 = .ok (.istore_n 3, 1) := by decide +kernel
theorem dX11_read_334 : decode cX11_read 334 = .ok (.iinc 4 1, 3) := by decide +kernel
theorem dX11_read_337 : decode cX11_read 337 = .ok (.goto (-307), 3) := by decide +kernel
theorem dX11_read_340 : decode cX11_read 340 = .ok (.aload_n 0, 1) := by decide +kernel
theorem dX11_read_341 : decode cX11_read 341 = .ok (.getfield 67, 3) := by decide +kernel
theorem dX11_read_344 : decode cX11_read 344 = .ok (.invokevirtual 160, 3) := by decide +kernel
theorem dX11_read_347 : decode cX11_read 347 = .ok (.iload_n 3, 1) := by decide +kernel
theorem dX11_read_348 : decode cX11_read 348 = .ok (.ifCond .ne 15, 3) := by decide +kernel
theorem dX11_read_351 : decode cX11_read 351 = .ok (.aload_n 0, 1) := by decide +kernel
theorem dX11_read_352 : decode cX11_read 352 = .ok (.getfield 42, 3) := by decide +kernel
theorem dX11_read_355 : decode cX11_read 355 = .ok (.getfield 163, 3) := by decide +kernel
theorem dX11_read_358 : decode cX11_read 358 = .ok (.ifCond .eq 5, 3) := by decide +kernel
theorem dX11_read_361 : decode cX11_read 361 = .ok (.iconst 4, 1) := by decide +kernel
theorem dX11_read_362 : decode cX11_read 362 = .ok (.istore_n 3, 1) := by decide +kernel
theorem dX11_read_363 : decode cX11_read 363 = .ok (.iload_n 3, 1) := by decide +kernel
theorem dX11_read_364 : decode cX11_read 364 = .ok (.ifCond .eq 8, 3) := by decide +kernel
theorem dX11_read_367 : decode cX11_read 367 = .ok (.bipush (-10), 2) := by decide +kernel
theorem dX11_read_369 : decode cX11_read 369 = .ok (.iload_n 3, 1) := by decide +kernel
theorem dX11_read_370 : decode cX11_read 370 = .ok (.isub, 1) := by decide +kernel
theorem dX11_read_371 : decode cX11_read 371 = .ok (.ireturn, 1) := by decide +kernel
theorem dX11_read_372 : decode cX11_read 372 = .ok (.aload_n 0, 1) := by decide +kernel
theorem dX11_read_373 : decode cX11_read 373 = .ok (.getfield 67, 3) := by decide +kernel
theorem dX11_read_376 : decode cX11_read 376 = .ok (.iconst (-1), 1) := by decide +kernel
theorem dX11_read_377 : decode cX11_read 377 = .ok (.putfield 167, 3) := by decide +kernel
theorem dX11_read_380 : decode cX11_read 380 = .ok (.aload_n 0, 1) := by decide +kernel
theorem dX11_read_381 : decode cX11_read 381 = .ok (.getfield 58, 3) := by decide +kernel
theorem dX11_read_384 : decode cX11_read 384 = .ok (.aload_n 0, 1) := by decide +kernel
theorem dX11_read_385 : decode cX11_read 385 = .ok (.getfield 67, 3) := by decide +kernel
theorem dX11_read_388 : decode cX11_read 388 = .ok (.invokevirtual 170, 3) := by decide +kernel
theorem dX11_read_391 : decode cX11_read 391 = .ok (.aload_n 2, 1) := by decide +kernel
theorem dX11_read_392 : decode cX11_read 392 = .ok (.invokevirtual 173, 3) := by decide +kernel
theorem dX11_read_395 : decode cX11_read 395 = .ok (.ireturn, 1) := by decide +kernel
theorem dX11_place_0 : decode cX11_place 0 = .ok (.aload_n 0, 1) := by decide +kernel
theorem dX11_place_1 : decode cX11_place 1 = .ok (.getfield 67, 3) := by decide +kernel
theorem dX11_place_4 : decode cX11_place 4 = .ok (.getfield 167, 3) := by decide +kernel
theorem dX11_place_7 : decode cX11_place 7 = .ok (.ireturn, 1) := by decide +kernel
theorem dX11_write_0 : decode cX11_write 0 = .ok (.aload_n 0, 1) := by decide +kernel
theorem dX11_write_1 : decode cX11_write 1 = .ok (.iload_n 1, 1) := by decide +kernel
theorem dX11_write_2 : decode cX11_write 2 = .ok (.invokevirtual 107, 3) := by decide +kernel
theorem dX11_write_5 : decode cX11_write 5 = .ok (.astore_n 2, 1) := by decide +kernel
theorem dX11_write_6 : decode cX11_write 6 = .ok (.aload_n 2, 1) := by decide +kernel
theorem dX11_write_7 : decode cX11_write 7 = .ok (.ifnonnull 5, 3) := by decide +kernel
theorem dX11_write_10 : decode cX11_write 10 = .ok (.iconst (-1), 1) := by decide +kernel
theorem dX11_write_11 : decode cX11_write 11 = .ok (.ireturn, 1) := by decide +kernel
theorem dX11_write_12 : decode cX11_write 12 = .ok (.aload_n 2, 1) := by decide +kernel
theorem dX11_write_13 : decode cX11_write 13 = .ok (.invokestatic 177, 3) := by decide +kernel
theorem dX11_write_16 : decode cX11_write 16 = .ok (.ifCond .eq 14, 3) := by decide +kernel
theorem dX11_write_19 : decode cX11_write 19 = .ok (.aload_n 0, 1) := by decide +kernel
theorem dX11_write_20 : decode cX11_write 20 = .ok (.getfield 67, 3) := by decide +kernel
theorem dX11_write_23 : decode cX11_write 23 = .ok (.aload_n 2, 1) := by decide +kernel
theorem dX11_write_24 : decode cX11_write 24 = .ok (.invokevirtual 181, 3) := by decide +kernel
theorem dX11_write_27 : decode cX11_write 27 = .ok (.goto 5, 3) := by decide +kernel
theorem dX11_write_30 : decode cX11_write 30 = .ok (.bipush (-3), 2) := by decide +kernel
theorem dX11_write_32 : decode cX11_write 32 = .ok (.ireturn, 1) := by decide +kernel
theorem dX11_written_0 : decode cX11_written 0 = .ok (.aload_n 0, 1) := by decide +kernel
theorem dX11_written_1 : decode cX11_written 1 = .ok (.getfield 67, 3) := by decide +kernel
theorem dX11_written_4 : decode cX11_written 4 = .ok (.iload_n 1, 1) := by decide +kernel
theorem dX11_written_5 : decode cX11_written 5 = .ok (.invokevirtual 185, 3) := by decide +kernel
theorem dX11_written_8 : decode cX11_written 8 = .ok (.ireturn, 1) := by decide +kernel
theorem dX11_again_0 : decode cX11_again 0 = .ok (.aload_n 0, 1) := by decide +kernel
theorem dX11_again_1 : decode cX11_again 1 = .ok (.getfield 67, 3) := by decide +kernel
theorem dX11_again_4 : decode cX11_again 4 = .ok (.invokevirtual 188, 3) := by decide +kernel
theorem dX11_again_7 : decode cX11_again 7 = .ok (.ireturn, 1) := by decide +kernel
theorem dX11_kind_0 : decode cX11_kind 0 = .ok (.aload_n 0, 1) := by decide +kernel
theorem dX11_kind_1 : decode cX11_kind 1 = .ok (.iload_n 1, 1) := by decide +kernel
theorem dX11_kind_2 : decode cX11_kind 2 = .ok (.invokevirtual 107, 3) := by decide +kernel
theorem dX11_kind_5 : decode cX11_kind 5 = .ok (.astore_n 2, 1) := by decide +kernel
theorem dX11_kind_6 : decode cX11_kind 6 = .ok (.aload_n 2, 1) := by decide +kernel
theorem dX11_kind_7 : decode cX11_kind 7 = .ok (.ifnonnull 7, 3) := by decide +kernel
theorem dX11_kind_10 : decode cX11_kind 10 = .ok (.iconst (-1), 1) := by decide +kernel
theorem dX11_kind_11 : decode cX11_kind 11 = .ok (.goto 7, 3) := by decide +kernel
theorem dX11_kind_14 : decode cX11_kind 14 = .ok (.aload_n 2, 1) := by decide +kernel
theorem dX11_kind_15 : decode cX11_kind 15 = .ok (.getfield 191, 3) := by decide +kernel
theorem dX11_kind_18 : decode cX11_kind 18 = .ok (.ireturn, 1) := by decide +kernel
theorem dX11_drop_0 : decode cX11_drop 0 = .ok (.aload_n 0, 1) := by decide +kernel
theorem dX11_drop_1 : decode cX11_drop 1 = .ok (.iload_n 1, 1) := by decide +kernel
theorem dX11_drop_2 : decode cX11_drop 2 = .ok (.invokevirtual 107, 3) := by decide +kernel
theorem dX11_drop_5 : decode cX11_drop 5 = .ok (.astore_n 2, 1) := by decide +kernel
theorem dX11_drop_6 : decode cX11_drop 6 = .ok (.aload_n 2, 1) := by decide +kernel
theorem dX11_drop_7 : decode cX11_drop 7 = .ok (.ifnonnull 5, 3) := by decide +kernel
theorem dX11_drop_10 : decode cX11_drop 10 = .ok (.iconst (-1), 1) := by decide +kernel
theorem dX11_drop_11 : decode cX11_drop 11 = .ok (.ireturn, 1) := by decide +kernel
theorem dX11_drop_12 : decode cX11_drop 12 = .ok (.aload_n 2, 1) := by decide +kernel
theorem dX11_drop_13 : decode cX11_drop 13 = .ok (.getfield 191, 3) := by decide +kernel
theorem dX11_drop_16 : decode cX11_drop 16 = .ok (.istore_n 3, 1) := by decide +kernel
theorem dX11_drop_17 : decode cX11_drop 17 = .ok (.aload_n 2, 1) := by decide +kernel
theorem dX11_drop_18 : decode cX11_drop 18 = .ok (.invokevirtual 194, 3) := by decide +kernel
theorem dX11_drop_21 : decode cX11_drop 21 = .ok (.iload_n 3, 1) := by decide +kernel
theorem dX11_drop_22 : decode cX11_drop 22 = .ok (.ireturn, 1) := by decide +kernel
theorem dX11_degree_0 : decode cX11_degree 0 = .ok (.aload_n 0, 1) := by decide +kernel
theorem dX11_degree_1 : decode cX11_degree 1 = .ok (.iload_n 1, 1) := by decide +kernel
theorem dX11_degree_2 : decode cX11_degree 2 = .ok (.invokevirtual 107, 3) := by decide +kernel
theorem dX11_degree_5 : decode cX11_degree 5 = .ok (.astore 4, 2) := by decide +kernel
theorem dX11_degree_7 : decode cX11_degree 7 = .ok (.aload 4, 2) := by decide +kernel
theorem dX11_degree_9 : decode cX11_degree 9 = .ok (.ifnonnull 5, 3) := by decide +kernel
theorem dX11_degree_12 : decode cX11_degree 12 = .ok (.iconst (-1), 1) := by decide +kernel
theorem dX11_degree_13 : decode cX11_degree 13 = .ok (.ireturn, 1) := by decide +kernel
theorem dX11_degree_14 : decode cX11_degree 14 = .ok (.aload 4, 2) := by decide +kernel
theorem dX11_degree_16 : decode cX11_degree 16 = .ok (.getfield 191, 3) := by decide +kernel
theorem dX11_degree_19 : decode cX11_degree 19 = .ok (.iconst 1, 1) := by decide +kernel
theorem dX11_degree_20 : decode cX11_degree 20 = .ok (.if_icmp .eq 24, 3) := by decide +kernel
theorem dX11_degree_23 : decode cX11_degree 23 = .ok (.aload 4, 2) := by decide +kernel
theorem dX11_degree_25 : decode cX11_degree 25 = .ok (.getfield 191, 3) := by decide +kernel
theorem dX11_degree_28 : decode cX11_degree 28 = .ok (.iconst 2, 1) := by decide +kernel
theorem dX11_degree_29 : decode cX11_degree 29 = .ok (.if_icmp .eq 15, 3) := by decide +kernel
theorem dX11_degree_32 : decode cX11_degree 32 = .ok (.aload 4, 2) := by decide +kernel
theorem dX11_degree_34 : decode cX11_degree 34 = .ok (.getfield 191, 3) := by decide +kernel
theorem dX11_degree_37 : decode cX11_degree 37 = .ok (.iconst 3, 1) := by decide +kernel
theorem dX11_degree_38 : decode cX11_degree 38 = .ok (.if_icmp .eq 6, 3) := by decide +kernel
theorem dX11_degree_41 : decode cX11_degree 41 = .ok (.bipush (-3), 2) := by decide +kernel
theorem dX11_degree_43 : decode cX11_degree 43 = .ok (.ireturn, 1) := by decide +kernel
theorem dX11_degree_44 : decode cX11_degree 44 = .ok (.iload_n 2, 1) := by decide +kernel
theorem dX11_degree_45 : decode cX11_degree 45 = .ok (.ifCond .lt 17, 3) := by decide +kernel
theorem dX11_degree_48 : decode cX11_degree 48 = .ok (.iload_n 2, 1) := by decide +kernel
theorem dX11_degree_49 : decode cX11_degree 49 = .ok (.iconst 1, 1) := by decide +kernel
theorem dX11_degree_50 : decode cX11_degree 50 = .ok (.if_icmp .gt 12, 3) := by decide +kernel
theorem dX11_degree_53 : decode cX11_degree 53 = .ok (.iload_n 3, 1) := by decide +kernel
theorem dX11_degree_54 : decode cX11_degree 54 = .ok (.ifCond .lt 8, 3) := by decide +kernel
theorem dX11_degree_57 : decode cX11_degree 57 = .ok (.iload_n 3, 1) := by decide +kernel
theorem dX11_degree_58 : decode cX11_degree 58 = .ok (.iconst 1, 1) := by decide +kernel
theorem dX11_degree_59 : decode cX11_degree 59 = .ok (.if_icmp .le 5, 3) := by decide +kernel
theorem dX11_degree_62 : decode cX11_degree 62 = .ok (.iconst (-1), 1) := by decide +kernel
theorem dX11_degree_63 : decode cX11_degree 63 = .ok (.ireturn, 1) := by decide +kernel
theorem dX11_degree_64 : decode cX11_degree 64 = .ok (.iload_n 3, 1) := by decide +kernel
theorem dX11_degree_65 : decode cX11_degree 65 = .ok (.ifCond .ne 12, 3) := by decide +kernel
theorem dX11_degree_68 : decode cX11_degree 68 = .ok (.aload 4, 2) := by decide +kernel
theorem dX11_degree_70 : decode cX11_degree 70 = .ok (.iload_n 2, 1) := by decide +kernel
theorem dX11_degree_71 : decode cX11_degree 71 = .ok (.invokevirtual 197, 3) := by decide +kernel
theorem dX11_degree_74 : decode cX11_degree 74 = .ok (.goto 9, 3) := by decide +kernel
theorem dX11_degree_77 : decode cX11_degree 77 = .ok (.aload 4, 2) := by decide +kernel
theorem dX11_degree_79 : decode cX11_degree 79 = .ok (.iload_n 2, 1) := by decide +kernel
theorem dX11_degree_80 : decode cX11_degree 80 = .ok (.invokevirtual 200, 3) := by decide +kernel
theorem dX11_degree_83 : decode cX11_degree 83 = .ok (.ireturn, 1) := by decide +kernel
theorem dX11_number_0 : decode cX11_number 0 = .ok (.aload_n 0, 1) := by decide +kernel
theorem dX11_number_1 : decode cX11_number 1 = .ok (.iload_n 1, 1) := by decide +kernel
theorem dX11_number_2 : decode cX11_number 2 = .ok (.invokevirtual 107, 3) := by decide +kernel
theorem dX11_number_5 : decode cX11_number 5 = .ok (.astore 5, 2) := by decide +kernel
theorem dX11_number_7 : decode cX11_number 7 = .ok (.aload 5, 2) := by decide +kernel
theorem dX11_number_9 : decode cX11_number 9 = .ok (.ifnonnull 5, 3) := by decide +kernel
theorem dX11_number_12 : decode cX11_number 12 = .ok (.iconst (-1), 1) := by decide +kernel
theorem dX11_number_13 : decode cX11_number 13 = .ok (.ireturn, 1) := by decide +kernel
theorem dX11_number_14 : decode cX11_number 14 = .ok (.aload 5, 2) := by decide +kernel
theorem dX11_number_16 : decode cX11_number 16 = .ok (.getfield 191, 3) := by decide +kernel
theorem dX11_number_19 : decode cX11_number 19 = .ok (.ifCond .ne 6, 3) := by decide +kernel
theorem dX11_number_22 : decode cX11_number 22 = .ok (.bipush (-3), 2) := by decide +kernel
theorem dX11_number_24 : decode cX11_number 24 = .ok (.ireturn, 1) := by decide +kernel
theorem dX11_number_25 : decode cX11_number 25 = .ok (.iload_n 2, 1) := by decide +kernel
theorem dX11_number_26 : decode cX11_number 26 = .ok (.ifCond .ge 5, 3) := by decide +kernel
theorem dX11_number_29 : decode cX11_number 29 = .ok (.iconst (-1), 1) := by decide +kernel
theorem dX11_number_30 : decode cX11_number 30 = .ok (.ireturn, 1) := by decide +kernel
theorem dX11_number_31 : decode cX11_number 31 = .ok (.iload_n 2, 1) := by decide +kernel
theorem dX11_number_32 : decode cX11_number 32 = .ok (.iconst 2, 1) := by decide +kernel
theorem dX11_number_33 : decode cX11_number 33 = .ok (.if_icmp .ge 27, 3) := by decide +kernel
theorem dX11_number_36 : decode cX11_number 36 = .ok (.aload 5, 2) := by decide +kernel
theorem dX11_number_38 : decode cX11_number 38 = .ok (.getfield 191, 3) := by decide +kernel
theorem dX11_number_41 : decode cX11_number 41 = .ok (.iconst 4, 1) := by decide +kernel
theorem dX11_number_42 : decode cX11_number 42 = .ok (.if_icmp .ne 8, 3) := by decide +kernel
theorem dX11_number_45 : decode cX11_number 45 = .ok (.bipush (-3), 2) := by decide +kernel
theorem dX11_number_47 : decode cX11_number 47 = .ok (.goto 12, 3) := by decide +kernel
theorem dX11_number_50 : decode cX11_number 50 = .ok (.aload 5, 2) := by decide +kernel
theorem dX11_number_52 : decode cX11_number 52 = .ok (.iload_n 2, 1) := by decide +kernel
theorem dX11_number_53 : decode cX11_number 53 = .ok (.iload_n 3, 1) := by decide +kernel
theorem dX11_number_54 : decode cX11_number 54 = .ok (.iload 4, 2) := by decide +kernel
theorem dX11_number_56 : decode cX11_number 56 = .ok (.invokevirtual 203, 3) := by decide +kernel
theorem dX11_number_59 : decode cX11_number 59 = .ok (.ireturn, 1) := by decide +kernel
theorem dX11_number_60 : decode cX11_number 60 = .ok (.aload 5, 2) := by decide +kernel
theorem dX11_number_62 : decode cX11_number 62 = .ok (.getfield 191, 3) := by decide +kernel
theorem dX11_number_65 : decode cX11_number 65 = .ok (.iconst 3, 1) := by decide +kernel
theorem dX11_number_66 : decode cX11_number 66 = .ok (.if_icmp .eq 15, 3) := by decide +kernel
theorem dX11_number_69 : decode cX11_number 69 = .ok (.aload 5, 2) := by decide +kernel
theorem dX11_number_71 : decode cX11_number 71 = .ok (.getfield 191, 3) := by decide +kernel
theorem dX11_number_74 : decode cX11_number 74 = .ok (.iconst 4, 1) := by decide +kernel
theorem dX11_number_75 : decode cX11_number 75 = .ok (.if_icmp .eq 6, 3) := by decide +kernel
theorem dX11_number_78 : decode cX11_number 78 = .ok (.bipush (-3), 2) := by decide +kernel
theorem dX11_number_80 : decode cX11_number 80 = .ok (.ireturn, 1) := by decide +kernel
theorem dX11_number_81 : decode cX11_number 81 = .ok (.iload_n 2, 1) := by decide +kernel
theorem dX11_number_82 : decode cX11_number 82 = .ok (.iconst 2, 1) := by decide +kernel
theorem dX11_number_83 : decode cX11_number 83 = .ok (.isub, 1) := by decide +kernel
theorem dX11_number_84 : decode cX11_number 84 = .ok (.aload 5, 2) := by decide +kernel
theorem dX11_number_86 : decode cX11_number 86 = .ok (.getfield 206, 3) := by decide +kernel
theorem dX11_number_89 : decode cX11_number 89 = .ok (.if_icmp .le 5, 3) := by decide +kernel
theorem dX11_number_92 : decode cX11_number 92 = .ok (.iconst (-1), 1) := by decide +kernel
theorem dX11_number_93 : decode cX11_number 93 = .ok (.ireturn, 1) := by decide +kernel
theorem dX11_number_94 : decode cX11_number 94 = .ok (.iload 4, 2) := by decide +kernel
theorem dX11_number_96 : decode cX11_number 96 = .ok (.ifCond .ne 15, 3) := by decide +kernel
theorem dX11_number_99 : decode cX11_number 99 = .ok (.aload 5, 2) := by decide +kernel
theorem dX11_number_101 : decode cX11_number 101 = .ok (.iload_n 2, 1) := by decide +kernel
theorem dX11_number_102 : decode cX11_number 102 = .ok (.iconst 2, 1) := by decide +kernel
theorem dX11_number_103 : decode cX11_number 103 = .ok (.isub, 1) := by decide +kernel
theorem dX11_number_104 : decode cX11_number 104 = .ok (.iload_n 3, 1) := by decide +kernel
theorem dX11_number_105 : decode cX11_number 105 = .ok (.invokevirtual 209, 3) := by decide +kernel
theorem dX11_number_108 : decode cX11_number 108 = .ok (.goto 4, 3) := by decide +kernel
theorem dX11_number_111 : decode cX11_number 111 = .ok (.iconst 0, 1) := by decide +kernel
theorem dX11_number_112 : decode cX11_number 112 = .ok (.ireturn, 1) := by decide +kernel
theorem dX11_told_0 : decode cX11_told 0 = .ok (.aload_n 0, 1) := by decide +kernel
theorem dX11_told_1 : decode cX11_told 1 = .ok (.iload_n 1, 1) := by decide +kernel
theorem dX11_told_2 : decode cX11_told 2 = .ok (.invokevirtual 107, 3) := by decide +kernel
theorem dX11_told_5 : decode cX11_told 5 = .ok (.astore_n 3, 1) := by decide +kernel
theorem dX11_told_6 : decode cX11_told 6 = .ok (.aload_n 3, 1) := by decide +kernel
theorem dX11_told_7 : decode cX11_told 7 = .ok (.ifnull 12, 3) := by decide +kernel
theorem dX11_told_10 : decode cX11_told 10 = .ok (.iload_n 2, 1) := by decide +kernel
theorem dX11_told_11 : decode cX11_told 11 = .ok (.ifCond .lt 8, 3) := by decide +kernel
theorem dX11_told_14 : decode cX11_told 14 = .ok (.iload_n 2, 1) := by decide +kernel
theorem dX11_told_15 : decode cX11_told 15 = .ok (.iconst 4, 1) := by decide +kernel
theorem dX11_told_16 : decode cX11_told 16 = .ok (.if_icmp .le 5, 3) := by decide +kernel
theorem dX11_told_19 : decode cX11_told 19 = .ok (.iconst (-1), 1) := by decide +kernel
theorem dX11_told_20 : decode cX11_told 20 = .ok (.ireturn, 1) := by decide +kernel
theorem dX11_told_21 : decode cX11_told 21 = .ok (.iload_n 2, 1) := by decide +kernel
theorem dX11_told_22 : decode cX11_told 22 = .ok (.iconst 2, 1) := by decide +kernel
theorem dX11_told_23 : decode cX11_told 23 = .ok (.if_icmp .gt 44, 3) := by decide +kernel
theorem dX11_told_26 : decode cX11_told 26 = .ok (.aload_n 3, 1) := by decide +kernel
theorem dX11_told_27 : decode cX11_told 27 = .ok (.getfield 191, 3) := by decide +kernel
theorem dX11_told_30 : decode cX11_told 30 = .ok (.iconst 2, 1) := by decide +kernel
theorem dX11_told_31 : decode cX11_told 31 = .ok (.if_icmp .eq 8, 3) := by decide +kernel
theorem dX11_told_34 : decode cX11_told 34 = .ok (.bipush (-3), 2) := by decide +kernel
theorem dX11_told_36 : decode cX11_told 36 = .ok (.goto 30, 3) := by decide +kernel
theorem dX11_told_39 : decode cX11_told 39 = .ok (.iload_n 2, 1) := by decide +kernel
theorem dX11_told_40 : decode cX11_told 40 = .ok (.ifCond .ne 10, 3) := by decide +kernel
theorem dX11_told_43 : decode cX11_told 43 = .ok (.aload_n 3, 1) := by decide +kernel
theorem dX11_told_44 : decode cX11_told 44 = .ok (.getfield 213, 3) := by decide +kernel
theorem dX11_told_47 : decode cX11_told 47 = .ok (.goto 19, 3) := by decide +kernel
theorem dX11_told_50 : decode cX11_told 50 = .ok (.iload_n 2, 1) := by decide +kernel
theorem dX11_told_51 : decode cX11_told 51 = .ok (.iconst 1, 1) := by decide +kernel
theorem dX11_told_52 : decode cX11_told 52 = .ok (.if_icmp .ne 10, 3) := by decide +kernel
theorem dX11_told_55 : decode cX11_told 55 = .ok (.aload_n 3, 1) := by decide +kernel
theorem dX11_told_56 : decode cX11_told 56 = .ok (.getfield 216, 3) := by decide +kernel
theorem dX11_told_59 : decode cX11_told 59 = .ok (.goto 7, 3) := by decide +kernel
theorem dX11_told_62 : decode cX11_told 62 = .ok (.aload_n 3, 1) := by decide +kernel
theorem dX11_told_63 : decode cX11_told 63 = .ok (.getfield 219, 3) := by decide +kernel
theorem dX11_told_66 : decode cX11_told 66 = .ok (.ireturn, 1) := by decide +kernel
theorem dX11_told_67 : decode cX11_told 67 = .ok (.iload_n 2, 1) := by decide +kernel
theorem dX11_told_68 : decode cX11_told 68 = .ok (.iconst 3, 1) := by decide +kernel
theorem dX11_told_69 : decode cX11_told 69 = .ok (.if_icmp .ne 29, 3) := by decide +kernel
theorem dX11_told_72 : decode cX11_told 72 = .ok (.aload_n 3, 1) := by decide +kernel
theorem dX11_told_73 : decode cX11_told 73 = .ok (.getfield 191, 3) := by decide +kernel
theorem dX11_told_76 : decode cX11_told 76 = .ok (.iconst 3, 1) := by decide +kernel
theorem dX11_told_77 : decode cX11_told 77 = .ok (.if_icmp .eq 11, 3) := by decide +kernel
theorem dX11_told_80 : decode cX11_told 80 = .ok (.aload_n 3, 1) := by decide +kernel
theorem dX11_told_81 : decode cX11_told 81 = .ok (.getfield 191, 3) := by decide +kernel
theorem dX11_told_84 : decode cX11_told 84 = .ok (.iconst 4, 1) := by decide +kernel
theorem dX11_told_85 : decode cX11_told 85 = .ok (.if_icmp .ne 10, 3) := by decide +kernel
theorem dX11_told_88 : decode cX11_told 88 = .ok (.aload_n 3, 1) := by decide +kernel
theorem dX11_told_89 : decode cX11_told 89 = .ok (.getfield 206, 3) := by decide +kernel
theorem dX11_told_92 : decode cX11_told 92 = .ok (.goto 5, 3) := by decide +kernel
theorem dX11_told_95 : decode cX11_told 95 = .ok (.bipush (-3), 2) := by decide +kernel
theorem dX11_told_97 : decode cX11_told 97 = .ok (.ireturn, 1) := by decide +kernel
theorem dX11_told_98 : decode cX11_told 98 = .ok (.aload_n 3, 1) := by decide +kernel
theorem dX11_told_99 : decode cX11_told 99 = .ok (.getfield 191, 3) := by decide +kernel
theorem dX11_told_102 : decode cX11_told 102 = .ok (.iconst 4, 1) := by decide +kernel
theorem dX11_told_103 : decode cX11_told 103 = .ok (.if_icmp .ne 10, 3) := by decide +kernel
theorem dX11_told_106 : decode cX11_told 106 = .ok (.aload_n 3, 1) := by decide +kernel
theorem dX11_told_107 : decode cX11_told 107 = .ok (.getfield 222, 3) := by decide +kernel
theorem dX11_told_110 : decode cX11_told 110 = .ok (.goto 5, 3) := by decide +kernel
theorem dX11_told_113 : decode cX11_told 113 = .ok (.bipush (-3), 2) := by decide +kernel
theorem dX11_told_115 : decode cX11_told 115 = .ok (.ireturn, 1) := by decide +kernel
theorem dX11_factorial_0 : decode cX11_factorial 0 = .ok (.aload_n 0, 1) := by decide +kernel
theorem dX11_factorial_1 : decode cX11_factorial 1 = .ok (.iload_n 1, 1) := by decide +kernel
theorem dX11_factorial_2 : decode cX11_factorial 2 = .ok (.invokevirtual 107, 3) := by decide +kernel
theorem dX11_factorial_5 : decode cX11_factorial 5 = .ok (.astore 4, 2) := by decide +kernel
theorem dX11_factorial_7 : decode cX11_factorial 7 = .ok (.aload 4, 2) := by decide +kernel
theorem dX11_factorial_9 : decode cX11_factorial 9 = .ok (.ifnonnull 5, 3) := by decide +kernel
theorem dX11_factorial_12 : decode cX11_factorial 12 = .ok (.iconst (-1), 1) := by decide +kernel
theorem dX11_factorial_13 : decode cX11_factorial 13 = .ok (.ireturn, 1) := by decide +kernel
theorem dX11_factorial_14 : decode cX11_factorial 14 = .ok (.aload 4, 2) := by decide +kernel
theorem dX11_factorial_16 : decode cX11_factorial 16 = .ok (.getfield 191, 3) := by decide +kernel
theorem dX11_factorial_19 : decode cX11_factorial 19 = .ok (.iconst 2, 1) := by decide +kernel
theorem dX11_factorial_20 : decode cX11_factorial 20 = .ok (.if_icmp .ne 25, 3) := by decide +kernel
theorem dX11_factorial_23 : decode cX11_factorial 23 = .ok (.iload_n 2, 1) := by decide +kernel
theorem dX11_factorial_24 : decode cX11_factorial 24 = .ok (.ifCond .lt 21, 3) := by decide +kernel
theorem dX11_factorial_27 : decode cX11_factorial 27 = .ok (.iload_n 2, 1) := by decide +kernel
theorem dX11_factorial_28 : decode cX11_factorial 28 = .ok (.aload 4, 2) := by decide +kernel
theorem dX11_factorial_30 : decode cX11_factorial 30 = .ok (.getfield 219, 3) := by decide +kernel
theorem dX11_factorial_33 : decode cX11_factorial 33 = .ok (.if_icmp .ge 12, 3) := by decide +kernel
theorem dX11_factorial_36 : decode cX11_factorial 36 = .ok (.iload_n 3, 1) := by decide +kernel
theorem dX11_factorial_37 : decode cX11_factorial 37 = .ok (.ifCond .lt 8, 3) := by decide +kernel
theorem dX11_factorial_40 : decode cX11_factorial 40 = .ok (.iload_n 3, 1) := by decide +kernel
theorem dX11_factorial_41 : decode cX11_factorial 41 = .ok (.iconst 3, 1) := by decide +kernel
theorem dX11_factorial_42 : decode cX11_factorial 42 = .ok (.if_icmp .le 5, 3) := by decide +kernel
theorem dX11_factorial_45 : decode cX11_factorial 45 = .ok (.iconst 0, 1) := by decide +kernel
theorem dX11_factorial_46 : decode cX11_factorial 46 = .ok (.ireturn, 1) := by decide +kernel
theorem dX11_factorial_47 : decode cX11_factorial 47 = .ok (.aload 4, 2) := by decide +kernel
theorem dX11_factorial_49 : decode cX11_factorial 49 = .ok (.iload_n 2, 1) := by decide +kernel
theorem dX11_factorial_50 : decode cX11_factorial 50 = .ok (.iload_n 3, 1) := by decide +kernel
theorem dX11_factorial_51 : decode cX11_factorial 51 = .ok (.invokevirtual 225, 3) := by decide +kernel
theorem dX11_factorial_54 : decode cX11_factorial 54 = .ok (.ireturn, 1) := by decide +kernel
theorem dX11_work_0 : decode cX11_work 0 = .ok (.aload_n 0, 1) := by decide +kernel
theorem dX11_work_1 : decode cX11_work 1 = .ok (.iload_n 2, 1) := by decide +kernel
theorem dX11_work_2 : decode cX11_work 2 = .ok (.invokevirtual 107, 3) := by decide +kernel
theorem dX11_work_5 : decode cX11_work 5 = .ok (.astore 5, 2) := by decide +kernel
theorem dX11_work_7 : decode cX11_work 7 = .ok (.aload_n 0, 1) := by decide +kernel
theorem dX11_work_8 : decode cX11_work 8 = .ok (.iload_n 3, 1) := by decide +kernel
theorem dX11_work_9 : decode cX11_work 9 = .ok (.invokevirtual 107, 3) := by decide +kernel
theorem dX11_work_12 : decode cX11_work 12 = .ok (.astore 6, 2) := by decide +kernel
theorem dX11_work_14 : decode cX11_work 14 = .ok (.aload_n 0, 1) := by decide +kernel
theorem dX11_work_15 : decode cX11_work 15 = .ok (.iload 4, 2) := by decide +kernel
theorem dX11_work_17 : decode cX11_work 17 = .ok (.invokevirtual 107, 3) := by decide +kernel
theorem dX11_work_20 : decode cX11_work 20 = .ok (.astore 7, 2) := by decide +kernel
theorem dX11_work_22 : decode cX11_work 22 = .ok (.aload 5, 2) := by decide +kernel
theorem dX11_work_24 : decode cX11_work 24 = .ok (.ifnull 13, 3) := by decide +kernel
theorem dX11_work_27 : decode cX11_work 27 = .ok (.aload 6, 2) := by decide +kernel
theorem dX11_work_29 : decode cX11_work 29 = .ok (.ifnull 8, 3) := by decide +kernel
theorem dX11_work_32 : decode cX11_work 32 = .ok (.aload 7, 2) := by decide +kernel
theorem dX11_work_34 : decode cX11_work 34 = .ok (.ifnonnull 5, 3) := by decide +kernel
theorem dX11_work_37 : decode cX11_work 37 = .ok (.iconst (-1), 1) := by decide +kernel
theorem dX11_work_38 : decode cX11_work 38 = .ok (.ireturn, 1) := by decide +kernel
theorem dX11_work_39 : decode cX11_work 39 = .ok (.aload 5, 2) := by decide +kernel
theorem dX11_work_41 : decode cX11_work 41 = .ok (.invokestatic 177, 3) := by decide +kernel
theorem dX11_work_44 : decode cX11_work 44 = .ok (.ifCond .eq 11, 3) := by decide +kernel
theorem dX11_work_47 : decode cX11_work 47 = .ok (.aload 6, 2) := by decide +kernel
theorem dX11_work_49 : decode cX11_work 49 = .ok (.invokestatic 177, 3) := by decide +kernel
theorem dX11_work_52 : decode cX11_work 52 = .ok (.ifCond .ne 6, 3) := by decide +kernel
theorem dX11_work_55 : decode cX11_work 55 = .ok (.bipush (-3), 2) := by decide +kernel
theorem dX11_work_57 : decode cX11_work 57 = .ok (.ireturn, 1) := by decide +kernel
theorem dX11_work_58 : decode cX11_work 58 = .ok (.iload_n 1, 1) := by decide +kernel
theorem dX11_work_59 : decode cX11_work 59 = .ok (.ifCond .eq 8, 3) := by decide +kernel
theorem dX11_work_62 : decode cX11_work 62 = .ok (.iload_n 1, 1) := by decide +kernel
theorem dX11_work_63 : decode cX11_work 63 = .ok (.iconst 1, 1) := by decide +kernel
theorem dX11_work_64 : decode cX11_work 64 = .ok (.if_icmp .ne 24, 3) := by decide +kernel
theorem dX11_work_67 : decode cX11_work 67 = .ok (.aload 5, 2) := by decide +kernel
theorem dX11_work_69 : decode cX11_work 69 = .ok (.getfield 191, 3) := by decide +kernel
theorem dX11_work_72 : decode cX11_work 72 = .ok (.iconst 2, 1) := by decide +kernel
theorem dX11_work_73 : decode cX11_work 73 = .ok (.if_icmp .eq 12, 3) := by decide +kernel
theorem dX11_work_76 : decode cX11_work 76 = .ok (.aload 6, 2) := by decide +kernel
theorem dX11_work_78 : decode cX11_work 78 = .ok (.getfield 191, 3) := by decide +kernel
theorem dX11_work_81 : decode cX11_work 81 = .ok (.iconst 2, 1) := by decide +kernel
theorem dX11_work_82 : decode cX11_work 82 = .ok (.if_icmp .ne 6, 3) := by decide +kernel
theorem dX11_work_85 : decode cX11_work 85 = .ok (.bipush (-3), 2) := by decide +kernel
theorem dX11_work_87 : decode cX11_work 87 = .ok (.ireturn, 1) := by decide +kernel
theorem dX11_work_88 : decode cX11_work 88 = .ok (.iload_n 1, 1) := by decide +kernel
theorem dX11_work_89 : decode cX11_work 89 = .ok (.iconst 4, 1) := by decide +kernel
theorem dX11_work_90 : decode cX11_work 90 = .ok (.if_icmp .lt 28, 3) := by decide +kernel
theorem dX11_work_93 : decode cX11_work 93 = .ok (.iload_n 1, 1) := by decide +kernel
theorem dX11_work_94 : decode cX11_work 94 = .ok (.bipush 6, 2) := by decide +kernel
theorem dX11_work_96 : decode cX11_work 96 = .ok (.if_icmp .gt 22, 3) := by decide +kernel
theorem dX11_work_99 : decode cX11_work 99 = .ok (.aload 5, 2) := by decide +kernel
theorem dX11_work_101 : decode cX11_work 101 = .ok (.invokestatic 234, 3) := by decide +kernel
theorem dX11_work_104 : decode cX11_work 104 = .ok (.ifCond .eq 11, 3) := by decide +kernel
theorem dX11_work_107 : decode cX11_work 107 = .ok (.aload 6, 2) := by decide +kernel
theorem dX11_work_109 : decode cX11_work 109 = .ok (.invokestatic 234, 3) := by decide +kernel
theorem dX11_work_112 : decode cX11_work 112 = .ok (.ifCond .ne 6, 3) := by decide +kernel
theorem dX11_work_115 : decode cX11_work 115 = .ok (.bipush (-3), 2) := by decide +kernel
theorem dX11_work_117 : decode cX11_work 117 = .ok (.ireturn, 1) := by decide +kernel
theorem dX11_work_118 : decode cX11_work 118 = .ok (.iload_n 1, 1) := by decide +kernel
theorem dX11_work_119 : decode cX11_work 119 = .ok (.ifCond .lt 22, 3) := by decide +kernel
theorem dX11_work_122 : decode cX11_work 122 = .ok (.iload_n 1, 1) := by decide +kernel
theorem dX11_work_123 : decode cX11_work 123 = .ok (.bipush 6, 2) := by decide +kernel
theorem dX11_work_125 : decode cX11_work 125 = .ok (.if_icmp .gt 16, 3) := by decide +kernel
theorem dX11_work_128 : decode cX11_work 128 = .ok (.iload_n 1, 1) := by decide +kernel
theorem dX11_work_129 : decode cX11_work 129 = .ok (.iconst 3, 1) := by decide +kernel
theorem dX11_work_130 : decode cX11_work 130 = .ok (.if_icmp .ne 13, 3) := by decide +kernel
theorem dX11_work_133 : decode cX11_work 133 = .ok (.aload 6, 2) := by decide +kernel
theorem dX11_work_135 : decode cX11_work 135 = .ok (.invokevirtual 237, 3) := by decide +kernel
theorem dX11_work_138 : decode cX11_work 138 = .ok (.ifCond .eq 5, 3) := by decide +kernel
theorem dX11_work_141 : decode cX11_work 141 = .ok (.iconst (-1), 1) := by decide +kernel
theorem dX11_work_142 : decode cX11_work 142 = .ok (.ireturn, 1) := by decide +kernel
theorem dX11_work_143 : decode cX11_work 143 = .ok (.aload_n 0, 1) := by decide +kernel
theorem dX11_work_144 : decode cX11_work 144 = .ok (.getfield 42, 3) := by decide +kernel
theorem dX11_work_147 : decode cX11_work 147 = .ok (.invokevirtual 111, 3) := by decide +kernel
theorem dX11_work_150 : decode cX11_work 150 = .ok (.aload_n 0, 1) := by decide +kernel
theorem dX11_work_151 : decode cX11_work 151 = .ok (.getfield 58, 3) := by decide +kernel
theorem dX11_work_154 : decode cX11_work 154 = .ok (.aload 5, 2) := by decide +kernel
theorem dX11_work_156 : decode cX11_work 156 = .ok (.invokevirtual 241, 3) := by decide +kernel
theorem dX11_work_159 : decode cX11_work 159 = .ok (.istore 8, 2) := by decide +kernel
theorem dX11_work_161 : decode cX11_work 161 = .ok (.aload_n 0, 1) := by decide +kernel
theorem dX11_work_162 : decode cX11_work 162 = .ok (.getfield 58, 3) := by decide +kernel
theorem dX11_work_165 : decode cX11_work 165 = .ok (.aload 6, 2) := by decide +kernel
theorem dX11_work_167 : decode cX11_work 167 = .ok (.invokevirtual 241, 3) := by decide +kernel
theorem dX11_work_170 : decode cX11_work 170 = .ok (.istore 9, 2) := by decide +kernel
theorem dX11_work_172 : decode cX11_work 172 = .ok (.iload_n 1, 1) := by decide +kernel
theorem dX11_work_173 : decode cX11_work 173 = .ok (.iconst 1, 1) := by decide +kernel
theorem dX11_work_174 : decode cX11_work 174 = .ok (.if_icmp .gt 29, 3) := by decide +kernel
theorem dX11_work_177 : decode cX11_work 177 = .ok (.aload_n 0, 1) := by decide +kernel
theorem dX11_work_178 : decode cX11_work 178 = .ok (.getfield 58, 3) := by decide +kernel
theorem dX11_work_181 : decode cX11_work 181 = .ok (.iload 8, 2) := by decide +kernel
theorem dX11_work_183 : decode cX11_work 183 = .ok (.iload 9, 2) := by decide +kernel
theorem dX11_work_185 : decode cX11_work 185 = .ok (.iload_n 1, 1) := by decide +kernel
theorem dX11_work_186 : decode cX11_work 186 = .ok (.ifCond .ne 7, 3) := by decide +kernel
theorem dX11_work_189 : decode cX11_work 189 = .ok (.iconst 1, 1) := by decide +kernel
theorem dX11_work_190 : decode cX11_work 190 = .ok (.goto 5, 3) := by decide +kernel
theorem dX11_work_193 : decode cX11_work 193 = .ok (.ldc 134, 2) := by decide +kernel
theorem dX11_work_195 : decode cX11_work 195 = .ok (.invokevirtual 135, 3) := by decide +kernel
theorem dX11_work_198 : decode cX11_work 198 = .ok (.istore 10, 2) := by decide +kernel
theorem dX11_work_200 : decode cX11_work 200 = .ok (.goto 45, 3) := by decide +kernel
theorem dX11_work_203 : decode cX11_work 203 = .ok (.iload_n 1, 1) := by decide +kernel
theorem dX11_work_204 : decode cX11_work 204 = .ok (.iconst 3, 1) := by decide +kernel
theorem dX11_work_205 : decode cX11_work 205 = .ok (.if_icmp .gt 29, 3) := by decide +kernel
theorem dX11_work_208 : decode cX11_work 208 = .ok (.aload_n 0, 1) := by decide +kernel
theorem dX11_work_209 : decode cX11_work 209 = .ok (.getfield 58, 3) := by decide +kernel
theorem dX11_work_212 : decode cX11_work 212 = .ok (.iload 8, 2) := by decide +kernel
theorem dX11_work_214 : decode cX11_work 214 = .ok (.iload 9, 2) := by decide +kernel
theorem dX11_work_216 : decode cX11_work 216 = .ok (.iload_n 1, 1) := by decide +kernel
theorem dX11_work_217 : decode cX11_work 217 = .ok (.iconst 2, 1) := by decide +kernel
theorem dX11_work_218 : decode cX11_work 218 = .ok (.if_icmp .ne 7, 3) := by decide +kernel
theorem dX11_work_221 : decode cX11_work 221 = .ok (.iconst 1, 1) := by decide +kernel
theorem dX11_work_222 : decode cX11_work 222 = .ok (.goto 4, 3) := by decide +kernel
theorem dX11_work_225 : decode cX11_work 225 = .ok (.iconst (-1), 1) := by decide +kernel
theorem dX11_work_226 : decode cX11_work 226 = .ok (.invokevirtual 139, 3) := by decide +kernel
theorem dX11_work_229 : decode cX11_work 229 = .ok (.istore 10, 2) := by decide +kernel
theorem dX11_work_231 : decode cX11_work 231 = .ok (.goto 14, 3) := by decide +kernel
theorem dX11_work_234 : decode cX11_work 234 = .ok (.aload_n 0, 1) := by decide +kernel
theorem dX11_work_235 : decode cX11_work 235 = .ok (.iload_n 1, 1) := by decide +kernel
theorem dX11_work_236 : decode cX11_work 236 = .ok (.iload 8, 2) := by decide +kernel
theorem dX11_work_238 : decode cX11_work 238 = .ok (.iload 9, 2) := by decide +kernel
theorem dX11_work_240 : decode cX11_work 240 = .ok (.invokevirtual 244, 3) := by decide +kernel
theorem dX11_work_243 : decode cX11_work 243 = .ok (.istore 10, 2) := by decide +kernel
theorem dX11_work_245 : decode cX11_work 245 = .ok (.aload_n 0, 1) := by decide +kernel
theorem dX11_work_246 : decode cX11_work 246 = .ok (.iload 10, 2) := by decide +kernel
theorem dX11_work_248 : decode cX11_work 248 = .ok (.aload 7, 2) := by decide +kernel
theorem dX11_work_250 : decode cX11_work 250 = .ok (.invokevirtual 247, 3) := by decide +kernel
theorem dX11_work_253 : decode cX11_work 253 = .ok (.ireturn, 1) := by decide +kernel
theorem dX11_change_0 : decode cX11_change 0 = .ok (.aload_n 0, 1) := by decide +kernel
theorem dX11_change_1 : decode cX11_change 1 = .ok (.iload_n 2, 1) := by decide +kernel
theorem dX11_change_2 : decode cX11_change 2 = .ok (.invokevirtual 107, 3) := by decide +kernel
theorem dX11_change_5 : decode cX11_change 5 = .ok (.astore 5, 2) := by decide +kernel
theorem dX11_change_7 : decode cX11_change 7 = .ok (.aload_n 0, 1) := by decide +kernel
theorem dX11_change_8 : decode cX11_change 8 = .ok (.iload 4, 2) := by decide +kernel
theorem dX11_change_10 : decode cX11_change 10 = .ok (.invokevirtual 107, 3) := by decide +kernel
theorem dX11_change_13 : decode cX11_change 13 = .ok (.astore 6, 2) := by decide +kernel
theorem dX11_change_15 : decode cX11_change 15 = .ok (.aload 5, 2) := by decide +kernel
theorem dX11_change_17 : decode cX11_change 17 = .ok (.ifnull 8, 3) := by decide +kernel
theorem dX11_change_20 : decode cX11_change 20 = .ok (.aload 6, 2) := by decide +kernel
theorem dX11_change_22 : decode cX11_change 22 = .ok (.ifnonnull 5, 3) := by decide +kernel
theorem dX11_change_25 : decode cX11_change 25 = .ok (.iconst (-1), 1) := by decide +kernel
theorem dX11_change_26 : decode cX11_change 26 = .ok (.ireturn, 1) := by decide +kernel
theorem dX11_change_27 : decode cX11_change 27 = .ok (.aload_n 0, 1) := by decide +kernel
theorem dX11_change_28 : decode cX11_change 28 = .ok (.getfield 42, 3) := by decide +kernel
theorem dX11_change_31 : decode cX11_change 31 = .ok (.invokevirtual 111, 3) := by decide +kernel
theorem dX11_change_34 : decode cX11_change 34 = .ok (.iload_n 1, 1) := by decide +kernel
theorem dX11_change_35 : decode cX11_change 35 = .ok (.bipush 10, 2) := by decide +kernel
theorem dX11_change_37 : decode cX11_change 37 = .ok (.if_icmp .ne 22, 3) := by decide +kernel
theorem dX11_change_40 : decode cX11_change 40 = .ok (.aload_n 0, 1) := by decide +kernel
theorem dX11_change_41 : decode cX11_change 41 = .ok (.aload_n 0, 1) := by decide +kernel
theorem dX11_change_42 : decode cX11_change 42 = .ok (.getfield 58, 3) := by decide +kernel
theorem dX11_change_45 : decode cX11_change 45 = .ok (.iload_n 3, 1) := by decide +kernel
theorem dX11_change_46 : decode cX11_change 46 = .ok (.i2l, 1) := by decide +kernel
theorem dX11_change_47 : decode cX11_change 47 = .ok (.invokestatic 278, 3) := by decide +kernel
theorem dX11_change_50 : decode cX11_change 50 = .ok (.invokevirtual 151, 3) := by decide +kernel
theorem dX11_change_53 : decode cX11_change 53 = .ok (.aload 6, 2) := by decide +kernel
theorem dX11_change_55 : decode cX11_change 55 = .ok (.invokevirtual 247, 3) := by decide +kernel
theorem dX11_change_58 : decode cX11_change 58 = .ok (.ireturn, 1) := by decide +kernel
theorem dX11_change_59 : decode cX11_change 59 = .ok (.aload 5, 2) := by decide +kernel
theorem dX11_change_61 : decode cX11_change 61 = .ok (.invokestatic 177, 3) := by decide +kernel
theorem dX11_change_64 : decode cX11_change 64 = .ok (.ifCond .ne 6, 3) := by decide +kernel
theorem dX11_change_67 : decode cX11_change 67 = .ok (.bipush (-3), 2) := by decide +kernel
theorem dX11_change_69 : decode cX11_change 69 = .ok (.ireturn, 1) := by decide +kernel
theorem dX11_change_70 : decode cX11_change 70 = .ok (.aload 5, 2) := by decide +kernel
theorem dX11_change_72 : decode cX11_change 72 = .ok (.getfield 191, 3) := by decide +kernel
theorem dX11_change_75 : decode cX11_change 75 = .ok (.iconst 2, 1) := by decide +kernel
theorem dX11_change_76 : decode cX11_change 76 = .ok (.if_icmp .ne 7, 3) := by decide +kernel
theorem dX11_change_79 : decode cX11_change 79 = .ok (.iconst 1, 1) := by decide +kernel
theorem dX11_change_80 : decode cX11_change 80 = .ok (.goto 4, 3) := by decide +kernel
theorem dX11_change_83 : decode cX11_change 83 = .ok (.iconst 0, 1) := by decide +kernel
theorem dX11_change_84 : decode cX11_change 84 = .ok (.istore 7, 2) := by decide +kernel
theorem dX11_change_86 : decode cX11_change 86 = .ok (.iload 7, 2) := by decide +kernel
theorem dX11_change_88 : decode cX11_change 88 = .ok (.ifCond .eq 14, 3) := by decide +kernel
theorem dX11_change_91 : decode cX11_change 91 = .ok (.iload_n 1, 1) := by decide +kernel
theorem dX11_change_92 : decode cX11_change 92 = .ok (.iconst 2, 1) := by decide +kernel
theorem dX11_change_93 : decode cX11_change 93 = .ok (.if_icmp .lt 9, 3) := by decide +kernel
theorem dX11_change_96 : decode cX11_change 96 = .ok (.iload_n 1, 1) := by decide +kernel
theorem dX11_change_97 : decode cX11_change 97 = .ok (.bipush 8, 2) := by decide +kernel
theorem dX11_change_99 : decode cX11_change 99 = .ok (.if_icmp .le 14, 3) := by decide +kernel
theorem dX11_change_102 : decode cX11_change 102 = .ok (.iload 7, 2) := by decide +kernel
theorem dX11_change_104 : decode cX11_change 104 = .ok (.ifCond .ne 12, 3) := by decide +kernel
theorem dX11_change_107 : decode cX11_change 107 = .ok (.iload_n 1, 1) := by decide +kernel
theorem dX11_change_108 : decode cX11_change 108 = .ok (.bipush 11, 2) := by decide +kernel
theorem dX11_change_110 : decode cX11_change 110 = .ok (.if_icmp .ne 6, 3) := by decide +kernel
theorem dX11_change_113 : decode cX11_change 113 = .ok (.bipush (-3), 2) := by decide +kernel
theorem dX11_change_115 : decode cX11_change 115 = .ok (.ireturn, 1) := by decide +kernel
theorem dX11_change_116 : decode cX11_change 116 = .ok (.iload_n 1, 1) := by decide +kernel
theorem dX11_change_117 : decode cX11_change 117 = .ok (.ifCond .lt 9, 3) := by decide +kernel
theorem dX11_change_120 : decode cX11_change 120 = .ok (.iload_n 1, 1) := by decide +kernel
theorem dX11_change_121 : decode cX11_change 121 = .ok (.bipush 11, 2) := by decide +kernel
theorem dX11_change_123 : decode cX11_change 123 = .ok (.if_icmp .le 5, 3) := by decide +kernel
theorem dX11_change_126 : decode cX11_change 126 = .ok (.iconst (-1), 1) := by decide +kernel
theorem dX11_change_127 : decode cX11_change 127 = .ok (.ireturn, 1) := by decide +kernel
theorem dX11_change_128 : decode cX11_change 128 = .ok (.iload_n 1, 1) := by decide +kernel
theorem dX11_change_129 : decode cX11_change 129 = .ok (.bipush 9, 2) := by decide +kernel
theorem dX11_change_131 : decode cX11_change 131 = .ok (.if_icmp .ne 29, 3) := by decide +kernel
theorem dX11_change_134 : decode cX11_change 134 = .ok (.iload_n 3, 1) := by decide +kernel
theorem dX11_change_135 : decode cX11_change 135 = .ok (.bipush (-12), 2) := by decide +kernel
theorem dX11_change_137 : decode cX11_change 137 = .ok (.if_icmp .lt 21, 3) := by decide +kernel
theorem dX11_change_140 : decode cX11_change 140 = .ok (.iload_n 3, 1) := by decide +kernel
theorem dX11_change_141 : decode cX11_change 141 = .ok (.bipush 12, 2) := by decide +kernel
theorem dX11_change_143 : decode cX11_change 143 = .ok (.if_icmp .gt 15, 3) := by decide +kernel
theorem dX11_change_146 : decode cX11_change 146 = .ok (.iload_n 3, 1) := by decide +kernel
theorem dX11_change_147 : decode cX11_change 147 = .ok (.ifCond .ge 13, 3) := by decide +kernel
theorem dX11_change_150 : decode cX11_change 150 = .ok (.aload 5, 2) := by decide +kernel
theorem dX11_change_152 : decode cX11_change 152 = .ok (.invokevirtual 237, 3) := by decide +kernel
theorem dX11_change_155 : decode cX11_change 155 = .ok (.ifCond .eq 5, 3) := by decide +kernel
theorem dX11_change_158 : decode cX11_change 158 = .ok (.iconst (-1), 1) := by decide +kernel
theorem dX11_change_159 : decode cX11_change 159 = .ok (.ireturn, 1) := by decide +kernel
theorem dX11_change_160 : decode cX11_change 160 = .ok (.aload_n 0, 1) := by decide +kernel
theorem dX11_change_161 : decode cX11_change 161 = .ok (.getfield 58, 3) := by decide +kernel
theorem dX11_change_164 : decode cX11_change 164 = .ok (.aload 5, 2) := by decide +kernel
theorem dX11_change_166 : decode cX11_change 166 = .ok (.invokevirtual 241, 3) := by decide +kernel
theorem dX11_change_169 : decode cX11_change 169 = .ok (.istore 8, 2) := by decide +kernel
theorem dX11_change_171 : decode cX11_change 171 = .ok (.iload_n 1, 1) := by decide +kernel
theorem dX11_change_172 : decode cX11_change 172 = .ok (.bipush 9, 2) := by decide +kernel
theorem dX11_change_174 : decode cX11_change 174 = .ok (.if_icmp .ne 20, 3) := by decide +kernel
theorem dX11_change_177 : decode cX11_change 177 = .ok (.aload_n 0, 1) := by decide +kernel
theorem dX11_change_178 : decode cX11_change 178 = .ok (.aload_n 0, 1) := by decide +kernel
theorem dX11_change_179 : decode cX11_change 179 = .ok (.getfield 58, 3) := by decide +kernel
theorem dX11_change_182 : decode cX11_change 182 = .ok (.iload 8, 2) := by decide +kernel
theorem dX11_change_184 : decode cX11_change 184 = .ok (.iload_n 3, 1) := by decide +kernel
theorem dX11_change_185 : decode cX11_change 185 = .ok (.invokevirtual 284, 3) := by decide +kernel
theorem dX11_change_188 : decode cX11_change 188 = .ok (.aload 6, 2) := by decide +kernel
theorem dX11_change_190 : decode cX11_change 190 = .ok (.invokevirtual 247, 3) := by decide +kernel
theorem dX11_change_193 : decode cX11_change 193 = .ok (.ireturn, 1) := by decide +kernel
theorem dX11_change_194 : decode cX11_change 194 = .ok (.iload_n 1, 1) := by decide +kernel
theorem dX11_change_195 : decode cX11_change 195 = .ok (.iconst 1, 1) := by decide +kernel
theorem dX11_change_196 : decode cX11_change 196 = .ok (.if_icmp .gt 44, 3) := by decide +kernel
theorem dX11_change_199 : decode cX11_change 199 = .ok (.aload_n 0, 1) := by decide +kernel
theorem dX11_change_200 : decode cX11_change 200 = .ok (.iload 7, 2) := by decide +kernel
theorem dX11_change_202 : decode cX11_change 202 = .ok (.ifCond .eq 17, 3) := by decide +kernel
theorem dX11_change_205 : decode cX11_change 205 = .ok (.aload_n 0, 1) := by decide +kernel
theorem dX11_change_206 : decode cX11_change 206 = .ok (.getfield 58, 3) := by decide +kernel
theorem dX11_change_209 : decode cX11_change 209 = .ok (.iload 8, 2) := by decide +kernel
theorem dX11_change_211 : decode cX11_change 211 = .ok (.iload_n 1, 1) := by decide +kernel
theorem dX11_change_212 : decode cX11_change 212 = .ok (.iload_n 3, 1) := by decide +kernel
theorem dX11_change_213 : decode cX11_change 213 = .ok (.invokevirtual 287, 3) := by decide +kernel
theorem dX11_change_216 : decode cX11_change 216 = .ok (.goto 18, 3) := by decide +kernel
theorem dX11_change_219 : decode cX11_change 219 = .ok (.aload_n 0, 1) := by decide +kernel
theorem dX11_change_220 : decode cX11_change 220 = .ok (.getfield 58, 3) := by decide +kernel
theorem dX11_change_223 : decode cX11_change 223 = .ok (.iload 8, 2) := by decide +kernel
theorem dX11_change_225 : decode cX11_change 225 = .ok (.iload_n 1, 1) := by decide +kernel
theorem dX11_change_226 : decode cX11_change 226 = .ok (.iload_n 3, 1) := by decide +kernel
theorem dX11_change_227 : decode cX11_change 227 = .ok (.i2l, 1) := by decide +kernel
theorem dX11_change_228 : decode cX11_change 228 = .ok (.invokestatic 278, 3) := by decide +kernel
theorem dX11_change_231 : decode cX11_change 231 = .ok (.invokevirtual 290, 3) := by decide +kernel
theorem dX11_change_234 : decode cX11_change 234 = .ok (.aload 6, 2) := by decide +kernel
theorem dX11_change_236 : decode cX11_change 236 = .ok (.invokevirtual 247, 3) := by decide +kernel
theorem dX11_change_239 : decode cX11_change 239 = .ok (.ireturn, 1) := by decide +kernel
theorem dX11_change_240 : decode cX11_change 240 = .ok (.aload_n 0, 1) := by decide +kernel
theorem dX11_change_241 : decode cX11_change 241 = .ok (.iload_n 1, 1) := by decide +kernel
theorem dX11_change_242 : decode cX11_change 242 = .ok (.aload_n 0, 1) := by decide +kernel
theorem dX11_change_243 : decode cX11_change 243 = .ok (.getfield 58, 3) := by decide +kernel
theorem dX11_change_246 : decode cX11_change 246 = .ok (.iload 8, 2) := by decide +kernel
theorem dX11_change_248 : decode cX11_change 248 = .ok (.invokevirtual 250, 3) := by decide +kernel
theorem dX11_change_251 : decode cX11_change 251 = .ok (.iload_n 3, 1) := by decide +kernel
theorem dX11_change_252 : decode cX11_change 252 = .ok (.i2l, 1) := by decide +kernel
theorem dX11_change_253 : decode cX11_change 253 = .ok (.invokestatic 278, 3) := by decide +kernel
theorem dX11_change_256 : decode cX11_change 256 = .ok (.aload 6, 2) := by decide +kernel
theorem dX11_change_258 : decode cX11_change 258 = .ok (.invokevirtual 293, 3) := by decide +kernel
theorem dX11_change_261 : decode cX11_change 261 = .ok (.ireturn, 1) := by decide +kernel
theorem dX11_value_0 : decode cX11_value 0 = .ok (.aload_n 0, 1) := by decide +kernel
theorem dX11_value_1 : decode cX11_value 1 = .ok (.iload_n 1, 1) := by decide +kernel
theorem dX11_value_2 : decode cX11_value 2 = .ok (.invokevirtual 107, 3) := by decide +kernel
theorem dX11_value_5 : decode cX11_value 5 = .ok (.astore 4, 2) := by decide +kernel
theorem dX11_value_7 : decode cX11_value 7 = .ok (.aload 4, 2) := by decide +kernel
theorem dX11_value_9 : decode cX11_value 9 = .ok (.ifnonnull 5, 3) := by decide +kernel
theorem dX11_value_12 : decode cX11_value 12 = .ok (.iconst (-1), 1) := by decide +kernel
theorem dX11_value_13 : decode cX11_value 13 = .ok (.ireturn, 1) := by decide +kernel
theorem dX11_value_14 : decode cX11_value 14 = .ok (.aload 4, 2) := by decide +kernel
theorem dX11_value_16 : decode cX11_value 16 = .ok (.invokestatic 177, 3) := by decide +kernel
theorem dX11_value_19 : decode cX11_value 19 = .ok (.ifCond .eq 17, 3) := by decide +kernel
theorem dX11_value_22 : decode cX11_value 22 = .ok (.aload_n 0, 1) := by decide +kernel
theorem dX11_value_23 : decode cX11_value 23 = .ok (.getfield 58, 3) := by decide +kernel
theorem dX11_value_26 : decode cX11_value 26 = .ok (.aload 4, 2) := by decide +kernel
theorem dX11_value_28 : decode cX11_value 28 = .ok (.iload_n 2, 1) := by decide +kernel
theorem dX11_value_29 : decode cX11_value 29 = .ok (.iload_n 3, 1) := by decide +kernel
theorem dX11_value_30 : decode cX11_value 30 = .ok (.invokevirtual 318, 3) := by decide +kernel
theorem dX11_value_33 : decode cX11_value 33 = .ok (.goto 5, 3) := by decide +kernel
theorem dX11_value_36 : decode cX11_value 36 = .ok (.bipush (-3), 2) := by decide +kernel
theorem dX11_value_38 : decode cX11_value 38 = .ok (.ireturn, 1) := by decide +kernel
theorem dX11_sum_0 : decode cX11_sum 0 = .ok (.aload_n 0, 1) := by decide +kernel
theorem dX11_sum_1 : decode cX11_sum 1 = .ok (.iload_n 1, 1) := by decide +kernel
theorem dX11_sum_2 : decode cX11_sum 2 = .ok (.invokevirtual 107, 3) := by decide +kernel
theorem dX11_sum_5 : decode cX11_sum 5 = .ok (.astore 5, 2) := by decide +kernel
theorem dX11_sum_7 : decode cX11_sum 7 = .ok (.aload 5, 2) := by decide +kernel
theorem dX11_sum_9 : decode cX11_sum 9 = .ok (.ifnonnull 5, 3) := by decide +kernel
theorem dX11_sum_12 : decode cX11_sum 12 = .ok (.iconst (-1), 1) := by decide +kernel
theorem dX11_sum_13 : decode cX11_sum 13 = .ok (.ireturn, 1) := by decide +kernel
theorem dX11_sum_14 : decode cX11_sum 14 = .ok (.aload 5, 2) := by decide +kernel
theorem dX11_sum_16 : decode cX11_sum 16 = .ok (.invokestatic 177, 3) := by decide +kernel
theorem dX11_sum_19 : decode cX11_sum 19 = .ok (.ifCond .ne 6, 3) := by decide +kernel
theorem dX11_sum_22 : decode cX11_sum 22 = .ok (.bipush (-3), 2) := by decide +kernel
theorem dX11_sum_24 : decode cX11_sum 24 = .ok (.ireturn, 1) := by decide +kernel
theorem dX11_sum_25 : decode cX11_sum 25 = .ok (.aload_n 0, 1) := by decide +kernel
theorem dX11_sum_26 : decode cX11_sum 26 = .ok (.getfield 58, 3) := by decide +kernel
theorem dX11_sum_29 : decode cX11_sum 29 = .ok (.aload 5, 2) := by decide +kernel
theorem dX11_sum_31 : decode cX11_sum 31 = .ok (.iload_n 2, 1) := by decide +kernel
theorem dX11_sum_32 : decode cX11_sum 32 = .ok (.iload_n 3, 1) := by decide +kernel
theorem dX11_sum_33 : decode cX11_sum 33 = .ok (.iload 4, 2) := by decide +kernel
theorem dX11_sum_35 : decode cX11_sum 35 = .ok (.invokevirtual 322, 3) := by decide +kernel
theorem dX11_sum_38 : decode cX11_sum 38 = .ok (.ireturn, 1) := by decide +kernel
theorem dX11_quotient_0 : decode cX11_quotient 0 = .ok (.aload_n 0, 1) := by decide +kernel
theorem dX11_quotient_1 : decode cX11_quotient 1 = .ok (.iload_n 1, 1) := by decide +kernel
theorem dX11_quotient_2 : decode cX11_quotient 2 = .ok (.invokevirtual 107, 3) := by decide +kernel
theorem dX11_quotient_5 : decode cX11_quotient 5 = .ok (.astore 4, 2) := by decide +kernel
theorem dX11_quotient_7 : decode cX11_quotient 7 = .ok (.aload_n 0, 1) := by decide +kernel
theorem dX11_quotient_8 : decode cX11_quotient 8 = .ok (.iload_n 3, 1) := by decide +kernel
theorem dX11_quotient_9 : decode cX11_quotient 9 = .ok (.invokevirtual 107, 3) := by decide +kernel
theorem dX11_quotient_12 : decode cX11_quotient 12 = .ok (.astore 5, 2) := by decide +kernel
theorem dX11_quotient_14 : decode cX11_quotient 14 = .ok (.aload 4, 2) := by decide +kernel
theorem dX11_quotient_16 : decode cX11_quotient 16 = .ok (.ifnull 8, 3) := by decide +kernel
theorem dX11_quotient_19 : decode cX11_quotient 19 = .ok (.aload 5, 2) := by decide +kernel
theorem dX11_quotient_21 : decode cX11_quotient 21 = .ok (.ifnonnull 5, 3) := by decide +kernel
theorem dX11_quotient_24 : decode cX11_quotient 24 = .ok (.iconst (-1), 1) := by decide +kernel
theorem dX11_quotient_25 : decode cX11_quotient 25 = .ok (.ireturn, 1) := by decide +kernel
theorem dX11_quotient_26 : decode cX11_quotient 26 = .ok (.aload 4, 2) := by decide +kernel
theorem dX11_quotient_28 : decode cX11_quotient 28 = .ok (.invokestatic 177, 3) := by decide +kernel
theorem dX11_quotient_31 : decode cX11_quotient 31 = .ok (.ifCond .ne 6, 3) := by decide +kernel
theorem dX11_quotient_34 : decode cX11_quotient 34 = .ok (.bipush (-3), 2) := by decide +kernel
theorem dX11_quotient_36 : decode cX11_quotient 36 = .ok (.ireturn, 1) := by decide +kernel
theorem dX11_quotient_37 : decode cX11_quotient 37 = .ok (.iload_n 2, 1) := by decide +kernel
theorem dX11_quotient_38 : decode cX11_quotient 38 = .ok (.ifCond .lt 16, 3) := by decide +kernel
theorem dX11_quotient_41 : decode cX11_quotient 41 = .ok (.iload_n 2, 1) := by decide +kernel
theorem dX11_quotient_42 : decode cX11_quotient 42 = .ok (.iconst 1, 1) := by decide +kernel
theorem dX11_quotient_43 : decode cX11_quotient 43 = .ok (.if_icmp .gt 11, 3) := by decide +kernel
theorem dX11_quotient_46 : decode cX11_quotient 46 = .ok (.aload 4, 2) := by decide +kernel
theorem dX11_quotient_48 : decode cX11_quotient 48 = .ok (.invokevirtual 237, 3) := by decide +kernel
theorem dX11_quotient_51 : decode cX11_quotient 51 = .ok (.ifCond .eq 5, 3) := by decide +kernel
theorem dX11_quotient_54 : decode cX11_quotient 54 = .ok (.iconst (-1), 1) := by decide +kernel
theorem dX11_quotient_55 : decode cX11_quotient 55 = .ok (.ireturn, 1) := by decide +kernel
theorem dX11_quotient_56 : decode cX11_quotient 56 = .ok (.aload_n 0, 1) := by decide +kernel
theorem dX11_quotient_57 : decode cX11_quotient 57 = .ok (.getfield 42, 3) := by decide +kernel
theorem dX11_quotient_60 : decode cX11_quotient 60 = .ok (.invokevirtual 111, 3) := by decide +kernel
theorem dX11_quotient_63 : decode cX11_quotient 63 = .ok (.aload_n 0, 1) := by decide +kernel
theorem dX11_quotient_64 : decode cX11_quotient 64 = .ok (.getfield 58, 3) := by decide +kernel
theorem dX11_quotient_67 : decode cX11_quotient 67 = .ok (.aload 4, 2) := by decide +kernel
theorem dX11_quotient_69 : decode cX11_quotient 69 = .ok (.invokevirtual 241, 3) := by decide +kernel
theorem dX11_quotient_72 : decode cX11_quotient 72 = .ok (.istore 6, 2) := by decide +kernel
theorem dX11_quotient_74 : decode cX11_quotient 74 = .ok (.aload_n 0, 1) := by decide +kernel
theorem dX11_quotient_75 : decode cX11_quotient 75 = .ok (.getfield 58, 3) := by decide +kernel
theorem dX11_quotient_78 : decode cX11_quotient 78 = .ok (.invokevirtual 253, 3) := by decide +kernel
theorem dX11_quotient_81 : decode cX11_quotient 81 = .ok (.istore 7, 2) := by decide +kernel
theorem dX11_quotient_83 : decode cX11_quotient 83 = .ok (.aload_n 0, 1) := by decide +kernel
theorem dX11_quotient_84 : decode cX11_quotient 84 = .ok (.getfield 58, 3) := by decide +kernel
theorem dX11_quotient_87 : decode cX11_quotient 87 = .ok (.iload 6, 2) := by decide +kernel
theorem dX11_quotient_89 : decode cX11_quotient 89 = .ok (.iload_n 2, 1) := by decide +kernel
theorem dX11_quotient_90 : decode cX11_quotient 90 = .ok (.iconst 1, 1) := by decide +kernel
theorem dX11_quotient_91 : decode cX11_quotient 91 = .ok (.invokevirtual 326, 3) := by decide +kernel
theorem dX11_quotient_94 : decode cX11_quotient 94 = .ok (.istore 8, 2) := by decide +kernel
theorem dX11_quotient_96 : decode cX11_quotient 96 = .ok (.aload_n 0, 1) := by decide +kernel
theorem dX11_quotient_97 : decode cX11_quotient 97 = .ok (.aload_n 0, 1) := by decide +kernel
theorem dX11_quotient_98 : decode cX11_quotient 98 = .ok (.getfield 54, 3) := by decide +kernel
theorem dX11_quotient_101 : decode cX11_quotient 101 = .ok (.iload 8, 2) := by decide +kernel
theorem dX11_quotient_103 : decode cX11_quotient 103 = .ok (.invokevirtual 274, 3) := by decide +kernel
theorem dX11_quotient_106 : decode cX11_quotient 106 = .ok (.ifCond .eq 8, 3) := by decide +kernel
theorem dX11_quotient_109 : decode cX11_quotient 109 = .ok (.iload 7, 2) := by decide +kernel
theorem dX11_quotient_111 : decode cX11_quotient 111 = .ok (.goto 4, 3) := by decide +kernel
theorem dX11_quotient_114 : decode cX11_quotient 114 = .ok (.iconst (-1), 1) := by decide +kernel
theorem dX11_quotient_115 : decode cX11_quotient 115 = .ok (.aload 5, 2) := by decide +kernel
theorem dX11_quotient_117 : decode cX11_quotient 117 = .ok (.invokevirtual 247, 3) := by decide +kernel
theorem dX11_quotient_120 : decode cX11_quotient 120 = .ok (.ireturn, 1) := by decide +kernel
theorem dX11_form_0 : decode cX11_form 0 = .ok (.aload_n 0, 1) := by decide +kernel
theorem dX11_form_1 : decode cX11_form 1 = .ok (.iload_n 1, 1) := by decide +kernel
theorem dX11_form_2 : decode cX11_form 2 = .ok (.invokevirtual 107, 3) := by decide +kernel
theorem dX11_form_5 : decode cX11_form 5 = .ok (.astore 4, 2) := by decide +kernel
theorem dX11_form_7 : decode cX11_form 7 = .ok (.aload_n 0, 1) := by decide +kernel
theorem dX11_form_8 : decode cX11_form 8 = .ok (.iload_n 3, 1) := by decide +kernel
theorem dX11_form_9 : decode cX11_form 9 = .ok (.invokevirtual 107, 3) := by decide +kernel
theorem dX11_form_12 : decode cX11_form 12 = .ok (.astore 5, 2) := by decide +kernel
theorem dX11_form_14 : decode cX11_form 14 = .ok (.aload 4, 2) := by decide +kernel
theorem dX11_form_16 : decode cX11_form 16 = .ok (.ifnull 8, 3) := by decide +kernel
theorem dX11_form_19 : decode cX11_form 19 = .ok (.aload 5, 2) := by decide +kernel
theorem dX11_form_21 : decode cX11_form 21 = .ok (.ifnonnull 5, 3) := by decide +kernel
theorem dX11_form_24 : decode cX11_form 24 = .ok (.iconst (-1), 1) := by decide +kernel
theorem dX11_form_25 : decode cX11_form 25 = .ok (.ireturn, 1) := by decide +kernel
theorem dX11_form_26 : decode cX11_form 26 = .ok (.aload 4, 2) := by decide +kernel
theorem dX11_form_28 : decode cX11_form 28 = .ok (.getfield 191, 3) := by decide +kernel
theorem dX11_form_31 : decode cX11_form 31 = .ok (.iconst 1, 1) := by decide +kernel
theorem dX11_form_32 : decode cX11_form 32 = .ok (.if_icmp .eq 6, 3) := by decide +kernel
theorem dX11_form_35 : decode cX11_form 35 = .ok (.bipush (-3), 2) := by decide +kernel
theorem dX11_form_37 : decode cX11_form 37 = .ok (.ireturn, 1) := by decide +kernel
theorem dX11_form_38 : decode cX11_form 38 = .ok (.iload_n 2, 1) := by decide +kernel
theorem dX11_form_39 : decode cX11_form 39 = .ok (.ifCond .lt 16, 3) := by decide +kernel
theorem dX11_form_42 : decode cX11_form 42 = .ok (.iload_n 2, 1) := by decide +kernel
theorem dX11_form_43 : decode cX11_form 43 = .ok (.iconst 2, 1) := by decide +kernel
theorem dX11_form_44 : decode cX11_form 44 = .ok (.if_icmp .gt 11, 3) := by decide +kernel
theorem dX11_form_47 : decode cX11_form 47 = .ok (.aload 4, 2) := by decide +kernel
theorem dX11_form_49 : decode cX11_form 49 = .ok (.invokevirtual 237, 3) := by decide +kernel
theorem dX11_form_52 : decode cX11_form 52 = .ok (.ifCond .eq 5, 3) := by decide +kernel
theorem dX11_form_55 : decode cX11_form 55 = .ok (.iconst (-1), 1) := by decide +kernel
theorem dX11_form_56 : decode cX11_form 56 = .ok (.ireturn, 1) := by decide +kernel
theorem dX11_form_57 : decode cX11_form 57 = .ok (.aload_n 0, 1) := by decide +kernel
theorem dX11_form_58 : decode cX11_form 58 = .ok (.getfield 42, 3) := by decide +kernel
theorem dX11_form_61 : decode cX11_form 61 = .ok (.invokevirtual 111, 3) := by decide +kernel
theorem dX11_form_64 : decode cX11_form 64 = .ok (.aload_n 0, 1) := by decide +kernel
theorem dX11_form_65 : decode cX11_form 65 = .ok (.getfield 58, 3) := by decide +kernel
theorem dX11_form_68 : decode cX11_form 68 = .ok (.aload 4, 2) := by decide +kernel
theorem dX11_form_70 : decode cX11_form 70 = .ok (.invokevirtual 241, 3) := by decide +kernel
theorem dX11_form_73 : decode cX11_form 73 = .ok (.istore 6, 2) := by decide +kernel
theorem dX11_form_75 : decode cX11_form 75 = .ok (.aload_n 0, 1) := by decide +kernel
theorem dX11_form_76 : decode cX11_form 76 = .ok (.getfield 76, 3) := by decide +kernel
theorem dX11_form_79 : decode cX11_form 79 = .ok (.aload_n 0, 1) := by decide +kernel
theorem dX11_form_80 : decode cX11_form 80 = .ok (.getfield 58, 3) := by decide +kernel
theorem dX11_form_83 : decode cX11_form 83 = .ok (.iload 6, 2) := by decide +kernel
theorem dX11_form_85 : decode cX11_form 85 = .ok (.invokevirtual 250, 3) := by decide +kernel
theorem dX11_form_88 : decode cX11_form 88 = .ok (.invokevirtual 329, 3) := by decide +kernel
theorem dX11_form_91 : decode cX11_form 91 = .ok (.ifCond .ne 6, 3) := by decide +kernel
theorem dX11_form_94 : decode cX11_form 94 = .ok (.bipush (-2), 2) := by decide +kernel
theorem dX11_form_96 : decode cX11_form 96 = .ok (.ireturn, 1) := by decide +kernel
theorem dX11_form_97 : decode cX11_form 97 = .ok (.aload_n 0, 1) := by decide +kernel
theorem dX11_form_98 : decode cX11_form 98 = .ok (.aload_n 0, 1) := by decide +kernel
theorem dX11_form_99 : decode cX11_form 99 = .ok (.getfield 58, 3) := by decide +kernel
theorem dX11_form_102 : decode cX11_form 102 = .ok (.iload_n 2, 1) := by decide +kernel
theorem dX11_form_103 : decode cX11_form 103 = .ok (.ifCond .ne 13, 3) := by decide +kernel
theorem dX11_form_106 : decode cX11_form 106 = .ok (.aload_n 0, 1) := by decide +kernel
theorem dX11_form_107 : decode cX11_form 107 = .ok (.getfield 76, 3) := by decide +kernel
theorem dX11_form_110 : decode cX11_form 110 = .ok (.getfield 332, 3) := by decide +kernel
theorem dX11_form_113 : decode cX11_form 113 = .ok (.goto 25, 3) := by decide +kernel
theorem dX11_form_116 : decode cX11_form 116 = .ok (.iload_n 2, 1) := by decide +kernel
theorem dX11_form_117 : decode cX11_form 117 = .ok (.iconst 1, 1) := by decide +kernel
theorem dX11_form_118 : decode cX11_form 118 = .ok (.if_icmp .ne 13, 3) := by decide +kernel
theorem dX11_form_121 : decode cX11_form 121 = .ok (.aload_n 0, 1) := by decide +kernel
theorem dX11_form_122 : decode cX11_form 122 = .ok (.getfield 76, 3) := by decide +kernel
theorem dX11_form_125 : decode cX11_form 125 = .ok (.getfield 335, 3) := by decide +kernel
theorem dX11_form_128 : decode cX11_form 128 = .ok (.goto 10, 3) := by decide +kernel
theorem dX11_form_131 : decode cX11_form 131 = .ok (.aload_n 0, 1) := by decide +kernel
theorem dX11_form_132 : decode cX11_form 132 = .ok (.getfield 76, 3) := by decide +kernel
theorem dX11_form_135 : decode cX11_form 135 = .ok (.getfield 338, 3) := by decide +kernel
theorem dX11_form_138 : decode cX11_form 138 = .ok (.invokevirtual 341, 3) := by decide +kernel
theorem dX11_form_141 : decode cX11_form 141 = .ok (.aload 5, 2) := by decide +kernel
theorem dX11_form_143 : decode cX11_form 143 = .ok (.invokevirtual 247, 3) := by decide +kernel
theorem dX11_form_146 : decode cX11_form 146 = .ok (.ireturn, 1) := by decide +kernel
theorem dX11_close_0 : decode cX11_close 0 = .ok (.aload_n 0, 1) := by decide +kernel
theorem dX11_close_1 : decode cX11_close 1 = .ok (.iload_n 1, 1) := by decide +kernel
theorem dX11_close_2 : decode cX11_close 2 = .ok (.invokevirtual 107, 3) := by decide +kernel
theorem dX11_close_5 : decode cX11_close 5 = .ok (.astore_n 3, 1) := by decide +kernel
theorem dX11_close_6 : decode cX11_close 6 = .ok (.aload_n 0, 1) := by decide +kernel
theorem dX11_close_7 : decode cX11_close 7 = .ok (.iload_n 2, 1) := by decide +kernel
theorem dX11_close_8 : decode cX11_close 8 = .ok (.invokevirtual 107, 3) := by decide +kernel
theorem dX11_close_11 : decode cX11_close 11 = .ok (.astore 4, 2) := by decide +kernel
theorem dX11_close_13 : decode cX11_close 13 = .ok (.aload_n 3, 1) := by decide +kernel
theorem dX11_close_14 : decode cX11_close 14 = .ok (.ifnull 8, 3) := by decide +kernel
theorem dX11_close_17 : decode cX11_close 17 = .ok (.aload 4, 2) := by decide +kernel
theorem dX11_close_19 : decode cX11_close 19 = .ok (.ifnonnull 5, 3) := by decide +kernel
theorem dX11_close_22 : decode cX11_close 22 = .ok (.iconst (-1), 1) := by decide +kernel
theorem dX11_close_23 : decode cX11_close 23 = .ok (.ireturn, 1) := by decide +kernel
theorem dX11_close_24 : decode cX11_close 24 = .ok (.aload_n 3, 1) := by decide +kernel
theorem dX11_close_25 : decode cX11_close 25 = .ok (.invokestatic 177, 3) := by decide +kernel
theorem dX11_close_28 : decode cX11_close 28 = .ok (.ifCond .ne 6, 3) := by decide +kernel
theorem dX11_close_31 : decode cX11_close 31 = .ok (.bipush (-3), 2) := by decide +kernel
theorem dX11_close_33 : decode cX11_close 33 = .ok (.ireturn, 1) := by decide +kernel
theorem dX11_close_34 : decode cX11_close 34 = .ok (.aload_n 3, 1) := by decide +kernel
theorem dX11_close_35 : decode cX11_close 35 = .ok (.invokevirtual 237, 3) := by decide +kernel
theorem dX11_close_38 : decode cX11_close 38 = .ok (.ifCond .eq 5, 3) := by decide +kernel
theorem dX11_close_41 : decode cX11_close 41 = .ok (.iconst (-1), 1) := by decide +kernel
theorem dX11_close_42 : decode cX11_close 42 = .ok (.ireturn, 1) := by decide +kernel
theorem dX11_close_43 : decode cX11_close 43 = .ok (.aload_n 0, 1) := by decide +kernel
theorem dX11_close_44 : decode cX11_close 44 = .ok (.getfield 42, 3) := by decide +kernel
theorem dX11_close_47 : decode cX11_close 47 = .ok (.invokevirtual 111, 3) := by decide +kernel
theorem dX11_close_50 : decode cX11_close 50 = .ok (.aload_n 0, 1) := by decide +kernel
theorem dX11_close_51 : decode cX11_close 51 = .ok (.getfield 76, 3) := by decide +kernel
theorem dX11_close_54 : decode cX11_close 54 = .ok (.aload_n 0, 1) := by decide +kernel
theorem dX11_close_55 : decode cX11_close 55 = .ok (.getfield 58, 3) := by decide +kernel
theorem dX11_close_58 : decode cX11_close 58 = .ok (.aload_n 3, 1) := by decide +kernel
theorem dX11_close_59 : decode cX11_close 59 = .ok (.invokevirtual 241, 3) := by decide +kernel
theorem dX11_close_62 : decode cX11_close 62 = .ok (.invokevirtual 344, 3) := by decide +kernel
theorem dX11_close_65 : decode cX11_close 65 = .ok (.istore 5, 2) := by decide +kernel
theorem dX11_close_67 : decode cX11_close 67 = .ok (.iload 5, 2) := by decide +kernel
theorem dX11_close_69 : decode cX11_close 69 = .ok (.ifCond .ne 12, 3) := by decide +kernel
theorem dX11_close_72 : decode cX11_close 72 = .ok (.aload_n 0, 1) := by decide +kernel
theorem dX11_close_73 : decode cX11_close 73 = .ok (.getfield 76, 3) := by decide +kernel
theorem dX11_close_76 : decode cX11_close 76 = .ok (.invokevirtual 347, 3) := by decide +kernel
theorem dX11_close_79 : decode cX11_close 79 = .ok (.istore 5, 2) := by decide +kernel
theorem dX11_close_81 : decode cX11_close 81 = .ok (.aload_n 0, 1) := by decide +kernel
theorem dX11_close_82 : decode cX11_close 82 = .ok (.getfield 42, 3) := by decide +kernel
theorem dX11_close_85 : decode cX11_close 85 = .ok (.getfield 163, 3) := by decide +kernel
theorem dX11_close_88 : decode cX11_close 88 = .ok (.ifCond .eq 6, 3) := by decide +kernel
theorem dX11_close_91 : decode cX11_close 91 = .ok (.bipush (-2), 2) := by decide +kernel
theorem dX11_close_93 : decode cX11_close 93 = .ok (.ireturn, 1) := by decide +kernel
theorem dX11_close_94 : decode cX11_close 94 = .ok (.iload 5, 2) := by decide +kernel
theorem dX11_close_96 : decode cX11_close 96 = .ok (.ifCond .ge 8, 3) := by decide +kernel
theorem dX11_close_99 : decode cX11_close 99 = .ok (.iload 5, 2) := by decide +kernel
theorem dX11_close_101 : decode cX11_close 101 = .ok (.goto 23, 3) := by decide +kernel
theorem dX11_close_104 : decode cX11_close 104 = .ok (.aload_n 0, 1) := by decide +kernel
theorem dX11_close_105 : decode cX11_close 105 = .ok (.aload_n 0, 1) := by decide +kernel
theorem dX11_close_106 : decode cX11_close 106 = .ok (.getfield 58, 3) := by decide +kernel
theorem dX11_close_109 : decode cX11_close 109 = .ok (.aload_n 0, 1) := by decide +kernel
theorem dX11_close_110 : decode cX11_close 110 = .ok (.getfield 76, 3) := by decide +kernel
theorem dX11_close_113 : decode cX11_close 113 = .ok (.getfield 350, 3) := by decide +kernel
theorem dX11_close_116 : decode cX11_close 116 = .ok (.invokevirtual 341, 3) := by decide +kernel
theorem dX11_close_119 : decode cX11_close 119 = .ok (.aload 4, 2) := by decide +kernel
theorem dX11_close_121 : decode cX11_close 121 = .ok (.invokevirtual 247, 3) := by decide +kernel
theorem dX11_close_124 : decode cX11_close 124 = .ok (.ireturn, 1) := by decide +kernel
theorem dX11_recur_0 : decode cX11_recur 0 = .ok (.aload_n 0, 1) := by decide +kernel
theorem dX11_recur_1 : decode cX11_recur 1 = .ok (.iload_n 1, 1) := by decide +kernel
theorem dX11_recur_2 : decode cX11_recur 2 = .ok (.invokevirtual 107, 3) := by decide +kernel
theorem dX11_recur_5 : decode cX11_recur 5 = .ok (.astore 4, 2) := by decide +kernel
theorem dX11_recur_7 : decode cX11_recur 7 = .ok (.aload_n 0, 1) := by decide +kernel
theorem dX11_recur_8 : decode cX11_recur 8 = .ok (.iload_n 3, 1) := by decide +kernel
theorem dX11_recur_9 : decode cX11_recur 9 = .ok (.invokevirtual 107, 3) := by decide +kernel
theorem dX11_recur_12 : decode cX11_recur 12 = .ok (.astore 5, 2) := by decide +kernel
theorem dX11_recur_14 : decode cX11_recur 14 = .ok (.aload 4, 2) := by decide +kernel
theorem dX11_recur_16 : decode cX11_recur 16 = .ok (.ifnull 8, 3) := by decide +kernel
theorem dX11_recur_19 : decode cX11_recur 19 = .ok (.aload 5, 2) := by decide +kernel
theorem dX11_recur_21 : decode cX11_recur 21 = .ok (.ifnonnull 5, 3) := by decide +kernel
theorem dX11_recur_24 : decode cX11_recur 24 = .ok (.iconst (-1), 1) := by decide +kernel
theorem dX11_recur_25 : decode cX11_recur 25 = .ok (.ireturn, 1) := by decide +kernel
theorem dX11_recur_26 : decode cX11_recur 26 = .ok (.aload 4, 2) := by decide +kernel
theorem dX11_recur_28 : decode cX11_recur 28 = .ok (.invokestatic 177, 3) := by decide +kernel
theorem dX11_recur_31 : decode cX11_recur 31 = .ok (.ifCond .ne 6, 3) := by decide +kernel
theorem dX11_recur_34 : decode cX11_recur 34 = .ok (.bipush (-3), 2) := by decide +kernel
theorem dX11_recur_36 : decode cX11_recur 36 = .ok (.ireturn, 1) := by decide +kernel
theorem dX11_recur_37 : decode cX11_recur 37 = .ok (.iload_n 2, 1) := by decide +kernel
theorem dX11_recur_38 : decode cX11_recur 38 = .ok (.ifCond .lt 16, 3) := by decide +kernel
theorem dX11_recur_41 : decode cX11_recur 41 = .ok (.iload_n 2, 1) := by decide +kernel
theorem dX11_recur_42 : decode cX11_recur 42 = .ok (.iconst 3, 1) := by decide +kernel
theorem dX11_recur_43 : decode cX11_recur 43 = .ok (.if_icmp .gt 11, 3) := by decide +kernel
theorem dX11_recur_46 : decode cX11_recur 46 = .ok (.aload 4, 2) := by decide +kernel
theorem dX11_recur_48 : decode cX11_recur 48 = .ok (.invokevirtual 237, 3) := by decide +kernel
theorem dX11_recur_51 : decode cX11_recur 51 = .ok (.ifCond .eq 5, 3) := by decide +kernel
theorem dX11_recur_54 : decode cX11_recur 54 = .ok (.iconst (-1), 1) := by decide +kernel
theorem dX11_recur_55 : decode cX11_recur 55 = .ok (.ireturn, 1) := by decide +kernel
theorem dX11_recur_56 : decode cX11_recur 56 = .ok (.aload_n 0, 1) := by decide +kernel
theorem dX11_recur_57 : decode cX11_recur 57 = .ok (.getfield 42, 3) := by decide +kernel
theorem dX11_recur_60 : decode cX11_recur 60 = .ok (.invokevirtual 111, 3) := by decide +kernel
theorem dX11_recur_63 : decode cX11_recur 63 = .ok (.aload_n 0, 1) := by decide +kernel
theorem dX11_recur_64 : decode cX11_recur 64 = .ok (.getfield 76, 3) := by decide +kernel
theorem dX11_recur_67 : decode cX11_recur 67 = .ok (.aload_n 0, 1) := by decide +kernel
theorem dX11_recur_68 : decode cX11_recur 68 = .ok (.getfield 58, 3) := by decide +kernel
theorem dX11_recur_71 : decode cX11_recur 71 = .ok (.aload 4, 2) := by decide +kernel
theorem dX11_recur_73 : decode cX11_recur 73 = .ok (.invokevirtual 241, 3) := by decide +kernel
theorem dX11_recur_76 : decode cX11_recur 76 = .ok (.iload_n 2, 1) := by decide +kernel
theorem dX11_recur_77 : decode cX11_recur 77 = .ok (.invokevirtual 353, 3) := by decide +kernel
theorem dX11_recur_80 : decode cX11_recur 80 = .ok (.ifCond .eq 7, 3) := by decide +kernel
theorem dX11_recur_83 : decode cX11_recur 83 = .ok (.iconst (-1), 1) := by decide +kernel
theorem dX11_recur_84 : decode cX11_recur 84 = .ok (.goto 5, 3) := by decide +kernel
theorem dX11_recur_87 : decode cX11_recur 87 = .ok (.bipush (-2), 2) := by decide +kernel
theorem dX11_recur_89 : decode cX11_recur 89 = .ok (.istore 6, 2) := by decide +kernel
theorem dX11_recur_91 : decode cX11_recur 91 = .ok (.iconst 0, 1) := by decide +kernel
theorem dX11_recur_92 : decode cX11_recur 92 = .ok (.istore 7, 2) := by decide +kernel
theorem dX11_recur_94 : decode cX11_recur 94 = .ok (.iload 7, 2) := by decide +kernel
theorem dX11_recur_96 : decode cX11_recur 96 = .ok (.iload_n 2, 1) := by decide +kernel
theorem dX11_recur_97 : decode cX11_recur 97 = .ok (.if_icmp .gt 40, 3) := by decide +kernel
theorem dX11_recur_100 : decode cX11_recur 100 = .ok (.iload 6, 2) := by decide +kernel
theorem dX11_recur_102 : decode cX11_recur 102 = .ok (.iconst (-1), 1) := by decide +kernel
theorem dX11_recur_103 : decode cX11_recur 103 = .ok (.if_icmp .ne 34, 3) := by decide +kernel
theorem dX11_recur_106 : decode cX11_recur 106 = .ok (.aload_n 0, 1) := by decide +kernel
theorem dX11_recur_107 : decode cX11_recur 107 = .ok (.getfield 76, 3) := by decide +kernel
theorem dX11_recur_110 : decode cX11_recur 110 = .ok (.iload 7, 2) := by decide +kernel
theorem dX11_recur_112 : decode cX11_recur 112 = .ok (.invokevirtual 357, 3) := by decide +kernel
theorem dX11_recur_115 : decode cX11_recur 115 = .ok (.istore 6, 2) := by decide +kernel
theorem dX11_recur_117 : decode cX11_recur 117 = .ok (.iload 6, 2) := by decide +kernel
theorem dX11_recur_119 : decode cX11_recur 119 = .ok (.ifCond .ne 12, 3) := by decide +kernel
theorem dX11_recur_122 : decode cX11_recur 122 = .ok (.aload_n 0, 1) := by decide +kernel
theorem dX11_recur_123 : decode cX11_recur 123 = .ok (.getfield 76, 3) := by decide +kernel
theorem dX11_recur_126 : decode cX11_recur 126 = .ok (.invokevirtual 347, 3) := by decide +kernel
theorem dX11_recur_129 : decode cX11_recur 129 = .ok (.istore 6, 2) := by decide +kernel
theorem dX11_recur_131 : decode cX11_recur 131 = .ok (.iinc 7 1, 3) := by decide +kernel
theorem dX11_recur_134 : decode cX11_recur 134 = .ok (.goto (-40), 3) := by decide +kernel
theorem dX11_recur_137 : decode cX11_recur 137 = .ok (.aload_n 0, 1) := by decide +kernel
theorem dX11_recur_138 : decode cX11_recur 138 = .ok (.getfield 42, 3) := by decide +kernel
theorem dX11_recur_141 : decode cX11_recur 141 = .ok (.getfield 163, 3) := by decide +kernel
theorem dX11_recur_144 : decode cX11_recur 144 = .ok (.ifCond .eq 6, 3) := by decide +kernel
theorem dX11_recur_147 : decode cX11_recur 147 = .ok (.bipush (-2), 2) := by decide +kernel
theorem dX11_recur_149 : decode cX11_recur 149 = .ok (.ireturn, 1) := by decide +kernel
theorem dX11_recur_150 : decode cX11_recur 150 = .ok (.iload 6, 2) := by decide +kernel
theorem dX11_recur_152 : decode cX11_recur 152 = .ok (.ifCond .lt 14, 3) := by decide +kernel
theorem dX11_recur_155 : decode cX11_recur 155 = .ok (.aload_n 0, 1) := by decide +kernel
theorem dX11_recur_156 : decode cX11_recur 156 = .ok (.getfield 76, 3) := by decide +kernel
theorem dX11_recur_159 : decode cX11_recur 159 = .ok (.aload 5, 2) := by decide +kernel
theorem dX11_recur_161 : decode cX11_recur 161 = .ok (.iload 6, 2) := by decide +kernel
theorem dX11_recur_163 : decode cX11_recur 163 = .ok (.invokevirtual 360, 3) := by decide +kernel
theorem dX11_recur_166 : decode cX11_recur 166 = .ok (.iload 6, 2) := by decide +kernel
theorem dX11_recur_168 : decode cX11_recur 168 = .ok (.ireturn, 1) := by decide +kernel
theorem dX11_part_0 : decode cX11_part 0 = .ok (.aload_n 0, 1) := by decide +kernel
theorem dX11_part_1 : decode cX11_part 1 = .ok (.iload_n 1, 1) := by decide +kernel
theorem dX11_part_2 : decode cX11_part 2 = .ok (.invokevirtual 107, 3) := by decide +kernel
theorem dX11_part_5 : decode cX11_part 5 = .ok (.astore 4, 2) := by decide +kernel
theorem dX11_part_7 : decode cX11_part 7 = .ok (.aload_n 0, 1) := by decide +kernel
theorem dX11_part_8 : decode cX11_part 8 = .ok (.iload_n 3, 1) := by decide +kernel
theorem dX11_part_9 : decode cX11_part 9 = .ok (.invokevirtual 107, 3) := by decide +kernel
theorem dX11_part_12 : decode cX11_part 12 = .ok (.astore 5, 2) := by decide +kernel
theorem dX11_part_14 : decode cX11_part 14 = .ok (.aload 4, 2) := by decide +kernel
theorem dX11_part_16 : decode cX11_part 16 = .ok (.ifnull 8, 3) := by decide +kernel
theorem dX11_part_19 : decode cX11_part 19 = .ok (.aload 5, 2) := by decide +kernel
theorem dX11_part_21 : decode cX11_part 21 = .ok (.ifnonnull 5, 3) := by decide +kernel
theorem dX11_part_24 : decode cX11_part 24 = .ok (.iconst (-1), 1) := by decide +kernel
theorem dX11_part_25 : decode cX11_part 25 = .ok (.ireturn, 1) := by decide +kernel
theorem dX11_part_26 : decode cX11_part 26 = .ok (.aload 4, 2) := by decide +kernel
theorem dX11_part_28 : decode cX11_part 28 = .ok (.getfield 191, 3) := by decide +kernel
theorem dX11_part_31 : decode cX11_part 31 = .ok (.iconst 3, 1) := by decide +kernel
theorem dX11_part_32 : decode cX11_part 32 = .ok (.if_icmp .eq 15, 3) := by decide +kernel
theorem dX11_part_35 : decode cX11_part 35 = .ok (.aload 4, 2) := by decide +kernel
theorem dX11_part_37 : decode cX11_part 37 = .ok (.getfield 191, 3) := by decide +kernel
theorem dX11_part_40 : decode cX11_part 40 = .ok (.iconst 4, 1) := by decide +kernel
theorem dX11_part_41 : decode cX11_part 41 = .ok (.if_icmp .eq 6, 3) := by decide +kernel
theorem dX11_part_44 : decode cX11_part 44 = .ok (.bipush (-3), 2) := by decide +kernel
theorem dX11_part_46 : decode cX11_part 46 = .ok (.ireturn, 1) := by decide +kernel
theorem dX11_part_47 : decode cX11_part 47 = .ok (.iload_n 2, 1) := by decide +kernel
theorem dX11_part_48 : decode cX11_part 48 = .ok (.aload 4, 2) := by decide +kernel
theorem dX11_part_50 : decode cX11_part 50 = .ok (.getfield 206, 3) := by decide +kernel
theorem dX11_part_53 : decode cX11_part 53 = .ok (.if_icmp .gt 21, 3) := by decide +kernel
theorem dX11_part_56 : decode cX11_part 56 = .ok (.iload_n 2, 1) := by decide +kernel
theorem dX11_part_57 : decode cX11_part 57 = .ok (.aload 4, 2) := by decide +kernel
theorem dX11_part_59 : decode cX11_part 59 = .ok (.getfield 191, 3) := by decide +kernel
theorem dX11_part_62 : decode cX11_part 62 = .ok (.iconst 3, 1) := by decide +kernel
theorem dX11_part_63 : decode cX11_part 63 = .ok (.if_icmp .ne 7, 3) := by decide +kernel
theorem dX11_part_66 : decode cX11_part 66 = .ok (.iconst (-1), 1) := by decide +kernel
theorem dX11_part_67 : decode cX11_part 67 = .ok (.goto 4, 3) := by decide +kernel
theorem dX11_part_70 : decode cX11_part 70 = .ok (.iconst 0, 1) := by decide +kernel
theorem dX11_part_71 : decode cX11_part 71 = .ok (.if_icmp .ge 5, 3) := by decide +kernel
theorem dX11_part_74 : decode cX11_part 74 = .ok (.iconst (-1), 1) := by decide +kernel
theorem dX11_part_75 : decode cX11_part 75 = .ok (.ireturn, 1) := by decide +kernel
theorem dX11_part_76 : decode cX11_part 76 = .ok (.aload_n 0, 1) := by decide +kernel
theorem dX11_part_77 : decode cX11_part 77 = .ok (.getfield 42, 3) := by decide +kernel
theorem dX11_part_80 : decode cX11_part 80 = .ok (.invokevirtual 111, 3) := by decide +kernel
theorem dX11_part_83 : decode cX11_part 83 = .ok (.aload_n 0, 1) := by decide +kernel
theorem dX11_part_84 : decode cX11_part 84 = .ok (.getfield 58, 3) := by decide +kernel
theorem dX11_part_87 : decode cX11_part 87 = .ok (.invokevirtual 253, 3) := by decide +kernel
theorem dX11_part_90 : decode cX11_part 90 = .ok (.istore 6, 2) := by decide +kernel
theorem dX11_part_92 : decode cX11_part 92 = .ok (.iload_n 2, 1) := by decide +kernel
theorem dX11_part_93 : decode cX11_part 93 = .ok (.ifCond .ge 32, 3) := by decide +kernel
theorem dX11_part_96 : decode cX11_part 96 = .ok (.aload_n 0, 1) := by decide +kernel
theorem dX11_part_97 : decode cX11_part 97 = .ok (.getfield 46, 3) := by decide +kernel
theorem dX11_part_100 : decode cX11_part 100 = .ok (.aload 4, 2) := by decide +kernel
theorem dX11_part_102 : decode cX11_part 102 = .ok (.getfield 363, 3) := by decide +kernel
theorem dX11_part_105 : decode cX11_part 105 = .ok (.invokevirtual 366, 3) := by decide +kernel
theorem dX11_part_108 : decode cX11_part 108 = .ok (.pop, 1) := by decide +kernel
theorem dX11_part_109 : decode cX11_part 109 = .ok (.aload_n 0, 1) := by decide +kernel
theorem dX11_part_110 : decode cX11_part 110 = .ok (.getfield 46, 3) := by decide +kernel
theorem dX11_part_113 : decode cX11_part 113 = .ok (.aload 4, 2) := by decide +kernel
theorem dX11_part_115 : decode cX11_part 115 = .ok (.getfield 369, 3) := by decide +kernel
theorem dX11_part_118 : decode cX11_part 118 = .ok (.invokevirtual 366, 3) := by decide +kernel
theorem dX11_part_121 : decode cX11_part 121 = .ok (.pop, 1) := by decide +kernel
theorem dX11_part_122 : decode cX11_part 122 = .ok (.goto 23, 3) := by decide +kernel
theorem dX11_part_125 : decode cX11_part 125 = .ok (.aload_n 0, 1) := by decide +kernel
theorem dX11_part_126 : decode cX11_part 126 = .ok (.getfield 46, 3) := by decide +kernel
theorem dX11_part_129 : decode cX11_part 129 = .ok (.aload 4, 2) := by decide +kernel
theorem dX11_part_131 : decode cX11_part 131 = .ok (.iload_n 2, 1) := by decide +kernel
theorem dX11_part_132 : decode cX11_part 132 = .ok (.invokevirtual 372, 3) := by decide +kernel
theorem dX11_part_135 : decode cX11_part 135 = .ok (.pop, 1) := by decide +kernel
theorem dX11_part_136 : decode cX11_part 136 = .ok (.aload_n 0, 1) := by decide +kernel
theorem dX11_part_137 : decode cX11_part 137 = .ok (.getfield 42, 3) := by decide +kernel
theorem dX11_part_140 : decode cX11_part 140 = .ok (.iconst 1, 1) := by decide +kernel
theorem dX11_part_141 : decode cX11_part 141 = .ok (.invokevirtual 271, 3) := by decide +kernel
theorem dX11_part_144 : decode cX11_part 144 = .ok (.pop, 1) := by decide +kernel
theorem dX11_part_145 : decode cX11_part 145 = .ok (.aload_n 0, 1) := by decide +kernel
theorem dX11_part_146 : decode cX11_part 146 = .ok (.iload 6, 2) := by decide +kernel
theorem dX11_part_148 : decode cX11_part 148 = .ok (.aload 5, 2) := by decide +kernel
theorem dX11_part_150 : decode cX11_part 150 = .ok (.invokevirtual 247, 3) := by decide +kernel
theorem dX11_part_153 : decode cX11_part 153 = .ok (.ireturn, 1) := by decide +kernel
theorem dX11_check_0 : decode cX11_check 0 = .ok (.aload_n 0, 1) := by decide +kernel
theorem dX11_check_1 : decode cX11_check 1 = .ok (.iload_n 1, 1) := by decide +kernel
theorem dX11_check_2 : decode cX11_check 2 = .ok (.invokevirtual 107, 3) := by decide +kernel
theorem dX11_check_5 : decode cX11_check 5 = .ok (.astore_n 3, 1) := by decide +kernel
theorem dX11_check_6 : decode cX11_check 6 = .ok (.aload_n 0, 1) := by decide +kernel
theorem dX11_check_7 : decode cX11_check 7 = .ok (.iload_n 2, 1) := by decide +kernel
theorem dX11_check_8 : decode cX11_check 8 = .ok (.invokevirtual 107, 3) := by decide +kernel
theorem dX11_check_11 : decode cX11_check 11 = .ok (.astore 4, 2) := by decide +kernel
theorem dX11_check_13 : decode cX11_check 13 = .ok (.aload_n 3, 1) := by decide +kernel
theorem dX11_check_14 : decode cX11_check 14 = .ok (.ifnull 8, 3) := by decide +kernel
theorem dX11_check_17 : decode cX11_check 17 = .ok (.aload 4, 2) := by decide +kernel
theorem dX11_check_19 : decode cX11_check 19 = .ok (.ifnonnull 5, 3) := by decide +kernel
theorem dX11_check_22 : decode cX11_check 22 = .ok (.iconst (-1), 1) := by decide +kernel
theorem dX11_check_23 : decode cX11_check 23 = .ok (.ireturn, 1) := by decide +kernel
theorem dX11_check_24 : decode cX11_check 24 = .ok (.aload_n 3, 1) := by decide +kernel
theorem dX11_check_25 : decode cX11_check 25 = .ok (.getfield 191, 3) := by decide +kernel
theorem dX11_check_28 : decode cX11_check 28 = .ok (.iconst 3, 1) := by decide +kernel
theorem dX11_check_29 : decode cX11_check 29 = .ok (.if_icmp .ne 11, 3) := by decide +kernel
theorem dX11_check_32 : decode cX11_check 32 = .ok (.aload 4, 2) := by decide +kernel
theorem dX11_check_34 : decode cX11_check 34 = .ok (.invokestatic 177, 3) := by decide +kernel
theorem dX11_check_37 : decode cX11_check 37 = .ok (.ifCond .ne 6, 3) := by decide +kernel
theorem dX11_check_40 : decode cX11_check 40 = .ok (.bipush (-3), 2) := by decide +kernel
theorem dX11_check_42 : decode cX11_check 42 = .ok (.ireturn, 1) := by decide +kernel
theorem dX11_check_43 : decode cX11_check 43 = .ok (.aload 4, 2) := by decide +kernel
theorem dX11_check_45 : decode cX11_check 45 = .ok (.invokevirtual 237, 3) := by decide +kernel
theorem dX11_check_48 : decode cX11_check 48 = .ok (.ifCond .eq 5, 3) := by decide +kernel
theorem dX11_check_51 : decode cX11_check 51 = .ok (.iconst (-1), 1) := by decide +kernel
theorem dX11_check_52 : decode cX11_check 52 = .ok (.ireturn, 1) := by decide +kernel
theorem dX11_check_53 : decode cX11_check 53 = .ok (.aload_n 0, 1) := by decide +kernel
theorem dX11_check_54 : decode cX11_check 54 = .ok (.getfield 42, 3) := by decide +kernel
theorem dX11_check_57 : decode cX11_check 57 = .ok (.invokevirtual 111, 3) := by decide +kernel
theorem dX11_check_60 : decode cX11_check 60 = .ok (.aload_n 0, 1) := by decide +kernel
theorem dX11_check_61 : decode cX11_check 61 = .ok (.getfield 76, 3) := by decide +kernel
theorem dX11_check_64 : decode cX11_check 64 = .ok (.aload_n 0, 1) := by decide +kernel
theorem dX11_check_65 : decode cX11_check 65 = .ok (.getfield 58, 3) := by decide +kernel
theorem dX11_check_68 : decode cX11_check 68 = .ok (.aload 4, 2) := by decide +kernel
theorem dX11_check_70 : decode cX11_check 70 = .ok (.invokevirtual 241, 3) := by decide +kernel
theorem dX11_check_73 : decode cX11_check 73 = .ok (.aload_n 3, 1) := by decide +kernel
theorem dX11_check_74 : decode cX11_check 74 = .ok (.getfield 206, 3) := by decide +kernel
theorem dX11_check_77 : decode cX11_check 77 = .ok (.invokevirtual 353, 3) := by decide +kernel
theorem dX11_check_80 : decode cX11_check 80 = .ok (.istore 5, 2) := by decide +kernel
theorem dX11_check_82 : decode cX11_check 82 = .ok (.iload 5, 2) := by decide +kernel
theorem dX11_check_84 : decode cX11_check 84 = .ok (.ifCond .eq 18, 3) := by decide +kernel
theorem dX11_check_87 : decode cX11_check 87 = .ok (.aload_n 0, 1) := by decide +kernel
theorem dX11_check_88 : decode cX11_check 88 = .ok (.getfield 76, 3) := by decide +kernel
theorem dX11_check_91 : decode cX11_check 91 = .ok (.aload_n 3, 1) := by decide +kernel
theorem dX11_check_92 : decode cX11_check 92 = .ok (.invokevirtual 376, 3) := by decide +kernel
theorem dX11_check_95 : decode cX11_check 95 = .ok (.ifCond .eq 7, 3) := by decide +kernel
theorem dX11_check_98 : decode cX11_check 98 = .ok (.iconst 1, 1) := by decide +kernel
theorem dX11_check_99 : decode cX11_check 99 = .ok (.goto 4, 3) := by decide +kernel
theorem dX11_check_102 : decode cX11_check 102 = .ok (.iconst 0, 1) := by decide +kernel
theorem dX11_check_103 : decode cX11_check 103 = .ok (.istore 6, 2) := by decide +kernel
theorem dX11_check_105 : decode cX11_check 105 = .ok (.aload_n 0, 1) := by decide +kernel
theorem dX11_check_106 : decode cX11_check 106 = .ok (.getfield 42, 3) := by decide +kernel
theorem dX11_check_109 : decode cX11_check 109 = .ok (.getfield 163, 3) := by decide +kernel
theorem dX11_check_112 : decode cX11_check 112 = .ok (.ifCond .ne 8, 3) := by decide +kernel
theorem dX11_check_115 : decode cX11_check 115 = .ok (.iload 5, 2) := by decide +kernel
theorem dX11_check_117 : decode cX11_check 117 = .ok (.ifCond .ne 8, 3) := by decide +kernel
theorem dX11_check_120 : decode cX11_check 120 = .ok (.bipush (-2), 2) := by decide +kernel
theorem dX11_check_122 : decode cX11_check 122 = .ok (.goto 13, 3) := by decide +kernel
theorem dX11_check_125 : decode cX11_check 125 = .ok (.iload 6, 2) := by decide +kernel
theorem dX11_check_127 : decode cX11_check 127 = .ok (.ifCond .eq 7, 3) := by decide +kernel
theorem dX11_check_130 : decode cX11_check 130 = .ok (.iconst 1, 1) := by decide +kernel
theorem dX11_check_131 : decode cX11_check 131 = .ok (.goto 4, 3) := by decide +kernel
theorem dX11_check_134 : decode cX11_check 134 = .ok (.iconst 0, 1) := by decide +kernel
theorem dX11_check_135 : decode cX11_check 135 = .ok (.ireturn, 1) := by decide +kernel
theorem dX11_poke_0 : decode cX11_poke 0 = .ok (.aload_n 0, 1) := by decide +kernel
theorem dX11_poke_1 : decode cX11_poke 1 = .ok (.iload_n 1, 1) := by decide +kernel
theorem dX11_poke_2 : decode cX11_poke 2 = .ok (.invokevirtual 107, 3) := by decide +kernel
theorem dX11_poke_5 : decode cX11_poke 5 = .ok (.astore 6, 2) := by decide +kernel
theorem dX11_poke_7 : decode cX11_poke 7 = .ok (.aload 6, 2) := by decide +kernel
theorem dX11_poke_9 : decode cX11_poke 9 = .ok (.ifnonnull 5, 3) := by decide +kernel
theorem dX11_poke_12 : decode cX11_poke 12 = .ok (.iconst (-1), 1) := by decide +kernel
theorem dX11_poke_13 : decode cX11_poke 13 = .ok (.ireturn, 1) := by decide +kernel
theorem dX11_poke_14 : decode cX11_poke 14 = .ok (.aload 6, 2) := by decide +kernel
theorem dX11_poke_16 : decode cX11_poke 16 = .ok (.getfield 191, 3) := by decide +kernel
theorem dX11_poke_19 : decode cX11_poke 19 = .ok (.iconst 3, 1) := by decide +kernel
theorem dX11_poke_20 : decode cX11_poke 20 = .ok (.if_icmp .eq 6, 3) := by decide +kernel
theorem dX11_poke_23 : decode cX11_poke 23 = .ok (.bipush (-3), 2) := by decide +kernel
theorem dX11_poke_25 : decode cX11_poke 25 = .ok (.ireturn, 1) := by decide +kernel
theorem dX11_poke_26 : decode cX11_poke 26 = .ok (.iload_n 2, 1) := by decide +kernel
theorem dX11_poke_27 : decode cX11_poke 27 = .ok (.iconst (-1), 1) := by decide +kernel
theorem dX11_poke_28 : decode cX11_poke 28 = .ok (.if_icmp .lt 42, 3) := by decide +kernel
theorem dX11_poke_31 : decode cX11_poke 31 = .ok (.iload_n 2, 1) := by decide +kernel
theorem dX11_poke_32 : decode cX11_poke 32 = .ok (.aload 6, 2) := by decide +kernel
theorem dX11_poke_34 : decode cX11_poke 34 = .ok (.getfield 206, 3) := by decide +kernel
theorem dX11_poke_37 : decode cX11_poke 37 = .ok (.if_icmp .gt 33, 3) := by decide +kernel
theorem dX11_poke_40 : decode cX11_poke 40 = .ok (.iload_n 3, 1) := by decide +kernel
theorem dX11_poke_41 : decode cX11_poke 41 = .ok (.ifCond .lt 29, 3) := by decide +kernel
theorem dX11_poke_44 : decode cX11_poke 44 = .ok (.iload_n 3, 1) := by decide +kernel
theorem dX11_poke_45 : decode cX11_poke 45 = .ok (.bipush 24, 2) := by decide +kernel
theorem dX11_poke_47 : decode cX11_poke 47 = .ok (.if_icmp .gt 23, 3) := by decide +kernel
theorem dX11_poke_50 : decode cX11_poke 50 = .ok (.iload 4, 2) := by decide +kernel
theorem dX11_poke_52 : decode cX11_poke 52 = .ok (.ifCond .lt 18, 3) := by decide +kernel
theorem dX11_poke_55 : decode cX11_poke 55 = .ok (.iload 4, 2) := by decide +kernel
theorem dX11_poke_57 : decode cX11_poke 57 = .ok (.iload_n 2, 1) := by decide +kernel
theorem dX11_poke_58 : decode cX11_poke 58 = .ok (.ifCond .ge 8, 3) := by decide +kernel
theorem dX11_poke_61 : decode cX11_poke 61 = .ok (.bipush 12, 2) := by decide +kernel
theorem dX11_poke_63 : decode cX11_poke 63 = .ok (.goto 4, 3) := by decide +kernel
theorem dX11_poke_66 : decode cX11_poke 66 = .ok (.iconst 0, 1) := by decide +kernel
theorem dX11_poke_67 : decode cX11_poke 67 = .ok (.if_icmp .le 5, 3) := by decide +kernel
theorem dX11_poke_70 : decode cX11_poke 70 = .ok (.iconst (-1), 1) := by decide +kernel
theorem dX11_poke_71 : decode cX11_poke 71 = .ok (.ireturn, 1) := by decide +kernel
theorem dX11_poke_72 : decode cX11_poke 72 = .ok (.iload_n 2, 1) := by decide +kernel
theorem dX11_poke_73 : decode cX11_poke 73 = .ok (.ifCond .ge 15, 3) := by decide +kernel
theorem dX11_poke_76 : decode cX11_poke 76 = .ok (.aload 6, 2) := by decide +kernel
theorem dX11_poke_78 : decode cX11_poke 78 = .ok (.iconst 0, 1) := by decide +kernel
theorem dX11_poke_79 : decode cX11_poke 79 = .ok (.iload_n 3, 1) := by decide +kernel
theorem dX11_poke_80 : decode cX11_poke 80 = .ok (.iload 4, 2) := by decide +kernel
theorem dX11_poke_82 : decode cX11_poke 82 = .ok (.invokevirtual 203, 3) := by decide +kernel
theorem dX11_poke_85 : decode cX11_poke 85 = .ok (.goto 10, 3) := by decide +kernel
theorem dX11_poke_88 : decode cX11_poke 88 = .ok (.aload 6, 2) := by decide +kernel
theorem dX11_poke_90 : decode cX11_poke 90 = .ok (.iload_n 2, 1) := by decide +kernel
theorem dX11_poke_91 : decode cX11_poke 91 = .ok (.iload_n 3, 1) := by decide +kernel
theorem dX11_poke_92 : decode cX11_poke 92 = .ok (.invokevirtual 209, 3) := by decide +kernel
theorem dX11_poke_95 : decode cX11_poke 95 = .ok (.istore 7, 2) := by decide +kernel
theorem dX11_poke_97 : decode cX11_poke 97 = .ok (.iload_n 2, 1) := by decide +kernel
theorem dX11_poke_98 : decode cX11_poke 98 = .ok (.ifCond .lt 19, 3) := by decide +kernel
theorem dX11_poke_101 : decode cX11_poke 101 = .ok (.aload 6, 2) := by decide +kernel
theorem dX11_poke_103 : decode cX11_poke 103 = .ok (.iload_n 2, 1) := by decide +kernel
theorem dX11_poke_104 : decode cX11_poke 104 = .ok (.iload_n 3, 1) := by decide +kernel
theorem dX11_poke_105 : decode cX11_poke 105 = .ok (.iload 5, 2) := by decide +kernel
theorem dX11_poke_107 : decode cX11_poke 107 = .ok (.i2l, 1) := by decide +kernel
theorem dX11_poke_108 : decode cX11_poke 108 = .ok (.invokestatic 278, 3) := by decide +kernel
theorem dX11_poke_111 : decode cX11_poke 111 = .ok (.invokevirtual 379, 3) := by decide +kernel
theorem dX11_poke_114 : decode cX11_poke 114 = .ok (.iload 7, 2) := by decide +kernel
theorem dX11_poke_116 : decode cX11_poke 116 = .ok (.ireturn, 1) := by decide +kernel
theorem dX11_poke_117 : decode cX11_poke 117 = .ok (.aload 6, 2) := by decide +kernel
theorem dX11_poke_119 : decode cX11_poke 119 = .ok (.iload_n 3, 1) := by decide +kernel
theorem dX11_poke_120 : decode cX11_poke 120 = .ok (.iload 4, 2) := by decide +kernel
theorem dX11_poke_122 : decode cX11_poke 122 = .ok (.iload 5, 2) := by decide +kernel
theorem dX11_poke_124 : decode cX11_poke 124 = .ok (.i2l, 1) := by decide +kernel
theorem dX11_poke_125 : decode cX11_poke 125 = .ok (.invokestatic 278, 3) := by decide +kernel
theorem dX11_poke_128 : decode cX11_poke 128 = .ok (.invokevirtual 383, 3) := by decide +kernel
theorem dX11_poke_131 : decode cX11_poke 131 = .ok (.aload_n 0, 1) := by decide +kernel
theorem dX11_poke_132 : decode cX11_poke 132 = .ok (.getfield 42, 3) := by decide +kernel
theorem dX11_poke_135 : decode cX11_poke 135 = .ok (.invokevirtual 111, 3) := by decide +kernel
theorem dX11_poke_138 : decode cX11_poke 138 = .ok (.aload_n 0, 1) := by decide +kernel
theorem dX11_poke_139 : decode cX11_poke 139 = .ok (.getfield 54, 3) := by decide +kernel
theorem dX11_poke_142 : decode cX11_poke 142 = .ok (.aload_n 0, 1) := by decide +kernel
theorem dX11_poke_143 : decode cX11_poke 143 = .ok (.getfield 46, 3) := by decide +kernel
theorem dX11_poke_146 : decode cX11_poke 146 = .ok (.aload 6, 2) := by decide +kernel
theorem dX11_poke_148 : decode cX11_poke 148 = .ok (.getfield 363, 3) := by decide +kernel
theorem dX11_poke_151 : decode cX11_poke 151 = .ok (.invokevirtual 366, 3) := by decide +kernel
theorem dX11_poke_154 : decode cX11_poke 154 = .ok (.aload_n 0, 1) := by decide +kernel
theorem dX11_poke_155 : decode cX11_poke 155 = .ok (.getfield 46, 3) := by decide +kernel
theorem dX11_poke_158 : decode cX11_poke 158 = .ok (.aload 6, 2) := by decide +kernel
theorem dX11_poke_160 : decode cX11_poke 160 = .ok (.getfield 369, 3) := by decide +kernel
theorem dX11_poke_163 : decode cX11_poke 163 = .ok (.invokevirtual 366, 3) := by decide +kernel
theorem dX11_poke_166 : decode cX11_poke 166 = .ok (.invokevirtual 315, 3) := by decide +kernel
theorem dX11_poke_169 : decode cX11_poke 169 = .ok (.istore 8, 2) := by decide +kernel
theorem dX11_poke_171 : decode cX11_poke 171 = .ok (.aload_n 0, 1) := by decide +kernel
theorem dX11_poke_172 : decode cX11_poke 172 = .ok (.getfield 46, 3) := by decide +kernel
theorem dX11_poke_175 : decode cX11_poke 175 = .ok (.iload 8, 2) := by decide +kernel
theorem dX11_poke_177 : decode cX11_poke 177 = .ok (.aload 6, 2) := by decide +kernel
theorem dX11_poke_179 : decode cX11_poke 179 = .ok (.getfield 363, 3) := by decide +kernel
theorem dX11_poke_182 : decode cX11_poke 182 = .ok (.invokevirtual 386, 3) := by decide +kernel
theorem dX11_poke_185 : decode cX11_poke 185 = .ok (.aload_n 0, 1) := by decide +kernel
theorem dX11_poke_186 : decode cX11_poke 186 = .ok (.getfield 46, 3) := by decide +kernel
theorem dX11_poke_189 : decode cX11_poke 189 = .ok (.aload_n 0, 1) := by decide +kernel
theorem dX11_poke_190 : decode cX11_poke 190 = .ok (.getfield 54, 3) := by decide +kernel
theorem dX11_poke_193 : decode cX11_poke 193 = .ok (.iload 8, 2) := by decide +kernel
theorem dX11_poke_195 : decode cX11_poke 195 = .ok (.invokevirtual 297, 3) := by decide +kernel
theorem dX11_poke_198 : decode cX11_poke 198 = .ok (.aload 6, 2) := by decide +kernel
theorem dX11_poke_200 : decode cX11_poke 200 = .ok (.getfield 369, 3) := by decide +kernel
theorem dX11_poke_203 : decode cX11_poke 203 = .ok (.invokevirtual 386, 3) := by decide +kernel
theorem dX11_poke_206 : decode cX11_poke 206 = .ok (.iload 7, 2) := by decide +kernel
theorem dX11_poke_208 : decode cX11_poke 208 = .ok (.ireturn, 1) := by decide +kernel
theorem dX11_holds_0 : decode cX11_holds 0 = .ok (.aload_n 0, 1) := by decide +kernel
theorem dX11_holds_1 : decode cX11_holds 1 = .ok (.iload_n 1, 1) := by decide +kernel
theorem dX11_holds_2 : decode cX11_holds 2 = .ok (.invokevirtual 107, 3) := by decide +kernel
theorem dX11_holds_5 : decode cX11_holds 5 = .ok (.astore 6, 2) := by decide +kernel
theorem dX11_holds_7 : decode cX11_holds 7 = .ok (.aload_n 0, 1) := by decide +kernel
theorem dX11_holds_8 : decode cX11_holds 8 = .ok (.iload_n 2, 1) := by decide +kernel
theorem dX11_holds_9 : decode cX11_holds 9 = .ok (.invokevirtual 107, 3) := by decide +kernel
theorem dX11_holds_12 : decode cX11_holds 12 = .ok (.astore 7, 2) := by decide +kernel
theorem dX11_holds_14 : decode cX11_holds 14 = .ok (.aload 6, 2) := by decide +kernel
theorem dX11_holds_16 : decode cX11_holds 16 = .ok (.ifnull 8, 3) := by decide +kernel
theorem dX11_holds_19 : decode cX11_holds 19 = .ok (.aload 7, 2) := by decide +kernel
theorem dX11_holds_21 : decode cX11_holds 21 = .ok (.ifnonnull 5, 3) := by decide +kernel
theorem dX11_holds_24 : decode cX11_holds 24 = .ok (.iconst (-1), 1) := by decide +kernel
theorem dX11_holds_25 : decode cX11_holds 25 = .ok (.ireturn, 1) := by decide +kernel
theorem dX11_holds_26 : decode cX11_holds 26 = .ok (.aload 6, 2) := by decide +kernel
theorem dX11_holds_28 : decode cX11_holds 28 = .ok (.getfield 191, 3) := by decide +kernel
theorem dX11_holds_31 : decode cX11_holds 31 = .ok (.iconst 3, 1) := by decide +kernel
theorem dX11_holds_32 : decode cX11_holds 32 = .ok (.if_icmp .ne 11, 3) := by decide +kernel
theorem dX11_holds_35 : decode cX11_holds 35 = .ok (.aload 7, 2) := by decide +kernel
theorem dX11_holds_37 : decode cX11_holds 37 = .ok (.invokestatic 177, 3) := by decide +kernel
theorem dX11_holds_40 : decode cX11_holds 40 = .ok (.ifCond .ne 6, 3) := by decide +kernel
theorem dX11_holds_43 : decode cX11_holds 43 = .ok (.bipush (-3), 2) := by decide +kernel
theorem dX11_holds_45 : decode cX11_holds 45 = .ok (.ireturn, 1) := by decide +kernel
theorem dX11_holds_46 : decode cX11_holds 46 = .ok (.aload_n 0, 1) := by decide +kernel
theorem dX11_holds_47 : decode cX11_holds 47 = .ok (.getfield 76, 3) := by decide +kernel
theorem dX11_holds_50 : decode cX11_holds 50 = .ok (.aload 6, 2) := by decide +kernel
theorem dX11_holds_52 : decode cX11_holds 52 = .ok (.aload 7, 2) := by decide +kernel
theorem dX11_holds_54 : decode cX11_holds 54 = .ok (.iload_n 3, 1) := by decide +kernel
theorem dX11_holds_55 : decode cX11_holds 55 = .ok (.iload 4, 2) := by decide +kernel
theorem dX11_holds_57 : decode cX11_holds 57 = .ok (.iload 5, 2) := by decide +kernel
theorem dX11_holds_59 : decode cX11_holds 59 = .ok (.invokevirtual 389, 3) := by decide +kernel
theorem dX11_holds_62 : decode cX11_holds 62 = .ok (.ireturn, 1) := by decide +kernel
theorem dX11_row_0 : decode cX11_row 0 = .ok (.aload_n 0, 1) := by decide +kernel
theorem dX11_row_1 : decode cX11_row 1 = .ok (.iload_n 1, 1) := by decide +kernel
theorem dX11_row_2 : decode cX11_row 2 = .ok (.invokevirtual 107, 3) := by decide +kernel
theorem dX11_row_5 : decode cX11_row 5 = .ok (.astore_n 3, 1) := by decide +kernel
theorem dX11_row_6 : decode cX11_row 6 = .ok (.aload_n 0, 1) := by decide +kernel
theorem dX11_row_7 : decode cX11_row 7 = .ok (.iload_n 2, 1) := by decide +kernel
theorem dX11_row_8 : decode cX11_row 8 = .ok (.invokevirtual 107, 3) := by decide +kernel
theorem dX11_row_11 : decode cX11_row 11 = .ok (.astore 4, 2) := by decide +kernel
theorem dX11_row_13 : decode cX11_row 13 = .ok (.aload_n 3, 1) := by decide +kernel
theorem dX11_row_14 : decode cX11_row 14 = .ok (.ifnull 8, 3) := by decide +kernel
theorem dX11_row_17 : decode cX11_row 17 = .ok (.aload 4, 2) := by decide +kernel
theorem dX11_row_19 : decode cX11_row 19 = .ok (.ifnonnull 5, 3) := by decide +kernel
theorem dX11_row_22 : decode cX11_row 22 = .ok (.iconst (-1), 1) := by decide +kernel
theorem dX11_row_23 : decode cX11_row 23 = .ok (.ireturn, 1) := by decide +kernel
theorem dX11_row_24 : decode cX11_row 24 = .ok (.aload_n 3, 1) := by decide +kernel
theorem dX11_row_25 : decode cX11_row 25 = .ok (.getfield 191, 3) := by decide +kernel
theorem dX11_row_28 : decode cX11_row 28 = .ok (.iconst 3, 1) := by decide +kernel
theorem dX11_row_29 : decode cX11_row 29 = .ok (.if_icmp .eq 6, 3) := by decide +kernel
theorem dX11_row_32 : decode cX11_row 32 = .ok (.bipush (-3), 2) := by decide +kernel
theorem dX11_row_34 : decode cX11_row 34 = .ok (.ireturn, 1) := by decide +kernel
theorem dX11_row_35 : decode cX11_row 35 = .ok (.aload_n 0, 1) := by decide +kernel
theorem dX11_row_36 : decode cX11_row 36 = .ok (.getfield 42, 3) := by decide +kernel
theorem dX11_row_39 : decode cX11_row 39 = .ok (.invokevirtual 111, 3) := by decide +kernel
theorem dX11_row_42 : decode cX11_row 42 = .ok (.aload_n 0, 1) := by decide +kernel
theorem dX11_row_43 : decode cX11_row 43 = .ok (.getfield 85, 3) := by decide +kernel
theorem dX11_row_46 : decode cX11_row 46 = .ok (.aload_n 3, 1) := by decide +kernel
theorem dX11_row_47 : decode cX11_row 47 = .ok (.aload 4, 2) := by decide +kernel
theorem dX11_row_49 : decode cX11_row 49 = .ok (.invokevirtual 393, 3) := by decide +kernel
theorem dX11_row_52 : decode cX11_row 52 = .ok (.ireturn, 1) := by decide +kernel
theorem dX11_first_0 : decode cX11_first 0 = .ok (.aload_n 0, 1) := by decide +kernel
theorem dX11_first_1 : decode cX11_first 1 = .ok (.iload_n 1, 1) := by decide +kernel
theorem dX11_first_2 : decode cX11_first 2 = .ok (.invokevirtual 107, 3) := by decide +kernel
theorem dX11_first_5 : decode cX11_first 5 = .ok (.astore_n 3, 1) := by decide +kernel
theorem dX11_first_6 : decode cX11_first 6 = .ok (.aload_n 3, 1) := by decide +kernel
theorem dX11_first_7 : decode cX11_first 7 = .ok (.ifnonnull 5, 3) := by decide +kernel
theorem dX11_first_10 : decode cX11_first 10 = .ok (.iconst (-1), 1) := by decide +kernel
theorem dX11_first_11 : decode cX11_first 11 = .ok (.ireturn, 1) := by decide +kernel
theorem dX11_first_12 : decode cX11_first 12 = .ok (.aload_n 3, 1) := by decide +kernel
theorem dX11_first_13 : decode cX11_first 13 = .ok (.getfield 191, 3) := by decide +kernel
theorem dX11_first_16 : decode cX11_first 16 = .ok (.iconst 4, 1) := by decide +kernel
theorem dX11_first_17 : decode cX11_first 17 = .ok (.if_icmp .eq 6, 3) := by decide +kernel
theorem dX11_first_20 : decode cX11_first 20 = .ok (.bipush (-3), 2) := by decide +kernel
theorem dX11_first_22 : decode cX11_first 22 = .ok (.ireturn, 1) := by decide +kernel
theorem dX11_first_23 : decode cX11_first 23 = .ok (.aload_n 3, 1) := by decide +kernel
theorem dX11_first_24 : decode cX11_first 24 = .ok (.iload_n 2, 1) := by decide +kernel
theorem dX11_first_25 : decode cX11_first 25 = .ok (.i2l, 1) := by decide +kernel
theorem dX11_first_26 : decode cX11_first 26 = .ok (.invokestatic 278, 3) := by decide +kernel
theorem dX11_first_29 : decode cX11_first 29 = .ok (.invokevirtual 397, 3) := by decide +kernel
theorem dX11_first_32 : decode cX11_first 32 = .ok (.ireturn, 1) := by decide +kernel
theorem dX11_at_0 : decode cX11_at 0 = .ok (.aload_n 0, 1) := by decide +kernel
theorem dX11_at_1 : decode cX11_at 1 = .ok (.iload_n 1, 1) := by decide +kernel
theorem dX11_at_2 : decode cX11_at 2 = .ok (.invokevirtual 107, 3) := by decide +kernel
theorem dX11_at_5 : decode cX11_at 5 = .ok (.astore_n 3, 1) := by decide +kernel
theorem dX11_at_6 : decode cX11_at 6 = .ok (.aload_n 3, 1) := by decide +kernel
theorem dX11_at_7 : decode cX11_at 7 = .ok (.ifnonnull 5, 3) := by decide +kernel
theorem dX11_at_10 : decode cX11_at 10 = .ok (.iconst (-1), 1) := by decide +kernel
theorem dX11_at_11 : decode cX11_at 11 = .ok (.ireturn, 1) := by decide +kernel
theorem dX11_at_12 : decode cX11_at 12 = .ok (.aload_n 3, 1) := by decide +kernel
theorem dX11_at_13 : decode cX11_at 13 = .ok (.getfield 191, 3) := by decide +kernel
theorem dX11_at_16 : decode cX11_at 16 = .ok (.iconst 4, 1) := by decide +kernel
theorem dX11_at_17 : decode cX11_at 17 = .ok (.if_icmp .eq 6, 3) := by decide +kernel
theorem dX11_at_20 : decode cX11_at 20 = .ok (.bipush (-3), 2) := by decide +kernel
theorem dX11_at_22 : decode cX11_at 22 = .ok (.ireturn, 1) := by decide +kernel
theorem dX11_at_23 : decode cX11_at 23 = .ok (.iload_n 2, 1) := by decide +kernel
theorem dX11_at_24 : decode cX11_at 24 = .ok (.ifCond .lt 21, 3) := by decide +kernel
theorem dX11_at_27 : decode cX11_at 27 = .ok (.iload_n 2, 1) := by decide +kernel
theorem dX11_at_28 : decode cX11_at 28 = .ok (.sipush 300, 3) := by decide +kernel
theorem dX11_at_31 : decode cX11_at 31 = .ok (.if_icmp .gt 14, 3) := by decide +kernel
theorem dX11_at_34 : decode cX11_at 34 = .ok (.aload_n 3, 1) := by decide +kernel
theorem dX11_at_35 : decode cX11_at 35 = .ok (.getfield 400, 3) := by decide +kernel
theorem dX11_at_38 : decode cX11_at 38 = .ok (.aload_n 3, 1) := by decide +kernel
theorem dX11_at_39 : decode cX11_at 39 = .ok (.getfield 222, 3) := by decide +kernel
theorem dX11_at_42 : decode cX11_at 42 = .ok (.if_icmp .ge 5, 3) := by decide +kernel
theorem dX11_at_45 : decode cX11_at 45 = .ok (.iconst (-1), 1) := by decide +kernel
theorem dX11_at_46 : decode cX11_at 46 = .ok (.ireturn, 1) := by decide +kernel
theorem dX11_at_47 : decode cX11_at 47 = .ok (.aload_n 0, 1) := by decide +kernel
theorem dX11_at_48 : decode cX11_at 48 = .ok (.getfield 85, 3) := by decide +kernel
theorem dX11_at_51 : decode cX11_at 51 = .ok (.aload_n 3, 1) := by decide +kernel
theorem dX11_at_52 : decode cX11_at 52 = .ok (.iload_n 2, 1) := by decide +kernel
theorem dX11_at_53 : decode cX11_at 53 = .ok (.invokevirtual 403, 3) := by decide +kernel
theorem dX11_at_56 : decode cX11_at 56 = .ok (.ireturn, 1) := by decide +kernel
theorem dX11_join_0 : decode cX11_join 0 = .ok (.iload_n 1, 1) := by decide +kernel
theorem dX11_join_1 : decode cX11_join 1 = .ok (.ifCond .lt 12, 3) := by decide +kernel
theorem dX11_join_4 : decode cX11_join 4 = .ok (.iload_n 1, 1) := by decide +kernel
theorem dX11_join_5 : decode cX11_join 5 = .ok (.iconst 2, 1) := by decide +kernel
theorem dX11_join_6 : decode cX11_join 6 = .ok (.if_icmp .gt 7, 3) := by decide +kernel
theorem dX11_join_9 : decode cX11_join 9 = .ok (.iconst 1, 1) := by decide +kernel
theorem dX11_join_10 : decode cX11_join 10 = .ok (.goto 4, 3) := by decide +kernel
theorem dX11_join_13 : decode cX11_join 13 = .ok (.iconst 0, 1) := by decide +kernel
theorem dX11_join_14 : decode cX11_join 14 = .ok (.istore 5, 2) := by decide +kernel
theorem dX11_join_16 : decode cX11_join 16 = .ok (.aload_n 0, 1) := by decide +kernel
theorem dX11_join_17 : decode cX11_join 17 = .ok (.iload_n 2, 1) := by decide +kernel
theorem dX11_join_18 : decode cX11_join 18 = .ok (.invokevirtual 107, 3) := by decide +kernel
theorem dX11_join_21 : decode cX11_join 21 = .ok (.astore 6, 2) := by decide +kernel
theorem dX11_join_23 : decode cX11_join 23 = .ok (.iload 5, 2) := by decide +kernel
theorem dX11_join_25 : decode cX11_join 25 = .ok (.ifCond .ne 8, 3) := by decide +kernel
theorem dX11_join_28 : decode cX11_join 28 = .ok (.iload_n 1, 1) := by decide +kernel
theorem dX11_join_29 : decode cX11_join 29 = .ok (.iconst 5, 1) := by decide +kernel
theorem dX11_join_30 : decode cX11_join 30 = .ok (.if_icmp .ne 11, 3) := by decide +kernel
theorem dX11_join_33 : decode cX11_join 33 = .ok (.aload_n 0, 1) := by decide +kernel
theorem dX11_join_34 : decode cX11_join 34 = .ok (.iload_n 3, 1) := by decide +kernel
theorem dX11_join_35 : decode cX11_join 35 = .ok (.invokevirtual 107, 3) := by decide +kernel
theorem dX11_join_38 : decode cX11_join 38 = .ok (.goto 5, 3) := by decide +kernel
theorem dX11_join_41 : decode cX11_join 41 = .ok (.aload 6, 2) := by decide +kernel
theorem dX11_join_43 : decode cX11_join 43 = .ok (.astore 7, 2) := by decide +kernel
theorem dX11_join_45 : decode cX11_join 45 = .ok (.aload_n 0, 1) := by decide +kernel
theorem dX11_join_46 : decode cX11_join 46 = .ok (.iload 4, 2) := by decide +kernel
theorem dX11_join_48 : decode cX11_join 48 = .ok (.invokevirtual 107, 3) := by decide +kernel
theorem dX11_join_51 : decode cX11_join 51 = .ok (.astore 8, 2) := by decide +kernel
theorem dX11_join_53 : decode cX11_join 53 = .ok (.aload 6, 2) := by decide +kernel
theorem dX11_join_55 : decode cX11_join 55 = .ok (.ifnull 13, 3) := by decide +kernel
theorem dX11_join_58 : decode cX11_join 58 = .ok (.aload 7, 2) := by decide +kernel
theorem dX11_join_60 : decode cX11_join 60 = .ok (.ifnull 8, 3) := by decide +kernel
theorem dX11_join_63 : decode cX11_join 63 = .ok (.aload 8, 2) := by decide +kernel
theorem dX11_join_65 : decode cX11_join 65 = .ok (.ifnonnull 5, 3) := by decide +kernel
theorem dX11_join_68 : decode cX11_join 68 = .ok (.iconst (-1), 1) := by decide +kernel
theorem dX11_join_69 : decode cX11_join 69 = .ok (.ireturn, 1) := by decide +kernel
theorem dX11_join_70 : decode cX11_join 70 = .ok (.aload 6, 2) := by decide +kernel
theorem dX11_join_72 : decode cX11_join 72 = .ok (.getfield 191, 3) := by decide +kernel
theorem dX11_join_75 : decode cX11_join 75 = .ok (.iconst 4, 1) := by decide +kernel
theorem dX11_join_76 : decode cX11_join 76 = .ok (.if_icmp .ne 30, 3) := by decide +kernel
theorem dX11_join_79 : decode cX11_join 79 = .ok (.iload 5, 2) := by decide +kernel
theorem dX11_join_81 : decode cX11_join 81 = .ok (.ifCond .eq 12, 3) := by decide +kernel
theorem dX11_join_84 : decode cX11_join 84 = .ok (.aload 7, 2) := by decide +kernel
theorem dX11_join_86 : decode cX11_join 86 = .ok (.getfield 191, 3) := by decide +kernel
theorem dX11_join_89 : decode cX11_join 89 = .ok (.iconst 4, 1) := by decide +kernel
theorem dX11_join_90 : decode cX11_join 90 = .ok (.if_icmp .ne 16, 3) := by decide +kernel
theorem dX11_join_93 : decode cX11_join 93 = .ok (.iload_n 1, 1) := by decide +kernel
theorem dX11_join_94 : decode cX11_join 94 = .ok (.iconst 5, 1) := by decide +kernel
theorem dX11_join_95 : decode cX11_join 95 = .ok (.if_icmp .ne 14, 3) := by decide +kernel
theorem dX11_join_98 : decode cX11_join 98 = .ok (.aload 7, 2) := by decide +kernel
theorem dX11_join_100 : decode cX11_join 100 = .ok (.invokestatic 406, 3) := by decide +kernel
theorem dX11_join_103 : decode cX11_join 103 = .ok (.ifCond .ne 6, 3) := by decide +kernel
theorem dX11_join_106 : decode cX11_join 106 = .ok (.bipush (-3), 2) := by decide +kernel
theorem dX11_join_108 : decode cX11_join 108 = .ok (.ireturn, 1) := by decide +kernel
theorem dX11_join_109 : decode cX11_join 109 = .ok (.iload_n 1, 1) := by decide +kernel
theorem dX11_join_110 : decode cX11_join 110 = .ok (.ifCond .lt 39, 3) := by decide +kernel
theorem dX11_join_113 : decode cX11_join 113 = .ok (.iload_n 1, 1) := by decide +kernel
theorem dX11_join_114 : decode cX11_join 114 = .ok (.iconst 5, 1) := by decide +kernel
theorem dX11_join_115 : decode cX11_join 115 = .ok (.if_icmp .gt 34, 3) := by decide +kernel
theorem dX11_join_118 : decode cX11_join 118 = .ok (.aload 6, 2) := by decide +kernel
theorem dX11_join_120 : decode cX11_join 120 = .ok (.getfield 400, 3) := by decide +kernel
theorem dX11_join_123 : decode cX11_join 123 = .ok (.aload 6, 2) := by decide +kernel
theorem dX11_join_125 : decode cX11_join 125 = .ok (.getfield 222, 3) := by decide +kernel
theorem dX11_join_128 : decode cX11_join 128 = .ok (.if_icmp .lt 21, 3) := by decide +kernel
theorem dX11_join_131 : decode cX11_join 131 = .ok (.iload 5, 2) := by decide +kernel
theorem dX11_join_133 : decode cX11_join 133 = .ok (.ifCond .eq 18, 3) := by decide +kernel
theorem dX11_join_136 : decode cX11_join 136 = .ok (.aload 7, 2) := by decide +kernel
theorem dX11_join_138 : decode cX11_join 138 = .ok (.getfield 400, 3) := by decide +kernel
theorem dX11_join_141 : decode cX11_join 141 = .ok (.aload 7, 2) := by decide +kernel
theorem dX11_join_143 : decode cX11_join 143 = .ok (.getfield 222, 3) := by decide +kernel
theorem dX11_join_146 : decode cX11_join 146 = .ok (.if_icmp .ge 5, 3) := by decide +kernel
theorem dX11_join_149 : decode cX11_join 149 = .ok (.iconst (-1), 1) := by decide +kernel
theorem dX11_join_150 : decode cX11_join 150 = .ok (.ireturn, 1) := by decide +kernel
theorem dX11_join_151 : decode cX11_join 151 = .ok (.aload_n 0, 1) := by decide +kernel
theorem dX11_join_152 : decode cX11_join 152 = .ok (.getfield 42, 3) := by decide +kernel
theorem dX11_join_155 : decode cX11_join 155 = .ok (.invokevirtual 111, 3) := by decide +kernel
theorem dX11_join_158 : decode cX11_join 158 = .ok (.iload_n 1, 1) := by decide +kernel
theorem dX11_join_159 : decode cX11_join 159 = .ok (.iconst 3, 1) := by decide +kernel
theorem dX11_join_160 : decode cX11_join 160 = .ok (.if_icmp .eq 8, 3) := by decide +kernel
theorem dX11_join_163 : decode cX11_join 163 = .ok (.iload_n 1, 1) := by decide +kernel
theorem dX11_join_164 : decode cX11_join 164 = .ok (.iconst 4, 1) := by decide +kernel
theorem dX11_join_165 : decode cX11_join 165 = .ok (.if_icmp .ne 25, 3) := by decide +kernel
theorem dX11_join_168 : decode cX11_join 168 = .ok (.aload_n 0, 1) := by decide +kernel
theorem dX11_join_169 : decode cX11_join 169 = .ok (.getfield 85, 3) := by decide +kernel
theorem dX11_join_172 : decode cX11_join 172 = .ok (.iload_n 1, 1) := by decide +kernel
theorem dX11_join_173 : decode cX11_join 173 = .ok (.iconst 3, 1) := by decide +kernel
theorem dX11_join_174 : decode cX11_join 174 = .ok (.if_icmp .ne 7, 3) := by decide +kernel
theorem dX11_join_177 : decode cX11_join 177 = .ok (.iconst 1, 1) := by decide +kernel
theorem dX11_join_178 : decode cX11_join 178 = .ok (.goto 4, 3) := by decide +kernel
theorem dX11_join_181 : decode cX11_join 181 = .ok (.iconst 0, 1) := by decide +kernel
theorem dX11_join_182 : decode cX11_join 182 = .ok (.aload 6, 2) := by decide +kernel
theorem dX11_join_184 : decode cX11_join 184 = .ok (.aload 8, 2) := by decide +kernel
theorem dX11_join_186 : decode cX11_join 186 = .ok (.invokevirtual 409, 3) := by decide +kernel
theorem dX11_join_189 : decode cX11_join 189 = .ok (.ireturn, 1) := by decide +kernel
theorem dX11_join_190 : decode cX11_join 190 = .ok (.aload_n 0, 1) := by decide +kernel
theorem dX11_join_191 : decode cX11_join 191 = .ok (.getfield 85, 3) := by decide +kernel
theorem dX11_join_194 : decode cX11_join 194 = .ok (.iload_n 1, 1) := by decide +kernel
theorem dX11_join_195 : decode cX11_join 195 = .ok (.aload 6, 2) := by decide +kernel
theorem dX11_join_197 : decode cX11_join 197 = .ok (.aload 7, 2) := by decide +kernel
theorem dX11_join_199 : decode cX11_join 199 = .ok (.aload 8, 2) := by decide +kernel
theorem dX11_join_201 : decode cX11_join 201 = .ok (.invokevirtual 413, 3) := by decide +kernel
theorem dX11_join_204 : decode cX11_join 204 = .ok (.ireturn, 1) := by decide +kernel
theorem dX11_feed_0 : decode cX11_feed 0 = .ok (.aload_n 0, 1) := by decide +kernel
theorem dX11_feed_1 : decode cX11_feed 1 = .ok (.getfield 93, 3) := by decide +kernel
theorem dX11_feed_4 : decode cX11_feed 4 = .ok (.ifCond .lt 12, 3) := by decide +kernel
theorem dX11_feed_7 : decode cX11_feed 7 = .ok (.aload_n 0, 1) := by decide +kernel
theorem dX11_feed_8 : decode cX11_feed 8 = .ok (.getfield 93, 3) := by decide +kernel
theorem dX11_feed_11 : decode cX11_feed 11 = .ok (.bipush 60, 2) := by decide +kernel
theorem dX11_feed_13 : decode cX11_feed 13 = .ok (.if_icmp .lt 6, 3) := by decide +kernel
theorem dX11_feed_16 : decode cX11_feed 16 = .ok (.bipush (-2), 2) := by decide +kernel
theorem dX11_feed_18 : decode cX11_feed 18 = .ok (.ireturn, 1) := by decide +kernel
theorem dX11_feed_19 : decode cX11_feed 19 = .ok (.aload_n 0, 1) := by decide +kernel
theorem dX11_feed_20 : decode cX11_feed 20 = .ok (.getfield 89, 3) := by decide +kernel
theorem dX11_feed_23 : decode cX11_feed 23 = .ok (.aload_n 0, 1) := by decide +kernel
theorem dX11_feed_24 : decode cX11_feed 24 = .ok (.getfield 93, 3) := by decide +kernel
theorem dX11_feed_27 : decode cX11_feed 27 = .ok (.iload_n 1, 1) := by decide +kernel
theorem dX11_feed_28 : decode cX11_feed 28 = .ok (.i2l, 1) := by decide +kernel
theorem dX11_feed_29 : decode cX11_feed 29 = .ok (.invokestatic 278, 3) := by decide +kernel
theorem dX11_feed_32 : decode cX11_feed 32 = .ok (.iastore, 1) := by decide +kernel
theorem dX11_feed_33 : decode cX11_feed 33 = .ok (.aload_n 0, 1) := by decide +kernel
theorem dX11_feed_34 : decode cX11_feed 34 = .ok (.dup, 1) := by decide +kernel
theorem dX11_feed_35 : decode cX11_feed 35 = .ok (.getfield 93, 3) := by decide +kernel
theorem dX11_feed_38 : decode cX11_feed 38 = .ok (.iconst 1, 1) := by decide +kernel
theorem dX11_feed_39 : decode cX11_feed 39 = .ok (.iadd, 1) := by decide +kernel
theorem dX11_feed_40 : decode cX11_feed 40 = .ok (.putfield 93, 3) := by decide +kernel
theorem dX11_feed_43 : decode cX11_feed 43 = .ok (.aload_n 0, 1) := by decide +kernel
theorem dX11_feed_44 : decode cX11_feed 44 = .ok (.getfield 93, 3) := by decide +kernel
theorem dX11_feed_47 : decode cX11_feed 47 = .ok (.ireturn, 1) := by decide +kernel
theorem dX11_clear_0 : decode cX11_clear 0 = .ok (.aload_n 0, 1) := by decide +kernel
theorem dX11_clear_1 : decode cX11_clear 1 = .ok (.getfield 93, 3) := by decide +kernel
theorem dX11_clear_4 : decode cX11_clear 4 = .ok (.istore_n 1, 1) := by decide +kernel
theorem dX11_clear_5 : decode cX11_clear 5 = .ok (.aload_n 0, 1) := by decide +kernel
theorem dX11_clear_6 : decode cX11_clear 6 = .ok (.iconst 0, 1) := by decide +kernel
theorem dX11_clear_7 : decode cX11_clear 7 = .ok (.putfield 93, 3) := by decide +kernel
theorem dX11_clear_10 : decode cX11_clear 10 = .ok (.iload_n 1, 1) := by decide +kernel
theorem dX11_clear_11 : decode cX11_clear 11 = .ok (.ireturn, 1) := by decide +kernel
theorem dX11_guess_0 : decode cX11_guess 0 = .ok (.aload_n 0, 1) := by decide +kernel
theorem dX11_guess_1 : decode cX11_guess 1 = .ok (.iload_n 1, 1) := by decide +kernel
theorem dX11_guess_2 : decode cX11_guess 2 = .ok (.invokevirtual 107, 3) := by decide +kernel
theorem dX11_guess_5 : decode cX11_guess 5 = .ok (.astore_n 2, 1) := by decide +kernel
theorem dX11_guess_6 : decode cX11_guess 6 = .ok (.aload_n 2, 1) := by decide +kernel
theorem dX11_guess_7 : decode cX11_guess 7 = .ok (.ifnonnull 5, 3) := by decide +kernel
theorem dX11_guess_10 : decode cX11_guess 10 = .ok (.iconst (-1), 1) := by decide +kernel
theorem dX11_guess_11 : decode cX11_guess 11 = .ok (.ireturn, 1) := by decide +kernel
theorem dX11_guess_12 : decode cX11_guess 12 = .ok (.aload_n 0, 1) := by decide +kernel
theorem dX11_guess_13 : decode cX11_guess 13 = .ok (.getfield 42, 3) := by decide +kernel
theorem dX11_guess_16 : decode cX11_guess 16 = .ok (.invokevirtual 111, 3) := by decide +kernel
theorem dX11_guess_19 : decode cX11_guess 19 = .ok (.aload_n 0, 1) := by decide +kernel
theorem dX11_guess_20 : decode cX11_guess 20 = .ok (.getfield 85, 3) := by decide +kernel
theorem dX11_guess_23 : decode cX11_guess 23 = .ok (.aload_n 0, 1) := by decide +kernel
theorem dX11_guess_24 : decode cX11_guess 24 = .ok (.getfield 89, 3) := by decide +kernel
theorem dX11_guess_27 : decode cX11_guess 27 = .ok (.aload_n 0, 1) := by decide +kernel
theorem dX11_guess_28 : decode cX11_guess 28 = .ok (.getfield 93, 3) := by decide +kernel
theorem dX11_guess_31 : decode cX11_guess 31 = .ok (.aload_n 2, 1) := by decide +kernel
theorem dX11_guess_32 : decode cX11_guess 32 = .ok (.invokevirtual 417, 3) := by decide +kernel
theorem dX11_guess_35 : decode cX11_guess 35 = .ok (.ireturn, 1) := by decide +kernel
theorem dX11_roots_0 : decode cX11_roots 0 = .ok (.aload_n 0, 1) := by decide +kernel
theorem dX11_roots_1 : decode cX11_roots 1 = .ok (.iload_n 1, 1) := by decide +kernel
theorem dX11_roots_2 : decode cX11_roots 2 = .ok (.invokevirtual 107, 3) := by decide +kernel
theorem dX11_roots_5 : decode cX11_roots 5 = .ok (.astore_n 2, 1) := by decide +kernel
theorem dX11_roots_6 : decode cX11_roots 6 = .ok (.aload_n 2, 1) := by decide +kernel
theorem dX11_roots_7 : decode cX11_roots 7 = .ok (.ifnonnull 5, 3) := by decide +kernel
theorem dX11_roots_10 : decode cX11_roots 10 = .ok (.iconst (-1), 1) := by decide +kernel
theorem dX11_roots_11 : decode cX11_roots 11 = .ok (.ireturn, 1) := by decide +kernel
theorem dX11_roots_12 : decode cX11_roots 12 = .ok (.aload_n 2, 1) := by decide +kernel
theorem dX11_roots_13 : decode cX11_roots 13 = .ok (.invokestatic 406, 3) := by decide +kernel
theorem dX11_roots_16 : decode cX11_roots 16 = .ok (.ifCond .ne 6, 3) := by decide +kernel
theorem dX11_roots_19 : decode cX11_roots 19 = .ok (.bipush (-3), 2) := by decide +kernel
theorem dX11_roots_21 : decode cX11_roots 21 = .ok (.ireturn, 1) := by decide +kernel
theorem dX11_roots_22 : decode cX11_roots 22 = .ok (.aload_n 0, 1) := by decide +kernel
theorem dX11_roots_23 : decode cX11_roots 23 = .ok (.getfield 42, 3) := by decide +kernel
theorem dX11_roots_26 : decode cX11_roots 26 = .ok (.invokevirtual 111, 3) := by decide +kernel
theorem dX11_roots_29 : decode cX11_roots 29 = .ok (.aload_n 0, 1) := by decide +kernel
theorem dX11_roots_30 : decode cX11_roots 30 = .ok (.aload_n 0, 1) := by decide +kernel
theorem dX11_roots_31 : decode cX11_roots 31 = .ok (.getfield 50, 3) := by decide +kernel
theorem dX11_roots_34 : decode cX11_roots 34 = .ok (.aload_n 0, 1) := by decide +kernel
theorem dX11_roots_35 : decode cX11_roots 35 = .ok (.getfield 46, 3) := by decide +kernel
theorem dX11_roots_38 : decode cX11_roots 38 = .ok (.aload_n 2, 1) := by decide +kernel
theorem dX11_roots_39 : decode cX11_roots 39 = .ok (.getfield 363, 3) := by decide +kernel
theorem dX11_roots_42 : decode cX11_roots 42 = .ok (.invokevirtual 366, 3) := by decide +kernel
theorem dX11_roots_45 : decode cX11_roots 45 = .ok (.aload_n 0, 1) := by decide +kernel
theorem dX11_roots_46 : decode cX11_roots 46 = .ok (.getfield 97, 3) := by decide +kernel
theorem dX11_roots_49 : decode cX11_roots 49 = .ok (.invokevirtual 421, 3) := by decide +kernel
theorem dX11_roots_52 : decode cX11_roots 52 = .ok (.putfield 100, 3) := by decide +kernel
theorem dX11_roots_55 : decode cX11_roots 55 = .ok (.aload_n 0, 1) := by decide +kernel
theorem dX11_roots_56 : decode cX11_roots 56 = .ok (.getfield 100, 3) := by decide +kernel
theorem dX11_roots_59 : decode cX11_roots 59 = .ok (.ireturn, 1) := by decide +kernel
theorem dX11_root_0 : decode cX11_root 0 = .ok (.iload_n 1, 1) := by decide +kernel
theorem dX11_root_1 : decode cX11_root 1 = .ok (.ifCond .lt 26, 3) := by decide +kernel
theorem dX11_root_4 : decode cX11_root 4 = .ok (.iload_n 1, 1) := by decide +kernel
theorem dX11_root_5 : decode cX11_root 5 = .ok (.aload_n 0, 1) := by decide +kernel
theorem dX11_root_6 : decode cX11_root 6 = .ok (.getfield 100, 3) := by decide +kernel
theorem dX11_root_9 : decode cX11_root 9 = .ok (.if_icmp .ge 18, 3) := by decide +kernel
theorem dX11_root_12 : decode cX11_root 12 = .ok (.iload_n 1, 1) := by decide +kernel
theorem dX11_root_13 : decode cX11_root 13 = .ok (.bipush 24, 2) := by decide +kernel
theorem dX11_root_15 : decode cX11_root 15 = .ok (.if_icmp .ge 12, 3) := by decide +kernel
theorem dX11_root_18 : decode cX11_root 18 = .ok (.aload_n 0, 1) := by decide +kernel
theorem dX11_root_19 : decode cX11_root 19 = .ok (.getfield 97, 3) := by decide +kernel
theorem dX11_root_22 : decode cX11_root 22 = .ok (.iload_n 1, 1) := by decide +kernel
theorem dX11_root_23 : decode cX11_root 23 = .ok (.iaload, 1) := by decide +kernel
theorem dX11_root_24 : decode cX11_root 24 = .ok (.goto 4, 3) := by decide +kernel
theorem dX11_root_27 : decode cX11_root 27 = .ok (.iconst (-1), 1) := by decide +kernel
theorem dX11_root_28 : decode cX11_root 28 = .ok (.ireturn, 1) := by decide +kernel
theorem dX11_solve_0 : decode cX11_solve 0 = .ok (.aload_n 0, 1) := by decide +kernel
theorem dX11_solve_1 : decode cX11_solve 1 = .ok (.iload_n 1, 1) := by decide +kernel
theorem dX11_solve_2 : decode cX11_solve 2 = .ok (.invokevirtual 107, 3) := by decide +kernel
theorem dX11_solve_5 : decode cX11_solve 5 = .ok (.astore_n 3, 1) := by decide +kernel
theorem dX11_solve_6 : decode cX11_solve 6 = .ok (.aload_n 0, 1) := by decide +kernel
theorem dX11_solve_7 : decode cX11_solve 7 = .ok (.iload_n 2, 1) := by decide +kernel
theorem dX11_solve_8 : decode cX11_solve 8 = .ok (.invokevirtual 107, 3) := by decide +kernel
theorem dX11_solve_11 : decode cX11_solve 11 = .ok (.astore 4, 2) := by decide +kernel
theorem dX11_solve_13 : decode cX11_solve 13 = .ok (.aload_n 3, 1) := by decide +kernel
theorem dX11_solve_14 : decode cX11_solve 14 = .ok (.ifnull 8, 3) := by decide +kernel
theorem dX11_solve_17 : decode cX11_solve 17 = .ok (.aload 4, 2) := by decide +kernel
theorem dX11_solve_19 : decode cX11_solve 19 = .ok (.ifnonnull 5, 3) := by decide +kernel
theorem dX11_solve_22 : decode cX11_solve 22 = .ok (.iconst (-1), 1) := by decide +kernel
theorem dX11_solve_23 : decode cX11_solve 23 = .ok (.ireturn, 1) := by decide +kernel
theorem dX11_solve_24 : decode cX11_solve 24 = .ok (.aload_n 3, 1) := by decide +kernel
theorem dX11_solve_25 : decode cX11_solve 25 = .ok (.getfield 191, 3) := by decide +kernel
theorem dX11_solve_28 : decode cX11_solve 28 = .ok (.iconst 3, 1) := by decide +kernel
theorem dX11_solve_29 : decode cX11_solve 29 = .ok (.if_icmp .eq 14, 3) := by decide +kernel
theorem dX11_solve_32 : decode cX11_solve 32 = .ok (.aload_n 3, 1) := by decide +kernel
theorem dX11_solve_33 : decode cX11_solve 33 = .ok (.getfield 191, 3) := by decide +kernel
theorem dX11_solve_36 : decode cX11_solve 36 = .ok (.iconst 4, 1) := by decide +kernel
theorem dX11_solve_37 : decode cX11_solve 37 = .ok (.if_icmp .eq 6, 3) := by decide +kernel
theorem dX11_solve_40 : decode cX11_solve 40 = .ok (.bipush (-3), 2) := by decide +kernel
theorem dX11_solve_42 : decode cX11_solve 42 = .ok (.ireturn, 1) := by decide +kernel
theorem dX11_solve_43 : decode cX11_solve 43 = .ok (.aload_n 3, 1) := by decide +kernel
theorem dX11_solve_44 : decode cX11_solve 44 = .ok (.getfield 206, 3) := by decide +kernel
theorem dX11_solve_47 : decode cX11_solve 47 = .ok (.iconst 1, 1) := by decide +kernel
theorem dX11_solve_48 : decode cX11_solve 48 = .ok (.if_icmp .eq 5, 3) := by decide +kernel
theorem dX11_solve_51 : decode cX11_solve 51 = .ok (.iconst (-1), 1) := by decide +kernel
theorem dX11_solve_52 : decode cX11_solve 52 = .ok (.ireturn, 1) := by decide +kernel
theorem dX11_solve_53 : decode cX11_solve 53 = .ok (.aload_n 0, 1) := by decide +kernel
theorem dX11_solve_54 : decode cX11_solve 54 = .ok (.getfield 42, 3) := by decide +kernel
theorem dX11_solve_57 : decode cX11_solve 57 = .ok (.invokevirtual 111, 3) := by decide +kernel
theorem dX11_solve_60 : decode cX11_solve 60 = .ok (.aload_n 0, 1) := by decide +kernel
theorem dX11_solve_61 : decode cX11_solve 61 = .ok (.getfield 58, 3) := by decide +kernel
theorem dX11_solve_64 : decode cX11_solve 64 = .ok (.aload_n 0, 1) := by decide +kernel
theorem dX11_solve_65 : decode cX11_solve 65 = .ok (.getfield 46, 3) := by decide +kernel
theorem dX11_solve_68 : decode cX11_solve 68 = .ok (.aload_n 3, 1) := by decide +kernel
theorem dX11_solve_69 : decode cX11_solve 69 = .ok (.iconst 0, 1) := by decide +kernel
theorem dX11_solve_70 : decode cX11_solve 70 = .ok (.invokevirtual 372, 3) := by decide +kernel
theorem dX11_solve_73 : decode cX11_solve 73 = .ok (.aload_n 0, 1) := by decide +kernel
theorem dX11_solve_74 : decode cX11_solve 74 = .ok (.getfield 46, 3) := by decide +kernel
theorem dX11_solve_77 : decode cX11_solve 77 = .ok (.aload_n 3, 1) := by decide +kernel
theorem dX11_solve_78 : decode cX11_solve 78 = .ok (.iconst 1, 1) := by decide +kernel
theorem dX11_solve_79 : decode cX11_solve 79 = .ok (.invokevirtual 372, 3) := by decide +kernel
theorem dX11_solve_82 : decode cX11_solve 82 = .ok (.invokevirtual 425, 3) := by decide +kernel
theorem dX11_solve_85 : decode cX11_solve 85 = .ok (.istore 5, 2) := by decide +kernel
theorem dX11_solve_87 : decode cX11_solve 87 = .ok (.iload 5, 2) := by decide +kernel
theorem dX11_solve_89 : decode cX11_solve 89 = .ok (.ifCond .ge 7, 3) := by decide +kernel
theorem dX11_solve_92 : decode cX11_solve 92 = .ok (.iconst (-1), 1) := by decide +kernel
theorem dX11_solve_93 : decode cX11_solve 93 = .ok (.goto 11, 3) := by decide +kernel
theorem dX11_solve_96 : decode cX11_solve 96 = .ok (.aload_n 0, 1) := by decide +kernel
theorem dX11_solve_97 : decode cX11_solve 97 = .ok (.iload 5, 2) := by decide +kernel
theorem dX11_solve_99 : decode cX11_solve 99 = .ok (.aload 4, 2) := by decide +kernel
theorem dX11_solve_101 : decode cX11_solve 101 = .ok (.invokevirtual 247, 3) := by decide +kernel
theorem dX11_solve_104 : decode cX11_solve 104 = .ok (.ireturn, 1) := by decide +kernel
theorem dX11_count_0 : decode cX11_count 0 = .ok (.iload_n 1, 1) := by decide +kernel
theorem dX11_count_1 : decode cX11_count 1 = .ok (.ifCond .lt 8, 3) := by decide +kernel
theorem dX11_count_4 : decode cX11_count 4 = .ok (.iload_n 1, 1) := by decide +kernel
theorem dX11_count_5 : decode cX11_count 5 = .ok (.iconst 5, 1) := by decide +kernel
theorem dX11_count_6 : decode cX11_count 6 = .ok (.if_icmp .le 5, 3) := by decide +kernel
theorem dX11_count_9 : decode cX11_count 9 = .ok (.iconst (-1), 1) := by decide +kernel
theorem dX11_count_10 : decode cX11_count 10 = .ok (.ireturn, 1) := by decide +kernel
theorem dX11_count_11 : decode cX11_count 11 = .ok (.iload_n 1, 1) := by decide +kernel
theorem dX11_count_12 : decode cX11_count 12 = .ok (.iconst 1, 1) := by decide +kernel
theorem dX11_count_13 : decode cX11_count 13 = .ok (.if_icmp .gt 25, 3) := by decide +kernel
theorem dX11_count_16 : decode cX11_count 16 = .ok (.iload_n 1, 1) := by decide +kernel
theorem dX11_count_17 : decode cX11_count 17 = .ok (.ifCond .ne 13, 3) := by decide +kernel
theorem dX11_count_20 : decode cX11_count 20 = .ok (.aload_n 0, 1) := by decide +kernel
theorem dX11_count_21 : decode cX11_count 21 = .ok (.getfield 67, 3) := by decide +kernel
theorem dX11_count_24 : decode cX11_count 24 = .ok (.getfield 228, 3) := by decide +kernel
theorem dX11_count_27 : decode cX11_count 27 = .ok (.goto 10, 3) := by decide +kernel
theorem dX11_count_30 : decode cX11_count 30 = .ok (.aload_n 0, 1) := by decide +kernel
theorem dX11_count_31 : decode cX11_count 31 = .ok (.getfield 67, 3) := by decide +kernel
theorem dX11_count_34 : decode cX11_count 34 = .ok (.getfield 231, 3) := by decide +kernel
theorem dX11_count_37 : decode cX11_count 37 = .ok (.ireturn, 1) := by decide +kernel
theorem dX11_count_38 : decode cX11_count 38 = .ok (.iload_n 1, 1) := by decide +kernel
theorem dX11_count_39 : decode cX11_count 39 = .ok (.iconst 3, 1) := by decide +kernel
theorem dX11_count_40 : decode cX11_count 40 = .ok (.if_icmp .gt 20, 3) := by decide +kernel
theorem dX11_count_43 : decode cX11_count 43 = .ok (.iload_n 1, 1) := by decide +kernel
theorem dX11_count_44 : decode cX11_count 44 = .ok (.iconst 2, 1) := by decide +kernel
theorem dX11_count_45 : decode cX11_count 45 = .ok (.if_icmp .ne 10, 3) := by decide +kernel
theorem dX11_count_48 : decode cX11_count 48 = .ok (.aload_n 0, 1) := by decide +kernel
theorem dX11_count_49 : decode cX11_count 49 = .ok (.getfield 93, 3) := by decide +kernel
theorem dX11_count_52 : decode cX11_count 52 = .ok (.goto 7, 3) := by decide +kernel
theorem dX11_count_55 : decode cX11_count 55 = .ok (.aload_n 0, 1) := by decide +kernel
theorem dX11_count_56 : decode cX11_count 56 = .ok (.getfield 100, 3) := by decide +kernel
theorem dX11_count_59 : decode cX11_count 59 = .ok (.ireturn, 1) := by decide +kernel
theorem dX11_count_60 : decode cX11_count 60 = .ok (.iconst 0, 1) := by decide +kernel
theorem dX11_count_61 : decode cX11_count 61 = .ok (.istore_n 2, 1) := by decide +kernel
theorem dX11_count_62 : decode cX11_count 62 = .ok (.iconst 0, 1) := by decide +kernel
theorem dX11_count_63 : decode cX11_count 63 = .ok (.istore_n 3, 1) := by decide +kernel
theorem dX11_count_64 : decode cX11_count 64 = .ok (.iload_n 3, 1) := by decide +kernel
theorem dX11_count_65 : decode cX11_count 65 = .ok (.bipush 12, 2) := by decide +kernel
theorem dX11_count_67 : decode cX11_count 67 = .ok (.if_icmp .ge 42, 3) := by decide +kernel
theorem dX11_count_70 : decode cX11_count 70 = .ok (.aload_n 0, 1) := by decide +kernel
theorem dX11_count_71 : decode cX11_count 71 = .ok (.getfield 11, 3) := by decide +kernel
theorem dX11_count_74 : decode cX11_count 74 = .ok (.iload_n 3, 1) := by decide +kernel
theorem dX11_count_75 : decode cX11_count 75 = .ok (.aaload, 1) := by decide +kernel
theorem dX11_count_76 : decode cX11_count 76 = .ok (.getfield 191, 3) := by decide +kernel
theorem dX11_count_79 : decode cX11_count 79 = .ok (.istore 4, 2) := by decide +kernel
theorem dX11_count_81 : decode cX11_count 81 = .ok (.iload_n 1, 1) := by decide +kernel
theorem dX11_count_82 : decode cX11_count 82 = .ok (.iconst 4, 1) := by decide +kernel
theorem dX11_count_83 : decode cX11_count 83 = .ok (.if_icmp .ne 11, 3) := by decide +kernel
theorem dX11_count_86 : decode cX11_count 86 = .ok (.iload 4, 2) := by decide +kernel
theorem dX11_count_88 : decode cX11_count 88 = .ok (.ifCond .eq 15, 3) := by decide +kernel
theorem dX11_count_91 : decode cX11_count 91 = .ok (.goto 9, 3) := by decide +kernel
theorem dX11_count_94 : decode cX11_count 94 = .ok (.iload 4, 2) := by decide +kernel
theorem dX11_count_96 : decode cX11_count 96 = .ok (.iconst 3, 1) := by decide +kernel
theorem dX11_count_97 : decode cX11_count 97 = .ok (.if_icmp .ne 6, 3) := by decide +kernel
theorem dX11_count_100 : decode cX11_count 100 = .ok (.iinc 2 1, 3) := by decide +kernel
theorem dX11_count_103 : decode cX11_count 103 = .ok (.iinc 3 1, 3) := by decide +kernel
theorem dX11_count_106 : decode cX11_count 106 = .ok (.goto (-42), 3) := by decide +kernel
theorem dX11_count_109 : decode cX11_count 109 = .ok (.iload_n 2, 1) := by decide +kernel
theorem dX11_count_110 : decode cX11_count 110 = .ok (.ireturn, 1) := by decide +kernel
theorem dX15_init_0 : decode cX15_init 0 = .ok (.aload_n 0, 1) := by decide +kernel
theorem dX15_init_1 : decode cX15_init 1 = .ok (.invokespecial 1, 3) := by decide +kernel
theorem dX15_init_4 : decode cX15_init 4 = .ok (.aload_n 0, 1) := by decide +kernel
theorem dX15_init_5 : decode cX15_init 5 = .ok (.iload_n 1, 1) := by decide +kernel
theorem dX15_init_6 : decode cX15_init 6 = .ok (.newarray .int, 2) := by decide +kernel
theorem dX15_init_8 : decode cX15_init 8 = .ok (.putfield 7, 3) := by decide +kernel
theorem dX15_init_11 : decode cX15_init 11 = .ok (.return_, 1) := by decide +kernel
theorem dX15_number_0 : decode cX15_number 0 = .ok (.aload_n 0, 1) := by decide +kernel
theorem dX15_number_1 : decode cX15_number 1 = .ok (.getfield 7, 3) := by decide +kernel
theorem dX15_number_4 : decode cX15_number 4 = .ok (.iconst 0, 1) := by decide +kernel
theorem dX15_number_5 : decode cX15_number 5 = .ok (.iload_n 1, 1) := by decide +kernel
theorem dX15_number_6 : decode cX15_number 6 = .ok (.iastore, 1) := by decide +kernel
theorem dX15_number_7 : decode cX15_number 7 = .ok (.aload_n 0, 1) := by decide +kernel
theorem dX15_number_8 : decode cX15_number 8 = .ok (.iload_n 1, 1) := by decide +kernel
theorem dX15_number_9 : decode cX15_number 9 = .ok (.ifCond .ne 7, 3) := by decide +kernel
theorem dX15_number_12 : decode cX15_number 12 = .ok (.iconst 0, 1) := by decide +kernel
theorem dX15_number_13 : decode cX15_number 13 = .ok (.goto 4, 3) := by decide +kernel
theorem dX15_number_16 : decode cX15_number 16 = .ok (.iconst 1, 1) := by decide +kernel
theorem dX15_number_17 : decode cX15_number 17 = .ok (.putfield 13, 3) := by decide +kernel
theorem dX15_number_20 : decode cX15_number 20 = .ok (.return_, 1) := by decide +kernel
theorem dX15_at_0 : decode cX15_at 0 = .ok (.iload_n 1, 1) := by decide +kernel
theorem dX15_at_1 : decode cX15_at 1 = .ok (.ifCond .lt 20, 3) := by decide +kernel
theorem dX15_at_4 : decode cX15_at 4 = .ok (.iload_n 1, 1) := by decide +kernel
theorem dX15_at_5 : decode cX15_at 5 = .ok (.aload_n 0, 1) := by decide +kernel
theorem dX15_at_6 : decode cX15_at 6 = .ok (.getfield 13, 3) := by decide +kernel
theorem dX15_at_9 : decode cX15_at 9 = .ok (.if_icmp .ge 12, 3) := by decide +kernel
theorem dX15_at_12 : decode cX15_at 12 = .ok (.aload_n 0, 1) := by decide +kernel
theorem dX15_at_13 : decode cX15_at 13 = .ok (.getfield 7, 3) := by decide +kernel
theorem dX15_at_16 : decode cX15_at 16 = .ok (.iload_n 1, 1) := by decide +kernel
theorem dX15_at_17 : decode cX15_at 17 = .ok (.iaload, 1) := by decide +kernel
theorem dX15_at_18 : decode cX15_at 18 = .ok (.goto 4, 3) := by decide +kernel
theorem dX15_at_21 : decode cX15_at 21 = .ok (.iconst 0, 1) := by decide +kernel
theorem dX15_at_22 : decode cX15_at 22 = .ok (.ireturn, 1) := by decide +kernel
theorem dX12_init_0 : decode cX12_init 0 = .ok (.aload_n 0, 1) := by decide +kernel
theorem dX12_init_1 : decode cX12_init 1 = .ok (.invokespecial 3, 3) := by decide +kernel
theorem dX12_init_4 : decode cX12_init 4 = .ok (.aload_n 0, 1) := by decide +kernel
theorem dX12_init_5 : decode cX12_init 5 = .ok (.bipush 64, 2) := by decide +kernel
theorem dX12_init_7 : decode cX12_init 7 = .ok (.anewarray 9, 3) := by decide +kernel
theorem dX12_init_10 : decode cX12_init 10 = .ok (.putfield 11, 3) := by decide +kernel
theorem dX12_init_13 : decode cX12_init 13 = .ok (.iconst 0, 1) := by decide +kernel
theorem dX12_init_14 : decode cX12_init 14 = .ok (.istore_n 1, 1) := by decide +kernel
theorem dX12_init_15 : decode cX12_init 15 = .ok (.iload_n 1, 1) := by decide +kernel
theorem dX12_init_16 : decode cX12_init 16 = .ok (.bipush 64, 2) := by decide +kernel
theorem dX12_init_18 : decode cX12_init 18 = .ok (.if_icmp .ge 25, 3) := by decide +kernel
theorem dX12_init_21 : decode cX12_init 21 = .ok (.aload_n 0, 1) := by decide +kernel
theorem dX12_init_22 : decode cX12_init 22 = .ok (.getfield 11, 3) := by decide +kernel
theorem dX12_init_25 : decode cX12_init 25 = .ok (.iload_n 1, 1) := by decide +kernel
theorem dX12_init_26 : decode cX12_init 26 = .ok (.new 9, 3) := by decide +kernel
theorem dX12_init_29 : decode cX12_init 29 = .ok (.dup, 1) := by decide +kernel
theorem dX12_init_30 : decode cX12_init 30 = .ok (.sipush 200, 3) := by decide +kernel
theorem dX12_init_33 : decode cX12_init 33 = .ok (.invokespecial 17, 3) := by decide +kernel
theorem dX12_init_36 : decode cX12_init 36 = .ok (.aastore, 1) := by decide +kernel
theorem dX12_init_37 : decode cX12_init 37 = .ok (.iinc 1 1, 3) := by decide +kernel
theorem dX12_init_40 : decode cX12_init 40 = .ok (.goto (-25), 3) := by decide +kernel
theorem dX12_init_43 : decode cX12_init 43 = .ok (.return_, 1) := by decide +kernel
theorem dX12_number_0 : decode cX12_number 0 = .ok (.aload_n 0, 1) := by decide +kernel
theorem dX12_number_1 : decode cX12_number 1 = .ok (.getfield 11, 3) := by decide +kernel
theorem dX12_number_4 : decode cX12_number 4 = .ok (.iconst 0, 1) := by decide +kernel
theorem dX12_number_5 : decode cX12_number 5 = .ok (.aaload, 1) := by decide +kernel
theorem dX12_number_6 : decode cX12_number 6 = .ok (.iload_n 1, 1) := by decide +kernel
theorem dX12_number_7 : decode cX12_number 7 = .ok (.invokevirtual 27, 3) := by decide +kernel
theorem dX12_number_10 : decode cX12_number 10 = .ok (.aload_n 0, 1) := by decide +kernel
theorem dX12_number_11 : decode cX12_number 11 = .ok (.iload_n 1, 1) := by decide +kernel
theorem dX12_number_12 : decode cX12_number 12 = .ok (.ifCond .ne 7, 3) := by decide +kernel
theorem dX12_number_15 : decode cX12_number 15 = .ok (.iconst 0, 1) := by decide +kernel
theorem dX12_number_16 : decode cX12_number 16 = .ok (.goto 4, 3) := by decide +kernel
theorem dX12_number_19 : decode cX12_number 19 = .ok (.iconst 1, 1) := by decide +kernel
theorem dX12_number_20 : decode cX12_number 20 = .ok (.putfield 20, 3) := by decide +kernel
theorem dX12_number_23 : decode cX12_number 23 = .ok (.return_, 1) := by decide +kernel
theorem dX14_init_0 : decode cX14_init 0 = .ok (.aload_n 0, 1) := by decide +kernel
theorem dX14_init_1 : decode cX14_init 1 = .ok (.invokespecial 3, 3) := by decide +kernel
theorem dX14_init_4 : decode cX14_init 4 = .ok (.aload_n 0, 1) := by decide +kernel
theorem dX14_init_5 : decode cX14_init 5 = .ok (.sipush 325, 3) := by decide +kernel
theorem dX14_init_8 : decode cX14_init 8 = .ok (.newarray .int, 2) := by decide +kernel
theorem dX14_init_10 : decode cX14_init 10 = .ok (.putfield 9, 3) := by decide +kernel
theorem dX14_init_13 : decode cX14_init 13 = .ok (.aload_n 0, 1) := by decide +kernel
theorem dX14_init_14 : decode cX14_init 14 = .ok (.sipush 325, 3) := by decide +kernel
theorem dX14_init_17 : decode cX14_init 17 = .ok (.newarray .int, 2) := by decide +kernel
theorem dX14_init_19 : decode cX14_init 19 = .ok (.putfield 15, 3) := by decide +kernel
theorem dX14_init_22 : decode cX14_init 22 = .ok (.aload_n 0, 1) := by decide +kernel
theorem dX14_init_23 : decode cX14_init 23 = .ok (.bipush 13, 2) := by decide +kernel
theorem dX14_init_25 : decode cX14_init 25 = .ok (.newarray .int, 2) := by decide +kernel
theorem dX14_init_27 : decode cX14_init 27 = .ok (.putfield 18, 3) := by decide +kernel
theorem dX14_init_30 : decode cX14_init 30 = .ok (.aload_n 0, 1) := by decide +kernel
theorem dX14_init_31 : decode cX14_init 31 = .ok (.bipush 13, 2) := by decide +kernel
theorem dX14_init_33 : decode cX14_init 33 = .ok (.newarray .int, 2) := by decide +kernel
theorem dX14_init_35 : decode cX14_init 35 = .ok (.putfield 21, 3) := by decide +kernel
theorem dX14_init_38 : decode cX14_init 38 = .ok (.aload_n 0, 1) := by decide +kernel
theorem dX14_init_39 : decode cX14_init 39 = .ok (.bipush 13, 2) := by decide +kernel
theorem dX14_init_41 : decode cX14_init 41 = .ok (.newarray .int, 2) := by decide +kernel
theorem dX14_init_43 : decode cX14_init 43 = .ok (.putfield 24, 3) := by decide +kernel
theorem dX14_init_46 : decode cX14_init 46 = .ok (.aload_n 0, 1) := by decide +kernel
theorem dX14_init_47 : decode cX14_init 47 = .ok (.bipush 13, 2) := by decide +kernel
theorem dX14_init_49 : decode cX14_init 49 = .ok (.newarray .int, 2) := by decide +kernel
theorem dX14_init_51 : decode cX14_init 51 = .ok (.putfield 27, 3) := by decide +kernel
theorem dX14_init_54 : decode cX14_init 54 = .ok (.aload_n 0, 1) := by decide +kernel
theorem dX14_init_55 : decode cX14_init 55 = .ok (.sipush 175, 3) := by decide +kernel
theorem dX14_init_58 : decode cX14_init 58 = .ok (.newarray .int, 2) := by decide +kernel
theorem dX14_init_60 : decode cX14_init 60 = .ok (.putfield 30, 3) := by decide +kernel
theorem dX14_init_63 : decode cX14_init 63 = .ok (.aload_n 0, 1) := by decide +kernel
theorem dX14_init_64 : decode cX14_init 64 = .ok (.sipush 361, 3) := by decide +kernel
theorem dX14_init_67 : decode cX14_init 67 = .ok (.newarray .int, 2) := by decide +kernel
theorem dX14_init_69 : decode cX14_init 69 = .ok (.putfield 33, 3) := by decide +kernel
theorem dX14_init_72 : decode cX14_init 72 = .ok (.return_, 1) := by decide +kernel
theorem dX13_init_0 : decode cX13_init 0 = .ok (.aload_n 0, 1) := by decide +kernel
theorem dX13_init_1 : decode cX13_init 1 = .ok (.aconst_null, 1) := by decide +kernel
theorem dX13_init_2 : decode cX13_init 2 = .ok (.aconst_null, 1) := by decide +kernel
theorem dX13_init_3 : decode cX13_init 3 = .ok (.iconst 0, 1) := by decide +kernel
theorem dX13_init_4 : decode cX13_init 4 = .ok (.iconst 0, 1) := by decide +kernel
theorem dX13_init_5 : decode cX13_init 5 = .ok (.invokespecial 1, 3) := by decide +kernel
theorem dX13_init_8 : decode cX13_init 8 = .ok (.return_, 1) := by decide +kernel
theorem dX16_init_0 : decode cX16_init 0 = .ok (.aload_n 0, 1) := by decide +kernel
theorem dX16_init_1 : decode cX16_init 1 = .ok (.invokespecial 436, 3) := by decide +kernel
theorem dX16_init_4 : decode cX16_init 4 = .ok (.aload_n 0, 1) := by decide +kernel
theorem dX16_init_5 : decode cX16_init 5 = .ok (.sipush 160, 3) := by decide +kernel
theorem dX16_init_8 : decode cX16_init 8 = .ok (.anewarray 26, 3) := by decide +kernel
theorem dX16_init_11 : decode cX16_init 11 = .ok (.putfield 17, 3) := by decide +kernel
theorem dX16_init_14 : decode cX16_init 14 = .ok (.aload_n 0, 1) := by decide +kernel
theorem dX16_init_15 : decode cX16_init 15 = .ok (.bipush 44, 2) := by decide +kernel
theorem dX16_init_17 : decode cX16_init 17 = .ok (.anewarray 94, 3) := by decide +kernel
theorem dX16_init_20 : decode cX16_init 20 = .ok (.putfield 86, 3) := by decide +kernel
theorem dX16_init_23 : decode cX16_init 23 = .ok (.aload_n 0, 1) := by decide +kernel
theorem dX16_init_24 : decode cX16_init 24 = .ok (.sipush 700, 3) := by decide +kernel
theorem dX16_init_27 : decode cX16_init 27 = .ok (.newarray .int, 2) := by decide +kernel
theorem dX16_init_29 : decode cX16_init 29 = .ok (.putfield 151, 3) := by decide +kernel
theorem dX16_init_32 : decode cX16_init 32 = .ok (.aload_n 0, 1) := by decide +kernel
theorem dX16_init_33 : decode cX16_init 33 = .ok (.bipush 64, 2) := by decide +kernel
theorem dX16_init_35 : decode cX16_init 35 = .ok (.sipush 700, 3) := by decide +kernel
theorem dX16_init_38 : decode cX16_init 38 = .ok (.multianewarray 441 2, 4) := by decide +kernel
theorem dX16_init_42 : decode cX16_init 42 = .ok (.putfield 159, 3) := by decide +kernel
theorem dX16_init_45 : decode cX16_init 45 = .ok (.aload_n 0, 1) := by decide +kernel
theorem dX16_init_46 : decode cX16_init 46 = .ok (.new 203, 3) := by decide +kernel
theorem dX16_init_49 : decode cX16_init 49 = .ok (.dup, 1) := by decide +kernel
theorem dX16_init_50 : decode cX16_init 50 = .ok (.invokespecial 442, 3) := by decide +kernel
theorem dX16_init_53 : decode cX16_init 53 = .ok (.putfield 443, 3) := by decide +kernel
theorem dX16_init_56 : decode cX16_init 56 = .ok (.aload_n 0, 1) := by decide +kernel
theorem dX16_init_57 : decode cX16_init 57 = .ok (.bipush 13, 2) := by decide +kernel
theorem dX16_init_59 : decode cX16_init 59 = .ok (.newarray .boolean, 2) := by decide +kernel
theorem dX16_init_61 : decode cX16_init 61 = .ok (.putfield 310, 3) := by decide +kernel
theorem dX16_init_64 : decode cX16_init 64 = .ok (.aload_n 0, 1) := by decide +kernel
theorem dX16_init_65 : decode cX16_init 65 = .ok (.new 447, 3) := by decide +kernel
theorem dX16_init_68 : decode cX16_init 68 = .ok (.dup, 1) := by decide +kernel
theorem dX16_init_69 : decode cX16_init 69 = .ok (.invokespecial 449, 3) := by decide +kernel
theorem dX16_init_72 : decode cX16_init 72 = .ok (.putfield 330, 3) := by decide +kernel
theorem dX16_init_75 : decode cX16_init 75 = .ok (.aload_n 0, 1) := by decide +kernel
theorem dX16_init_76 : decode cX16_init 76 = .ok (.sipush 400, 3) := by decide +kernel
theorem dX16_init_79 : decode cX16_init 79 = .ok (.newarray .byte, 2) := by decide +kernel
theorem dX16_init_81 : decode cX16_init 81 = .ok (.putfield 339, 3) := by decide +kernel
theorem dX16_init_84 : decode cX16_init 84 = .ok (.aload_n 0, 1) := by decide +kernel
theorem dX16_init_85 : decode cX16_init 85 = .ok (.sipush 130, 3) := by decide +kernel
theorem dX16_init_88 : decode cX16_init 88 = .ok (.anewarray 203, 3) := by decide +kernel
theorem dX16_init_91 : decode cX16_init 91 = .ok (.putfield 371, 3) := by decide +kernel
theorem dX16_init_94 : decode cX16_init 94 = .ok (.aload_n 0, 1) := by decide +kernel
theorem dX16_init_95 : decode cX16_init 95 = .ok (.bipush 12, 2) := by decide +kernel
theorem dX16_init_97 : decode cX16_init 97 = .ok (.anewarray 203, 3) := by decide +kernel
theorem dX16_init_100 : decode cX16_init 100 = .ok (.putfield 450, 3) := by decide +kernel
theorem dX16_init_103 : decode cX16_init 103 = .ok (.aload_n 0, 1) := by decide +kernel
theorem dX16_init_104 : decode cX16_init 104 = .ok (.new 203, 3) := by decide +kernel
theorem dX16_init_107 : decode cX16_init 107 = .ok (.dup, 1) := by decide +kernel
theorem dX16_init_108 : decode cX16_init 108 = .ok (.invokespecial 442, 3) := by decide +kernel
theorem dX16_init_111 : decode cX16_init 111 = .ok (.putfield 453, 3) := by decide +kernel
theorem dX16_init_114 : decode cX16_init 114 = .ok (.aload_n 0, 1) := by decide +kernel
theorem dX16_init_115 : decode cX16_init 115 = .ok (.iconst (-1), 1) := by decide +kernel
theorem dX16_init_116 : decode cX16_init 116 = .ok (.putfield 456, 3) := by decide +kernel
theorem dX16_init_119 : decode cX16_init 119 = .ok (.aload_n 0, 1) := by decide +kernel
theorem dX16_init_120 : decode cX16_init 120 = .ok (.sipush 4000, 3) := by decide +kernel
theorem dX16_init_123 : decode cX16_init 123 = .ok (.newarray .byte, 2) := by decide +kernel
theorem dX16_init_125 : decode cX16_init 125 = .ok (.putfield 459, 3) := by decide +kernel
theorem dX16_init_128 : decode cX16_init 128 = .ok (.aload_n 0, 1) := by decide +kernel
theorem dX16_init_129 : decode cX16_init 129 = .ok (.sipush 4000, 3) := by decide +kernel
theorem dX16_init_132 : decode cX16_init 132 = .ok (.newarray .byte, 2) := by decide +kernel
theorem dX16_init_134 : decode cX16_init 134 = .ok (.putfield 462, 3) := by decide +kernel
theorem dX16_init_137 : decode cX16_init 137 = .ok (.aload_n 0, 1) := by decide +kernel
theorem dX16_init_138 : decode cX16_init 138 = .ok (.bipush 60, 2) := by decide +kernel
theorem dX16_init_140 : decode cX16_init 140 = .ok (.newarray .int, 2) := by decide +kernel
theorem dX16_init_142 : decode cX16_init 142 = .ok (.putfield 465, 3) := by decide +kernel
theorem dX16_init_145 : decode cX16_init 145 = .ok (.aload_n 0, 1) := by decide +kernel
theorem dX16_init_146 : decode cX16_init 146 = .ok (.bipush 30, 2) := by decide +kernel
theorem dX16_init_148 : decode cX16_init 148 = .ok (.newarray .int, 2) := by decide +kernel
theorem dX16_init_150 : decode cX16_init 150 = .ok (.putfield 468, 3) := by decide +kernel
theorem dX16_init_153 : decode cX16_init 153 = .ok (.aload_n 0, 1) := by decide +kernel
theorem dX16_init_154 : decode cX16_init 154 = .ok (.bipush 120, 2) := by decide +kernel
theorem dX16_init_156 : decode cX16_init 156 = .ok (.newarray .int, 2) := by decide +kernel
theorem dX16_init_158 : decode cX16_init 158 = .ok (.putfield 471, 3) := by decide +kernel
theorem dX16_init_161 : decode cX16_init 161 = .ok (.aload_n 0, 1) := by decide +kernel
theorem dX16_init_162 : decode cX16_init 162 = .ok (.bipush 120, 2) := by decide +kernel
theorem dX16_init_164 : decode cX16_init 164 = .ok (.newarray .int, 2) := by decide +kernel
theorem dX16_init_166 : decode cX16_init 166 = .ok (.putfield 474, 3) := by decide +kernel
theorem dX16_init_169 : decode cX16_init 169 = .ok (.aload_n 0, 1) := by decide +kernel
theorem dX16_init_170 : decode cX16_init 170 = .ok (.bipush 120, 2) := by decide +kernel
theorem dX16_init_172 : decode cX16_init 172 = .ok (.newarray .int, 2) := by decide +kernel
theorem dX16_init_174 : decode cX16_init 174 = .ok (.putfield 477, 3) := by decide +kernel
theorem dX16_init_177 : decode cX16_init 177 = .ok (.aload_n 0, 1) := by decide +kernel
theorem dX16_init_178 : decode cX16_init 178 = .ok (.bipush 120, 2) := by decide +kernel
theorem dX16_init_180 : decode cX16_init 180 = .ok (.newarray .int, 2) := by decide +kernel
theorem dX16_init_182 : decode cX16_init 182 = .ok (.putfield 480, 3) := by decide +kernel
theorem dX16_init_185 : decode cX16_init 185 = .ok (.aload_n 0, 1) := by decide +kernel
theorem dX16_init_186 : decode cX16_init 186 = .ok (.bipush 48, 2) := by decide +kernel
theorem dX16_init_188 : decode cX16_init 188 = .ok (.bipush 48, 2) := by decide +kernel
theorem dX16_init_190 : decode cX16_init 190 = .ok (.multianewarray 441 2, 4) := by decide +kernel
theorem dX16_init_194 : decode cX16_init 194 = .ok (.putfield 483, 3) := by decide +kernel
theorem dX16_init_197 : decode cX16_init 197 = .ok (.aload_n 0, 1) := by decide +kernel
theorem dX16_init_198 : decode cX16_init 198 = .ok (.bipush 26, 2) := by decide +kernel
theorem dX16_init_200 : decode cX16_init 200 = .ok (.bipush 14, 2) := by decide +kernel
theorem dX16_init_202 : decode cX16_init 202 = .ok (.multianewarray 485 2, 4) := by decide +kernel
theorem dX16_init_206 : decode cX16_init 206 = .ok (.putfield 487, 3) := by decide +kernel
theorem dX16_init_209 : decode cX16_init 209 = .ok (.aload_n 0, 1) := by decide +kernel
theorem dX16_init_210 : decode cX16_init 210 = .ok (.bipush 14, 2) := by decide +kernel
theorem dX16_init_212 : decode cX16_init 212 = .ok (.anewarray 26, 3) := by decide +kernel
theorem dX16_init_215 : decode cX16_init 215 = .ok (.putfield 490, 3) := by decide +kernel
theorem dX16_init_218 : decode cX16_init 218 = .ok (.aload_n 0, 1) := by decide +kernel
theorem dX16_init_219 : decode cX16_init 219 = .ok (.bipush 14, 2) := by decide +kernel
theorem dX16_init_221 : decode cX16_init 221 = .ok (.newarray .boolean, 2) := by decide +kernel
theorem dX16_init_223 : decode cX16_init 223 = .ok (.putfield 493, 3) := by decide +kernel
theorem dX16_init_226 : decode cX16_init 226 = .ok (.aload_n 0, 1) := by decide +kernel
theorem dX16_init_227 : decode cX16_init 227 = .ok (.bipush 14, 2) := by decide +kernel
theorem dX16_init_229 : decode cX16_init 229 = .ok (.newarray .int, 2) := by decide +kernel
theorem dX16_init_231 : decode cX16_init 231 = .ok (.putfield 496, 3) := by decide +kernel
theorem dX16_init_234 : decode cX16_init 234 = .ok (.aload_n 0, 1) := by decide +kernel
theorem dX16_init_235 : decode cX16_init 235 = .ok (.iconst 4, 1) := by decide +kernel
theorem dX16_init_236 : decode cX16_init 236 = .ok (.anewarray 94, 3) := by decide +kernel
theorem dX16_init_239 : decode cX16_init 239 = .ok (.putfield 499, 3) := by decide +kernel
theorem dX16_init_242 : decode cX16_init 242 = .ok (.aload_n 0, 1) := by decide +kernel
theorem dX16_init_243 : decode cX16_init 243 = .ok (.iconst 4, 1) := by decide +kernel
theorem dX16_init_244 : decode cX16_init 244 = .ok (.anewarray 26, 3) := by decide +kernel
theorem dX16_init_247 : decode cX16_init 247 = .ok (.putfield 502, 3) := by decide +kernel
theorem dX16_init_250 : decode cX16_init 250 = .ok (.aload_n 0, 1) := by decide +kernel
theorem dX16_init_251 : decode cX16_init 251 = .ok (.iconst 4, 1) := by decide +kernel
theorem dX16_init_252 : decode cX16_init 252 = .ok (.sipush 325, 3) := by decide +kernel
theorem dX16_init_255 : decode cX16_init 255 = .ok (.multianewarray 441 2, 4) := by decide +kernel
theorem dX16_init_259 : decode cX16_init 259 = .ok (.putfield 505, 3) := by decide +kernel
theorem dX16_init_262 : decode cX16_init 262 = .ok (.aload_n 0, 1) := by decide +kernel
theorem dX16_init_263 : decode cX16_init 263 = .ok (.iconst 4, 1) := by decide +kernel
theorem dX16_init_264 : decode cX16_init 264 = .ok (.sipush 325, 3) := by decide +kernel
theorem dX16_init_267 : decode cX16_init 267 = .ok (.multianewarray 441 2, 4) := by decide +kernel
theorem dX16_init_271 : decode cX16_init 271 = .ok (.putfield 508, 3) := by decide +kernel
theorem dX16_init_274 : decode cX16_init 274 = .ok (.aload_n 0, 1) := by decide +kernel
theorem dX16_init_275 : decode cX16_init 275 = .ok (.iconst 4, 1) := by decide +kernel
theorem dX16_init_276 : decode cX16_init 276 = .ok (.anewarray 94, 3) := by decide +kernel
theorem dX16_init_279 : decode cX16_init 279 = .ok (.putfield 511, 3) := by decide +kernel
theorem dX16_init_282 : decode cX16_init 282 = .ok (.aload_n 0, 1) := by decide +kernel
theorem dX16_init_283 : decode cX16_init 283 = .ok (.iconst 4, 1) := by decide +kernel
theorem dX16_init_284 : decode cX16_init 284 = .ok (.anewarray 94, 3) := by decide +kernel
theorem dX16_init_287 : decode cX16_init 287 = .ok (.putfield 514, 3) := by decide +kernel
theorem dX16_init_290 : decode cX16_init 290 = .ok (.aload_n 0, 1) := by decide +kernel
theorem dX16_init_291 : decode cX16_init 291 = .ok (.bipush 8, 2) := by decide +kernel
theorem dX16_init_293 : decode cX16_init 293 = .ok (.anewarray 26, 3) := by decide +kernel
theorem dX16_init_296 : decode cX16_init 296 = .ok (.putfield 517, 3) := by decide +kernel
theorem dX16_init_299 : decode cX16_init 299 = .ok (.aload_n 0, 1) := by decide +kernel
theorem dX16_init_300 : decode cX16_init 300 = .ok (.bipush 7, 2) := by decide +kernel
theorem dX16_init_302 : decode cX16_init 302 = .ok (.bipush 6, 2) := by decide +kernel
theorem dX16_init_304 : decode cX16_init 304 = .ok (.multianewarray 485 2, 4) := by decide +kernel
theorem dX16_init_308 : decode cX16_init 308 = .ok (.putfield 520, 3) := by decide +kernel
theorem dX16_init_311 : decode cX16_init 311 = .ok (.aload_n 0, 1) := by decide +kernel
theorem dX16_init_312 : decode cX16_init 312 = .ok (.bipush 7, 2) := by decide +kernel
theorem dX16_init_314 : decode cX16_init 314 = .ok (.bipush 6, 2) := by decide +kernel
theorem dX16_init_316 : decode cX16_init 316 = .ok (.multianewarray 485 2, 4) := by decide +kernel
theorem dX16_init_320 : decode cX16_init 320 = .ok (.putfield 523, 3) := by decide +kernel
theorem dX16_init_323 : decode cX16_init 323 = .ok (.aload_n 0, 1) := by decide +kernel
theorem dX16_init_324 : decode cX16_init 324 = .ok (.bipush 7, 2) := by decide +kernel
theorem dX16_init_326 : decode cX16_init 326 = .ok (.anewarray 26, 3) := by decide +kernel
theorem dX16_init_329 : decode cX16_init 329 = .ok (.putfield 526, 3) := by decide +kernel
theorem dX16_init_332 : decode cX16_init 332 = .ok (.aload_n 0, 1) := by decide +kernel
theorem dX16_init_333 : decode cX16_init 333 = .ok (.bipush 7, 2) := by decide +kernel
theorem dX16_init_335 : decode cX16_init 335 = .ok (.anewarray 26, 3) := by decide +kernel
theorem dX16_init_338 : decode cX16_init 338 = .ok (.putfield 529, 3) := by decide +kernel
theorem dX16_init_341 : decode cX16_init 341 = .ok (.aload_n 0, 1) := by decide +kernel
theorem dX16_init_342 : decode cX16_init 342 = .ok (.bipush 60, 2) := by decide +kernel
theorem dX16_init_344 : decode cX16_init 344 = .ok (.bipush 46, 2) := by decide +kernel
theorem dX16_init_346 : decode cX16_init 346 = .ok (.multianewarray 441 2, 4) := by decide +kernel
theorem dX16_init_350 : decode cX16_init 350 = .ok (.putfield 532, 3) := by decide +kernel
theorem dX16_init_353 : decode cX16_init 353 = .ok (.aload_n 0, 1) := by decide +kernel
theorem dX16_init_354 : decode cX16_init 354 = .ok (.bipush 46, 2) := by decide +kernel
theorem dX16_init_356 : decode cX16_init 356 = .ok (.newarray .int, 2) := by decide +kernel
theorem dX16_init_358 : decode cX16_init 358 = .ok (.putfield 535, 3) := by decide +kernel
theorem dX16_init_361 : decode cX16_init 361 = .ok (.aload_n 0, 1) := by decide +kernel
theorem dX16_init_362 : decode cX16_init 362 = .ok (.bipush 30, 2) := by decide +kernel
theorem dX16_init_364 : decode cX16_init 364 = .ok (.newarray .int, 2) := by decide +kernel
theorem dX16_init_366 : decode cX16_init 366 = .ok (.putfield 538, 3) := by decide +kernel
theorem dX16_init_369 : decode cX16_init 369 = .ok (.aload_n 0, 1) := by decide +kernel
theorem dX16_init_370 : decode cX16_init 370 = .ok (.bipush 101, 2) := by decide +kernel
theorem dX16_init_372 : decode cX16_init 372 = .ok (.newarray .int, 2) := by decide +kernel
theorem dX16_init_374 : decode cX16_init 374 = .ok (.putfield 541, 3) := by decide +kernel
theorem dX16_init_377 : decode cX16_init 377 = .ok (.iconst 0, 1) := by decide +kernel
theorem dX16_init_378 : decode cX16_init 378 = .ok (.istore_n 1, 1) := by decide +kernel
theorem dX16_init_379 : decode cX16_init 379 = .ok (.iload_n 1, 1) := by decide +kernel
theorem dX16_init_380 : decode cX16_init 380 = .ok (.aload_n 0, 1) := by decide +kernel
theorem dX16_init_381 : decode cX16_init 381 = .ok (.getfield 17, 3) := by decide +kernel
theorem dX16_init_384 : decode cX16_init 384 = .ok (.arraylength, 1) := by decide +kernel
theorem dX16_init_385 : decode cX16_init 385 = .ok (.if_icmp .ge 25, 3) := by decide +kernel
theorem dX16_init_388 : decode cX16_init 388 = .ok (.aload_n 0, 1) := by decide +kernel
theorem dX16_init_389 : decode cX16_init 389 = .ok (.getfield 17, 3) := by decide +kernel
theorem dX16_init_392 : decode cX16_init 392 = .ok (.iload_n 1, 1) := by decide +kernel
theorem dX16_init_393 : decode cX16_init 393 = .ok (.new 26, 3) := by decide +kernel
theorem dX16_init_396 : decode cX16_init 396 = .ok (.dup, 1) := by decide +kernel
theorem dX16_init_397 : decode cX16_init 397 = .ok (.sipush 1000, 3) := by decide +kernel
theorem dX16_init_400 : decode cX16_init 400 = .ok (.invokespecial 544, 3) := by decide +kernel
theorem dX16_init_403 : decode cX16_init 403 = .ok (.aastore, 1) := by decide +kernel
theorem dX16_init_404 : decode cX16_init 404 = .ok (.iinc 1 1, 3) := by decide +kernel
theorem dX16_init_407 : decode cX16_init 407 = .ok (.goto (-28), 3) := by decide +kernel
theorem dX16_init_410 : decode cX16_init 410 = .ok (.iconst 0, 1) := by decide +kernel
theorem dX16_init_411 : decode cX16_init 411 = .ok (.istore_n 1, 1) := by decide +kernel
theorem dX16_init_412 : decode cX16_init 412 = .ok (.iload_n 1, 1) := by decide +kernel
theorem dX16_init_413 : decode cX16_init 413 = .ok (.aload_n 0, 1) := by decide +kernel
theorem dX16_init_414 : decode cX16_init 414 = .ok (.getfield 86, 3) := by decide +kernel
theorem dX16_init_417 : decode cX16_init 417 = .ok (.arraylength, 1) := by decide +kernel
theorem dX16_init_418 : decode cX16_init 418 = .ok (.if_icmp .ge 22, 3) := by decide +kernel
theorem dX16_init_421 : decode cX16_init 421 = .ok (.aload_n 0, 1) := by decide +kernel
theorem dX16_init_422 : decode cX16_init 422 = .ok (.getfield 86, 3) := by decide +kernel
theorem dX16_init_425 : decode cX16_init 425 = .ok (.iload_n 1, 1) := by decide +kernel
theorem dX16_init_426 : decode cX16_init 426 = .ok (.new 94, 3) := by decide +kernel
theorem dX16_init_429 : decode cX16_init 429 = .ok (.dup, 1) := by decide +kernel
theorem dX16_init_430 : decode cX16_init 430 = .ok (.invokespecial 546, 3) := by decide +kernel
theorem dX16_init_433 : decode cX16_init 433 = .ok (.aastore, 1) := by decide +kernel
theorem dX16_init_434 : decode cX16_init 434 = .ok (.iinc 1 1, 3) := by decide +kernel
theorem dX16_init_437 : decode cX16_init 437 = .ok (.goto (-25), 3) := by decide +kernel
theorem dX16_init_440 : decode cX16_init 440 = .ok (.iconst 0, 1) := by decide +kernel
theorem dX16_init_441 : decode cX16_init 441 = .ok (.istore_n 1, 1) := by decide +kernel
theorem dX16_init_442 : decode cX16_init 442 = .ok (.iload_n 1, 1) := by decide +kernel
theorem dX16_init_443 : decode cX16_init 443 = .ok (.aload_n 0, 1) := by decide +kernel
theorem dX16_init_444 : decode cX16_init 444 = .ok (.getfield 371, 3) := by decide +kernel
theorem dX16_init_447 : decode cX16_init 447 = .ok (.arraylength, 1) := by decide +kernel
theorem dX16_init_448 : decode cX16_init 448 = .ok (.if_icmp .ge 22, 3) := by decide +kernel
theorem dX16_init_451 : decode cX16_init 451 = .ok (.aload_n 0, 1) := by decide +kernel
theorem dX16_init_452 : decode cX16_init 452 = .ok (.getfield 371, 3) := by decide +kernel
theorem dX16_init_455 : decode cX16_init 455 = .ok (.iload_n 1, 1) := by decide +kernel
theorem dX16_init_456 : decode cX16_init 456 = .ok (.new 203, 3) := by decide +kernel
theorem dX16_init_459 : decode cX16_init 459 = .ok (.dup, 1) := by decide +kernel
theorem dX16_init_460 : decode cX16_init 460 = .ok (.invokespecial 442, 3) := by decide +kernel
theorem dX16_init_463 : decode cX16_init 463 = .ok (.aastore, 1) := by decide +kernel
theorem dX16_init_464 : decode cX16_init 464 = .ok (.iinc 1 1, 3) := by decide +kernel
theorem dX16_init_467 : decode cX16_init 467 = .ok (.goto (-25), 3) := by decide +kernel
theorem dX16_init_470 : decode cX16_init 470 = .ok (.iconst 0, 1) := by decide +kernel
theorem dX16_init_471 : decode cX16_init 471 = .ok (.istore_n 1, 1) := by decide +kernel
theorem dX16_init_472 : decode cX16_init 472 = .ok (.iload_n 1, 1) := by decide +kernel
theorem dX16_init_473 : decode cX16_init 473 = .ok (.bipush 12, 2) := by decide +kernel
theorem dX16_init_475 : decode cX16_init 475 = .ok (.if_icmp .ge 22, 3) := by decide +kernel
theorem dX16_init_478 : decode cX16_init 478 = .ok (.aload_n 0, 1) := by decide +kernel
theorem dX16_init_479 : decode cX16_init 479 = .ok (.getfield 450, 3) := by decide +kernel
theorem dX16_init_482 : decode cX16_init 482 = .ok (.iload_n 1, 1) := by decide +kernel
theorem dX16_init_483 : decode cX16_init 483 = .ok (.new 203, 3) := by decide +kernel
theorem dX16_init_486 : decode cX16_init 486 = .ok (.dup, 1) := by decide +kernel
theorem dX16_init_487 : decode cX16_init 487 = .ok (.invokespecial 442, 3) := by decide +kernel
theorem dX16_init_490 : decode cX16_init 490 = .ok (.aastore, 1) := by decide +kernel
theorem dX16_init_491 : decode cX16_init 491 = .ok (.iinc 1 1, 3) := by decide +kernel
theorem dX16_init_494 : decode cX16_init 494 = .ok (.goto (-22), 3) := by decide +kernel
theorem dX16_init_497 : decode cX16_init 497 = .ok (.iconst 0, 1) := by decide +kernel
theorem dX16_init_498 : decode cX16_init 498 = .ok (.istore_n 1, 1) := by decide +kernel
theorem dX16_init_499 : decode cX16_init 499 = .ok (.iload_n 1, 1) := by decide +kernel
theorem dX16_init_500 : decode cX16_init 500 = .ok (.bipush 26, 2) := by decide +kernel
theorem dX16_init_502 : decode cX16_init 502 = .ok (.if_icmp .ge 41, 3) := by decide +kernel
theorem dX16_init_505 : decode cX16_init 505 = .ok (.iconst 0, 1) := by decide +kernel
theorem dX16_init_506 : decode cX16_init 506 = .ok (.istore_n 2, 1) := by decide +kernel
theorem dX16_init_507 : decode cX16_init 507 = .ok (.iload_n 2, 1) := by decide +kernel
theorem dX16_init_508 : decode cX16_init 508 = .ok (.bipush 14, 2) := by decide +kernel
theorem dX16_init_510 : decode cX16_init 510 = .ok (.if_icmp .ge 27, 3) := by decide +kernel
theorem dX16_init_513 : decode cX16_init 513 = .ok (.aload_n 0, 1) := by decide +kernel
theorem dX16_init_514 : decode cX16_init 514 = .ok (.getfield 487, 3) := by decide +kernel
theorem dX16_init_517 : decode cX16_init 517 = .ok (.iload_n 1, 1) := by decide +kernel
theorem dX16_init_518 : decode cX16_init 518 = .ok (.aaload, 1) := by decide +kernel
theorem dX16_init_519 : decode cX16_init 519 = .ok (.iload_n 2, 1) := by decide +kernel
theorem dX16_init_520 : decode cX16_init 520 = .ok (.new 26, 3) := by decide +kernel
theorem dX16_init_523 : decode cX16_init 523 = .ok (.dup, 1) := by decide +kernel
theorem dX16_init_524 : decode cX16_init 524 = .ok (.sipush 1000, 3) := by decide +kernel
theorem dX16_init_527 : decode cX16_init 527 = .ok (.invokespecial 544, 3) := by decide +kernel
theorem dX16_init_530 : decode cX16_init 530 = .ok (.aastore, 1) := by decide +kernel
theorem dX16_init_531 : decode cX16_init 531 = .ok (.iinc 2 1, 3) := by decide +kernel
theorem dX16_init_534 : decode cX16_init 534 = .ok (.goto (-27), 3) := by decide +kernel
theorem dX16_init_537 : decode cX16_init 537 = .ok (.iinc 1 1, 3) := by decide +kernel
theorem dX16_init_540 : decode cX16_init 540 = .ok (.goto (-41), 3) := by decide +kernel
theorem dX16_init_543 : decode cX16_init 543 = .ok (.return_, 1) := by decide +kernel
theorem dX16_isSlot_0 : decode cX16_isSlot 0 = .ok (.iload_n 0, 1) := by decide +kernel
theorem dX16_isSlot_1 : decode cX16_isSlot 1 = .ok (.ifCond .lt 13, 3) := by decide +kernel
theorem dX16_isSlot_4 : decode cX16_isSlot 4 = .ok (.iload_n 0, 1) := by decide +kernel
theorem dX16_isSlot_5 : decode cX16_isSlot 5 = .ok (.bipush 12, 2) := by decide +kernel
theorem dX16_isSlot_7 : decode cX16_isSlot 7 = .ok (.if_icmp .ge 7, 3) := by decide +kernel
theorem dX16_isSlot_10 : decode cX16_isSlot 10 = .ok (.iconst 1, 1) := by decide +kernel
theorem dX16_isSlot_11 : decode cX16_isSlot 11 = .ok (.goto 4, 3) := by decide +kernel
theorem dX16_isSlot_14 : decode cX16_isSlot 14 = .ok (.iconst 0, 1) := by decide +kernel
theorem dX16_isSlot_15 : decode cX16_isSlot 15 = .ok (.ireturn, 1) := by decide +kernel
theorem dX16_begin_0 : decode cX16_begin 0 = .ok (.aload_n 0, 1) := by decide +kernel
theorem dX16_begin_1 : decode cX16_begin 1 = .ok (.iconst 0, 1) := by decide +kernel
theorem dX16_begin_2 : decode cX16_begin 2 = .ok (.putfield 21, 3) := by decide +kernel
theorem dX16_begin_5 : decode cX16_begin 5 = .ok (.aload_n 0, 1) := by decide +kernel
theorem dX16_begin_6 : decode cX16_begin 6 = .ok (.iconst 0, 1) := by decide +kernel
theorem dX16_begin_7 : decode cX16_begin 7 = .ok (.putfield 90, 3) := by decide +kernel
theorem dX16_begin_10 : decode cX16_begin 10 = .ok (.aload_n 0, 1) := by decide +kernel
theorem dX16_begin_11 : decode cX16_begin 11 = .ok (.iconst 0, 1) := by decide +kernel
theorem dX16_begin_12 : decode cX16_begin 12 = .ok (.putfield 375, 3) := by decide +kernel
theorem dX16_begin_15 : decode cX16_begin 15 = .ok (.return_, 1) := by decide +kernel
theorem dX16_look_0 : decode cX16_look 0 = .ok (.aload_n 0, 1) := by decide +kernel
theorem dX16_look_1 : decode cX16_look 1 = .ok (.getfield 334, 3) := by decide +kernel
theorem dX16_look_4 : decode cX16_look 4 = .ok (.aload_n 0, 1) := by decide +kernel
theorem dX16_look_5 : decode cX16_look 5 = .ok (.getfield 336, 3) := by decide +kernel
theorem dX16_look_8 : decode cX16_look 8 = .ok (.if_icmp .ge 30, 3) := by decide +kernel
theorem dX16_look_11 : decode cX16_look 11 = .ok (.aload_n 0, 1) := by decide +kernel
theorem dX16_look_12 : decode cX16_look 12 = .ok (.getfield 339, 3) := by decide +kernel
theorem dX16_look_15 : decode cX16_look 15 = .ok (.aload_n 0, 1) := by decide +kernel
theorem dX16_look_16 : decode cX16_look 16 = .ok (.getfield 334, 3) := by decide +kernel
theorem dX16_look_19 : decode cX16_look 19 = .ok (.baload, 1) := by decide +kernel
theorem dX16_look_20 : decode cX16_look 20 = .ok (.bipush 32, 2) := by decide +kernel
theorem dX16_look_22 : decode cX16_look 22 = .ok (.if_icmp .ne 16, 3) := by decide +kernel
theorem dX16_look_25 : decode cX16_look 25 = .ok (.aload_n 0, 1) := by decide +kernel
theorem dX16_look_26 : decode cX16_look 26 = .ok (.dup, 1) := by decide +kernel
theorem dX16_look_27 : decode cX16_look 27 = .ok (.getfield 334, 3) := by decide +kernel
theorem dX16_look_30 : decode cX16_look 30 = .ok (.iconst 1, 1) := by decide +kernel
theorem dX16_look_31 : decode cX16_look 31 = .ok (.iadd, 1) := by decide +kernel
theorem dX16_look_32 : decode cX16_look 32 = .ok (.putfield 334, 3) := by decide +kernel
theorem dX16_look_35 : decode cX16_look 35 = .ok (.goto (-35), 3) := by decide +kernel
theorem dX16_look_38 : decode cX16_look 38 = .ok (.aload_n 0, 1) := by decide +kernel
theorem dX16_look_39 : decode cX16_look 39 = .ok (.getfield 334, 3) := by decide +kernel
theorem dX16_look_42 : decode cX16_look 42 = .ok (.aload_n 0, 1) := by decide +kernel
theorem dX16_look_43 : decode cX16_look 43 = .ok (.getfield 336, 3) := by decide +kernel
theorem dX16_look_46 : decode cX16_look 46 = .ok (.if_icmp .ge 19, 3) := by decide +kernel
theorem dX16_look_49 : decode cX16_look 49 = .ok (.aload_n 0, 1) := by decide +kernel
theorem dX16_look_50 : decode cX16_look 50 = .ok (.getfield 339, 3) := by decide +kernel
theorem dX16_look_53 : decode cX16_look 53 = .ok (.aload_n 0, 1) := by decide +kernel
theorem dX16_look_54 : decode cX16_look 54 = .ok (.getfield 334, 3) := by decide +kernel
theorem dX16_look_57 : decode cX16_look 57 = .ok (.baload, 1) := by decide +kernel
theorem dX16_look_58 : decode cX16_look 58 = .ok (.sipush 255, 3) := by decide +kernel
theorem dX16_look_61 : decode cX16_look 61 = .ok (.iand, 1) := by decide +kernel
theorem dX16_look_62 : decode cX16_look 62 = .ok (.goto 4, 3) := by decide +kernel
theorem dX16_look_65 : decode cX16_look 65 = .ok (.iconst (-1), 1) := by decide +kernel
theorem dX16_look_66 : decode cX16_look 66 = .ok (.ireturn, 1) := by decide +kernel
theorem dX16_readE_0 : decode cX16_readE 0 = .ok (.aload_n 0, 1) := by decide +kernel
theorem dX16_readE_1 : decode cX16_readE 1 = .ok (.invokevirtual 343, 3) := by decide +kernel
theorem dX16_readE_4 : decode cX16_readE 4 = .ok (.bipush 45, 2) := by decide +kernel
theorem dX16_readE_6 : decode cX16_readE 6 = .ok (.if_icmp .ne 13, 3) := by decide +kernel
theorem dX16_readE_9 : decode cX16_readE 9 = .ok (.aload_n 0, 1) := by decide +kernel
theorem dX16_readE_10 : decode cX16_readE 10 = .ok (.dup, 1) := by decide +kernel
theorem dX16_readE_11 : decode cX16_readE 11 = .ok (.getfield 334, 3) := by decide +kernel
theorem dX16_readE_14 : decode cX16_readE 14 = .ok (.iconst 1, 1) := by decide +kernel
theorem dX16_readE_15 : decode cX16_readE 15 = .ok (.iadd, 1) := by decide +kernel
theorem dX16_readE_16 : decode cX16_readE 16 = .ok (.putfield 334, 3) := by decide +kernel
theorem dX16_readE_19 : decode cX16_readE 19 = .ok (.aload_n 0, 1) := by decide +kernel
theorem dX16_readE_20 : decode cX16_readE 20 = .ok (.invokevirtual 350, 3) := by decide +kernel
theorem dX16_readE_23 : decode cX16_readE 23 = .ok (.aload_n 0, 1) := by decide +kernel
theorem dX16_readE_24 : decode cX16_readE 24 = .ok (.invokevirtual 343, 3) := by decide +kernel
theorem dX16_readE_27 : decode cX16_readE 27 = .ok (.bipush 43, 2) := by decide +kernel
theorem dX16_readE_29 : decode cX16_readE 29 = .ok (.if_icmp .eq 12, 3) := by decide +kernel
theorem dX16_readE_32 : decode cX16_readE 32 = .ok (.aload_n 0, 1) := by decide +kernel
theorem dX16_readE_33 : decode cX16_readE 33 = .ok (.invokevirtual 343, 3) := by decide +kernel
theorem dX16_readE_36 : decode cX16_readE 36 = .ok (.bipush 45, 2) := by decide +kernel
theorem dX16_readE_38 : decode cX16_readE 38 = .ok (.if_icmp .ne 20, 3) := by decide +kernel
theorem dX16_readE_41 : decode cX16_readE 41 = .ok (.aload_n 0, 1) := by decide +kernel
theorem dX16_readE_42 : decode cX16_readE 42 = .ok (.dup, 1) := by decide +kernel
theorem dX16_readE_43 : decode cX16_readE 43 = .ok (.getfield 334, 3) := by decide +kernel
theorem dX16_readE_46 : decode cX16_readE 46 = .ok (.iconst 1, 1) := by decide +kernel
theorem dX16_readE_47 : decode cX16_readE 47 = .ok (.iadd, 1) := by decide +kernel
theorem dX16_readE_48 : decode cX16_readE 48 = .ok (.putfield 334, 3) := by decide +kernel
theorem dX16_readE_51 : decode cX16_readE 51 = .ok (.aload_n 0, 1) := by decide +kernel
theorem dX16_readE_52 : decode cX16_readE 52 = .ok (.invokevirtual 350, 3) := by decide +kernel
theorem dX16_readE_55 : decode cX16_readE 55 = .ok (.goto (-32), 3) := by decide +kernel
theorem dX16_readE_58 : decode cX16_readE 58 = .ok (.return_, 1) := by decide +kernel
theorem dX16_readU_0 : decode cX16_readU 0 = .ok (.aload_n 0, 1) := by decide +kernel
theorem dX16_readU_1 : decode cX16_readU 1 = .ok (.invokevirtual 353, 3) := by decide +kernel
theorem dX16_readU_4 : decode cX16_readU 4 = .ok (.aload_n 0, 1) := by decide +kernel
theorem dX16_readU_5 : decode cX16_readU 5 = .ok (.invokevirtual 343, 3) := by decide +kernel
theorem dX16_readU_8 : decode cX16_readU 8 = .ok (.bipush 42, 2) := by decide +kernel
theorem dX16_readU_10 : decode cX16_readU 10 = .ok (.if_icmp .eq 12, 3) := by decide +kernel
theorem dX16_readU_13 : decode cX16_readU 13 = .ok (.aload_n 0, 1) := by decide +kernel
theorem dX16_readU_14 : decode cX16_readU 14 = .ok (.invokevirtual 343, 3) := by decide +kernel
theorem dX16_readU_17 : decode cX16_readU 17 = .ok (.bipush 47, 2) := by decide +kernel
theorem dX16_readU_19 : decode cX16_readU 19 = .ok (.if_icmp .ne 20, 3) := by decide +kernel
theorem dX16_readU_22 : decode cX16_readU 22 = .ok (.aload_n 0, 1) := by decide +kernel
theorem dX16_readU_23 : decode cX16_readU 23 = .ok (.dup, 1) := by decide +kernel
theorem dX16_readU_24 : decode cX16_readU 24 = .ok (.getfield 334, 3) := by decide +kernel
theorem dX16_readU_27 : decode cX16_readU 27 = .ok (.iconst 1, 1) := by decide +kernel
theorem dX16_readU_28 : decode cX16_readU 28 = .ok (.iadd, 1) := by decide +kernel
theorem dX16_readU_29 : decode cX16_readU 29 = .ok (.putfield 334, 3) := by decide +kernel
theorem dX16_readU_32 : decode cX16_readU 32 = .ok (.aload_n 0, 1) := by decide +kernel
theorem dX16_readU_33 : decode cX16_readU 33 = .ok (.invokevirtual 353, 3) := by decide +kernel
theorem dX16_readU_36 : decode cX16_readU 36 = .ok (.goto (-32), 3) := by decide +kernel
theorem dX16_readU_39 : decode cX16_readU 39 = .ok (.return_, 1) := by decide +kernel
theorem dX16_readW_0 : decode cX16_readW 0 = .ok (.aload_n 0, 1) := by decide +kernel
theorem dX16_readW_1 : decode cX16_readW 1 = .ok (.invokevirtual 356, 3) := by decide +kernel
theorem dX16_readW_4 : decode cX16_readW 4 = .ok (.aload_n 0, 1) := by decide +kernel
theorem dX16_readW_5 : decode cX16_readW 5 = .ok (.invokevirtual 343, 3) := by decide +kernel
theorem dX16_readW_8 : decode cX16_readW 8 = .ok (.bipush 33, 2) := by decide +kernel
theorem dX16_readW_10 : decode cX16_readW 10 = .ok (.if_icmp .ne 13, 3) := by decide +kernel
theorem dX16_readW_13 : decode cX16_readW 13 = .ok (.aload_n 0, 1) := by decide +kernel
theorem dX16_readW_14 : decode cX16_readW 14 = .ok (.dup, 1) := by decide +kernel
theorem dX16_readW_15 : decode cX16_readW 15 = .ok (.getfield 334, 3) := by decide +kernel
theorem dX16_readW_18 : decode cX16_readW 18 = .ok (.iconst 1, 1) := by decide +kernel
theorem dX16_readW_19 : decode cX16_readW 19 = .ok (.iadd, 1) := by decide +kernel
theorem dX16_readW_20 : decode cX16_readW 20 = .ok (.putfield 334, 3) := by decide +kernel
theorem dX16_readW_23 : decode cX16_readW 23 = .ok (.aload_n 0, 1) := by decide +kernel
theorem dX16_readW_24 : decode cX16_readW 24 = .ok (.invokevirtual 343, 3) := by decide +kernel
theorem dX16_readW_27 : decode cX16_readW 27 = .ok (.bipush 94, 2) := by decide +kernel
theorem dX16_readW_29 : decode cX16_readW 29 = .ok (.if_icmp .ne 17, 3) := by decide +kernel
theorem dX16_readW_32 : decode cX16_readW 32 = .ok (.aload_n 0, 1) := by decide +kernel
theorem dX16_readW_33 : decode cX16_readW 33 = .ok (.dup, 1) := by decide +kernel
theorem dX16_readW_34 : decode cX16_readW 34 = .ok (.getfield 334, 3) := by decide +kernel
theorem dX16_readW_37 : decode cX16_readW 37 = .ok (.iconst 1, 1) := by decide +kernel
theorem dX16_readW_38 : decode cX16_readW 38 = .ok (.iadd, 1) := by decide +kernel
theorem dX16_readW_39 : decode cX16_readW 39 = .ok (.putfield 334, 3) := by decide +kernel
theorem dX16_readW_42 : decode cX16_readW 42 = .ok (.aload_n 0, 1) := by decide +kernel
theorem dX16_readW_43 : decode cX16_readW 43 = .ok (.invokevirtual 356, 3) := by decide +kernel
theorem dX16_readW_46 : decode cX16_readW 46 = .ok (.return_, 1) := by decide +kernel
theorem dX16_readB_0 : decode cX16_readB 0 = .ok (.aload_n 0, 1) := by decide +kernel
theorem dX16_readB_1 : decode cX16_readB 1 = .ok (.invokevirtual 343, 3) := by decide +kernel
theorem dX16_readB_4 : decode cX16_readB 4 = .ok (.istore_n 1, 1) := by decide +kernel
theorem dX16_readB_5 : decode cX16_readB 5 = .ok (.iload_n 1, 1) := by decide +kernel
theorem dX16_readB_6 : decode cX16_readB 6 = .ok (.bipush 48, 2) := by decide +kernel
theorem dX16_readB_8 : decode cX16_readB 8 = .ok (.if_icmp .lt 85, 3) := by decide +kernel
theorem dX16_readB_11 : decode cX16_readB 11 = .ok (.iload_n 1, 1) := by decide +kernel
theorem dX16_readB_12 : decode cX16_readB 12 = .ok (.bipush 57, 2) := by decide +kernel
theorem dX16_readB_14 : decode cX16_readB 14 = .ok (.if_icmp .gt 79, 3) := by decide +kernel
theorem dX16_readB_17 : decode cX16_readB 17 = .ok (.iconst 0, 1) := by decide +kernel
theorem dX16_readB_18 : decode cX16_readB 18 = .ok (.istore_n 2, 1) := by decide +kernel
theorem dX16_readB_19 : decode cX16_readB 19 = .ok (.aload_n 0, 1) := by decide +kernel
theorem dX16_readB_20 : decode cX16_readB 20 = .ok (.getfield 334, 3) := by decide +kernel
theorem dX16_readB_23 : decode cX16_readB 23 = .ok (.aload_n 0, 1) := by decide +kernel
theorem dX16_readB_24 : decode cX16_readB 24 = .ok (.getfield 336, 3) := by decide +kernel
theorem dX16_readB_27 : decode cX16_readB 27 = .ok (.if_icmp .ge 63, 3) := by decide +kernel
theorem dX16_readB_30 : decode cX16_readB 30 = .ok (.aload_n 0, 1) := by decide +kernel
theorem dX16_readB_31 : decode cX16_readB 31 = .ok (.getfield 339, 3) := by decide +kernel
theorem dX16_readB_34 : decode cX16_readB 34 = .ok (.aload_n 0, 1) := by decide +kernel
theorem dX16_readB_35 : decode cX16_readB 35 = .ok (.getfield 334, 3) := by decide +kernel
theorem dX16_readB_38 : decode cX16_readB 38 = .ok (.baload, 1) := by decide +kernel
theorem dX16_readB_39 : decode cX16_readB 39 = .ok (.bipush 48, 2) := by decide +kernel
theorem dX16_readB_41 : decode cX16_readB 41 = .ok (.if_icmp .lt 49, 3) := by decide +kernel
theorem dX16_readB_44 : decode cX16_readB 44 = .ok (.aload_n 0, 1) := by decide +kernel
theorem dX16_readB_45 : decode cX16_readB 45 = .ok (.getfield 339, 3) := by decide +kernel
theorem dX16_readB_48 : decode cX16_readB 48 = .ok (.aload_n 0, 1) := by decide +kernel
theorem dX16_readB_49 : decode cX16_readB 49 = .ok (.getfield 334, 3) := by decide +kernel
theorem dX16_readB_52 : decode cX16_readB 52 = .ok (.baload, 1) := by decide +kernel
theorem dX16_readB_53 : decode cX16_readB 53 = .ok (.bipush 57, 2) := by decide +kernel
theorem dX16_readB_55 : decode cX16_readB 55 = .ok (.if_icmp .gt 35, 3) := by decide +kernel
theorem dX16_readB_58 : decode cX16_readB 58 = .ok (.iload_n 2, 1) := by decide +kernel
theorem dX16_readB_59 : decode cX16_readB 59 = .ok (.bipush 10, 2) := by decide +kernel
theorem dX16_readB_61 : decode cX16_readB 61 = .ok (.if_icmp .ne 13, 3) := by decide +kernel
theorem dX16_readB_64 : decode cX16_readB 64 = .ok (.aload_n 0, 1) := by decide +kernel
theorem dX16_readB_65 : decode cX16_readB 65 = .ok (.iconst 1, 1) := by decide +kernel
theorem dX16_readB_66 : decode cX16_readB 66 = .ok (.aload_n 0, 1) := by decide +kernel
theorem dX16_readB_67 : decode cX16_readB 67 = .ok (.getfield 334, 3) := by decide +kernel
theorem dX16_readB_70 : decode cX16_readB 70 = .ok (.invokevirtual 346, 3) := by decide +kernel
theorem dX16_readB_73 : decode cX16_readB 73 = .ok (.athrow, 1) := by decide +kernel
theorem dX16_readB_74 : decode cX16_readB 74 = .ok (.iinc 2 1, 3) := by decide +kernel
theorem dX16_readB_77 : decode cX16_readB 77 = .ok (.aload_n 0, 1) := by decide +kernel
theorem dX16_readB_78 : decode cX16_readB 78 = .ok (.dup, 1) := by decide +kernel
theorem dX16_readB_79 : decode cX16_readB 79 = .ok (.getfield 334, 3) := by decide +kernel
theorem dX16_readB_82 : decode cX16_readB 82 = .ok (.iconst 1, 1) := by decide +kernel
theorem dX16_readB_83 : decode cX16_readB 83 = .ok (.iadd, 1) := by decide +kernel
theorem dX16_readB_84 : decode cX16_readB 84 = .ok (.putfield 334, 3) := by decide +kernel
theorem dX16_readB_87 : decode cX16_readB 87 = .ok (.goto (-68), 3) := by decide +kernel
theorem dX16_readB_90 : decode cX16_readB 90 = .ok (.goto 124, 3) := by decide +kernel
theorem dX16_readB_93 : decode cX16_readB 93 = .ok (.iload_n 1, 1) := by decide +kernel
theorem dX16_readB_94 : decode cX16_readB 94 = .ok (.bipush 110, 2) := by decide +kernel
theorem dX16_readB_96 : decode cX16_readB 96 = .ok (.if_icmp .eq 9, 3) := by decide +kernel
theorem dX16_readB_99 : decode cX16_readB 99 = .ok (.iload_n 1, 1) := by decide +kernel
theorem dX16_readB_100 : decode cX16_readB 100 = .ok (.bipush 107, 2) := by decide +kernel
theorem dX16_readB_102 : decode cX16_readB 102 = .ok (.if_icmp .ne 16, 3) := by decide +kernel
theorem dX16_readB_105 : decode cX16_readB 105 = .ok (.aload_n 0, 1) := by decide +kernel
theorem dX16_readB_106 : decode cX16_readB 106 = .ok (.dup, 1) := by decide +kernel
theorem dX16_readB_107 : decode cX16_readB 107 = .ok (.getfield 334, 3) := by decide +kernel
theorem dX16_readB_110 : decode cX16_readB 110 = .ok (.iconst 1, 1) := by decide +kernel
theorem dX16_readB_111 : decode cX16_readB 111 = .ok (.iadd, 1) := by decide +kernel
theorem dX16_readB_112 : decode cX16_readB 112 = .ok (.putfield 334, 3) := by decide +kernel
theorem dX16_readB_115 : decode cX16_readB 115 = .ok (.goto 99, 3) := by decide +kernel
theorem dX16_readB_118 : decode cX16_readB 118 = .ok (.iload_n 1, 1) := by decide +kernel
theorem dX16_readB_119 : decode cX16_readB 119 = .ok (.bipush 40, 2) := by decide +kernel
theorem dX16_readB_121 : decode cX16_readB 121 = .ok (.if_icmp .ne 30, 3) := by decide +kernel
theorem dX16_readB_124 : decode cX16_readB 124 = .ok (.aload_n 0, 1) := by decide +kernel
theorem dX16_readB_125 : decode cX16_readB 125 = .ok (.invokevirtual 362, 3) := by decide +kernel
theorem dX16_readB_128 : decode cX16_readB 128 = .ok (.aload_n 0, 1) := by decide +kernel
theorem dX16_readB_129 : decode cX16_readB 129 = .ok (.invokevirtual 365, 3) := by decide +kernel
theorem dX16_readB_132 : decode cX16_readB 132 = .ok (.aload_n 0, 1) := by decide +kernel
theorem dX16_readB_133 : decode cX16_readB 133 = .ok (.bipush 41, 2) := by decide +kernel
theorem dX16_readB_135 : decode cX16_readB 135 = .ok (.invokevirtual 368, 3) := by decide +kernel
theorem dX16_readB_138 : decode cX16_readB 138 = .ok (.aload_n 0, 1) := by decide +kernel
theorem dX16_readB_139 : decode cX16_readB 139 = .ok (.dup, 1) := by decide +kernel
theorem dX16_readB_140 : decode cX16_readB 140 = .ok (.getfield 359, 3) := by decide +kernel
theorem dX16_readB_143 : decode cX16_readB 143 = .ok (.iconst 1, 1) := by decide +kernel
theorem dX16_readB_144 : decode cX16_readB 144 = .ok (.isub, 1) := by decide +kernel
theorem dX16_readB_145 : decode cX16_readB 145 = .ok (.putfield 359, 3) := by decide +kernel
theorem dX16_readB_148 : decode cX16_readB 148 = .ok (.goto 66, 3) := by decide +kernel
theorem dX16_readB_151 : decode cX16_readB 151 = .ok (.iload_n 1, 1) := by decide +kernel
theorem dX16_readB_152 : decode cX16_readB 152 = .ok (.bipush 67, 2) := by decide +kernel
theorem dX16_readB_154 : decode cX16_readB 154 = .ok (.if_icmp .ne 50, 3) := by decide +kernel
theorem dX16_readB_157 : decode cX16_readB 157 = .ok (.aload_n 0, 1) := by decide +kernel
theorem dX16_readB_158 : decode cX16_readB 158 = .ok (.dup, 1) := by decide +kernel
theorem dX16_readB_159 : decode cX16_readB 159 = .ok (.getfield 334, 3) := by decide +kernel
theorem dX16_readB_162 : decode cX16_readB 162 = .ok (.iconst 1, 1) := by decide +kernel
theorem dX16_readB_163 : decode cX16_readB 163 = .ok (.iadd, 1) := by decide +kernel
theorem dX16_readB_164 : decode cX16_readB 164 = .ok (.putfield 334, 3) := by decide +kernel
theorem dX16_readB_167 : decode cX16_readB 167 = .ok (.aload_n 0, 1) := by decide +kernel
theorem dX16_readB_168 : decode cX16_readB 168 = .ok (.invokevirtual 362, 3) := by decide +kernel
theorem dX16_readB_171 : decode cX16_readB 171 = .ok (.aload_n 0, 1) := by decide +kernel
theorem dX16_readB_172 : decode cX16_readB 172 = .ok (.invokevirtual 365, 3) := by decide +kernel
theorem dX16_readB_175 : decode cX16_readB 175 = .ok (.aload_n 0, 1) := by decide +kernel
theorem dX16_readB_176 : decode cX16_readB 176 = .ok (.bipush 44, 2) := by decide +kernel
theorem dX16_readB_178 : decode cX16_readB 178 = .ok (.invokevirtual 368, 3) := by decide +kernel
theorem dX16_readB_181 : decode cX16_readB 181 = .ok (.aload_n 0, 1) := by decide +kernel
theorem dX16_readB_182 : decode cX16_readB 182 = .ok (.invokevirtual 365, 3) := by decide +kernel
theorem dX16_readB_185 : decode cX16_readB 185 = .ok (.aload_n 0, 1) := by decide +kernel
theorem dX16_readB_186 : decode cX16_readB 186 = .ok (.bipush 41, 2) := by decide +kernel
theorem dX16_readB_188 : decode cX16_readB 188 = .ok (.invokevirtual 368, 3) := by decide +kernel
theorem dX16_readB_191 : decode cX16_readB 191 = .ok (.aload_n 0, 1) := by decide +kernel
theorem dX16_readB_192 : decode cX16_readB 192 = .ok (.dup, 1) := by decide +kernel
theorem dX16_readB_193 : decode cX16_readB 193 = .ok (.getfield 359, 3) := by decide +kernel
theorem dX16_readB_196 : decode cX16_readB 196 = .ok (.iconst 1, 1) := by decide +kernel
theorem dX16_readB_197 : decode cX16_readB 197 = .ok (.isub, 1) := by decide +kernel
theorem dX16_readB_198 : decode cX16_readB 198 = .ok (.putfield 359, 3) := by decide +kernel
theorem dX16_readB_201 : decode cX16_readB 201 = .ok (.goto 13, 3) := by decide +kernel
theorem dX16_readB_204 : decode cX16_readB 204 = .ok (.aload_n 0, 1) := by decide +kernel
theorem dX16_readB_205 : decode cX16_readB 205 = .ok (.iconst 1, 1) := by decide +kernel
theorem dX16_readB_206 : decode cX16_readB 206 = .ok (.aload_n 0, 1) := by decide +kernel
theorem dX16_readB_207 : decode cX16_readB 207 = .ok (.getfield 334, 3) := by decide +kernel
theorem dX16_readB_210 : decode cX16_readB 210 = .ok (.invokevirtual 346, 3) := by decide +kernel
theorem dX16_readB_213 : decode cX16_readB 213 = .ok (.athrow, 1) := by decide +kernel
theorem dX16_readB_214 : decode cX16_readB 214 = .ok (.return_, 1) := by decide +kernel
theorem dX16_fail_0 : decode cX16_fail 0 = .ok (.aload_n 0, 1) := by decide +kernel
theorem dX16_fail_1 : decode cX16_fail 1 = .ok (.iload_n 1, 1) := by decide +kernel
theorem dX16_fail_2 : decode cX16_fail 2 = .ok (.putfield 324, 3) := by decide +kernel
theorem dX16_fail_5 : decode cX16_fail 5 = .ok (.aload_n 0, 1) := by decide +kernel
theorem dX16_fail_6 : decode cX16_fail 6 = .ok (.iload_n 2, 1) := by decide +kernel
theorem dX16_fail_7 : decode cX16_fail 7 = .ok (.putfield 327, 3) := by decide +kernel
theorem dX16_fail_10 : decode cX16_fail 10 = .ok (.aload_n 0, 1) := by decide +kernel
theorem dX16_fail_11 : decode cX16_fail 11 = .ok (.getfield 330, 3) := by decide +kernel
theorem dX16_fail_14 : decode cX16_fail 14 = .ok (.areturn, 1) := by decide +kernel
theorem dX16_keep_0 : decode cX16_keep 0 = .ok (.aload_n 0, 1) := by decide +kernel
theorem dX16_keep_1 : decode cX16_keep 1 = .ok (.getfield 450, 3) := by decide +kernel
theorem dX16_keep_4 : decode cX16_keep 4 = .ok (.iload_n 1, 1) := by decide +kernel
theorem dX16_keep_5 : decode cX16_keep 5 = .ok (.aaload, 1) := by decide +kernel
theorem dX16_keep_6 : decode cX16_keep 6 = .ok (.aload_n 0, 1) := by decide +kernel
theorem dX16_keep_7 : decode cX16_keep 7 = .ok (.getfield 453, 3) := by decide +kernel
theorem dX16_keep_10 : decode cX16_keep 10 = .ok (.invokestatic 547, 3) := by decide +kernel
theorem dX16_keep_13 : decode cX16_keep 13 = .ok (.aload_n 0, 1) := by decide +kernel
theorem dX16_keep_14 : decode cX16_keep 14 = .ok (.getfield 453, 3) := by decide +kernel
theorem dX16_keep_17 : decode cX16_keep 17 = .ok (.getfield 202, 3) := by decide +kernel
theorem dX16_keep_20 : decode cX16_keep 20 = .ok (.ireturn, 1) := by decide +kernel
theorem dX16_copy_0 : decode cX16_copy 0 = .ok (.aload_n 0, 1) := by decide +kernel
theorem dX16_copy_1 : decode cX16_copy 1 = .ok (.aload_n 1, 1) := by decide +kernel
theorem dX16_copy_2 : decode cX16_copy 2 = .ok (.getfield 202, 3) := by decide +kernel
theorem dX16_copy_5 : decode cX16_copy 5 = .ok (.putfield 202, 3) := by decide +kernel
theorem dX16_copy_8 : decode cX16_copy 8 = .ok (.aload_n 1, 1) := by decide +kernel
theorem dX16_copy_9 : decode cX16_copy 9 = .ok (.getfield 207, 3) := by decide +kernel
theorem dX16_copy_12 : decode cX16_copy 12 = .ok (.iconst 0, 1) := by decide +kernel
theorem dX16_copy_13 : decode cX16_copy 13 = .ok (.aload_n 0, 1) := by decide +kernel
theorem dX16_copy_14 : decode cX16_copy 14 = .ok (.getfield 207, 3) := by decide +kernel
theorem dX16_copy_17 : decode cX16_copy 17 = .ok (.iconst 0, 1) := by decide +kernel
theorem dX16_copy_18 : decode cX16_copy 18 = .ok (.sipush 325, 3) := by decide +kernel
theorem dX16_copy_21 : decode cX16_copy 21 = .ok (.invokestatic 34, 3) := by decide +kernel
theorem dX16_copy_24 : decode cX16_copy 24 = .ok (.aload_n 1, 1) := by decide +kernel
theorem dX16_copy_25 : decode cX16_copy 25 = .ok (.getfield 210, 3) := by decide +kernel
theorem dX16_copy_28 : decode cX16_copy 28 = .ok (.iconst 0, 1) := by decide +kernel
theorem dX16_copy_29 : decode cX16_copy 29 = .ok (.aload_n 0, 1) := by decide +kernel
theorem dX16_copy_30 : decode cX16_copy 30 = .ok (.getfield 210, 3) := by decide +kernel
theorem dX16_copy_33 : decode cX16_copy 33 = .ok (.iconst 0, 1) := by decide +kernel
theorem dX16_copy_34 : decode cX16_copy 34 = .ok (.sipush 325, 3) := by decide +kernel
theorem dX16_copy_37 : decode cX16_copy 37 = .ok (.invokestatic 34, 3) := by decide +kernel
theorem dX16_copy_40 : decode cX16_copy 40 = .ok (.aload_n 0, 1) := by decide +kernel
theorem dX16_copy_41 : decode cX16_copy 41 = .ok (.aload_n 1, 1) := by decide +kernel
theorem dX16_copy_42 : decode cX16_copy 42 = .ok (.getfield 213, 3) := by decide +kernel
theorem dX16_copy_45 : decode cX16_copy 45 = .ok (.putfield 213, 3) := by decide +kernel
theorem dX16_copy_48 : decode cX16_copy 48 = .ok (.aload_n 0, 1) := by decide +kernel
theorem dX16_copy_49 : decode cX16_copy 49 = .ok (.aload_n 1, 1) := by decide +kernel
theorem dX16_copy_50 : decode cX16_copy 50 = .ok (.getfield 216, 3) := by decide +kernel
theorem dX16_copy_53 : decode cX16_copy 53 = .ok (.putfield 216, 3) := by decide +kernel
theorem dX16_copy_56 : decode cX16_copy 56 = .ok (.aload_n 0, 1) := by decide +kernel
theorem dX16_copy_57 : decode cX16_copy 57 = .ok (.aload_n 1, 1) := by decide +kernel
theorem dX16_copy_58 : decode cX16_copy 58 = .ok (.getfield 219, 3) := by decide +kernel
theorem dX16_copy_61 : decode cX16_copy 61 = .ok (.putfield 219, 3) := by decide +kernel
theorem dX16_copy_64 : decode cX16_copy 64 = .ok (.iconst 0, 1) := by decide +kernel
theorem dX16_copy_65 : decode cX16_copy 65 = .ok (.istore_n 2, 1) := by decide +kernel
theorem dX16_copy_66 : decode cX16_copy 66 = .ok (.iload_n 2, 1) := by decide +kernel
theorem dX16_copy_67 : decode cX16_copy 67 = .ok (.aload_n 1, 1) := by decide +kernel
theorem dX16_copy_68 : decode cX16_copy 68 = .ok (.getfield 219, 3) := by decide +kernel
theorem dX16_copy_71 : decode cX16_copy 71 = .ok (.if_icmp .ge 57, 3) := by decide +kernel
theorem dX16_copy_74 : decode cX16_copy 74 = .ok (.aload_n 0, 1) := by decide +kernel
theorem dX16_copy_75 : decode cX16_copy 75 = .ok (.getfield 222, 3) := by decide +kernel
theorem dX16_copy_78 : decode cX16_copy 78 = .ok (.iload_n 2, 1) := by decide +kernel
theorem dX16_copy_79 : decode cX16_copy 79 = .ok (.aload_n 1, 1) := by decide +kernel
theorem dX16_copy_80 : decode cX16_copy 80 = .ok (.getfield 222, 3) := by decide +kernel
theorem dX16_copy_83 : decode cX16_copy 83 = .ok (.iload_n 2, 1) := by decide +kernel
theorem dX16_copy_84 : decode cX16_copy 84 = .ok (.iaload, 1) := by decide +kernel
theorem dX16_copy_85 : decode cX16_copy 85 = .ok (.iastore, 1) := by decide +kernel
theorem dX16_copy_86 : decode cX16_copy 86 = .ok (.aload_n 0, 1) := by decide +kernel
theorem dX16_copy_87 : decode cX16_copy 87 = .ok (.getfield 225, 3) := by decide +kernel
theorem dX16_copy_90 : decode cX16_copy 90 = .ok (.iload_n 2, 1) := by decide +kernel
theorem dX16_copy_91 : decode cX16_copy 91 = .ok (.aload_n 1, 1) := by decide +kernel
theorem dX16_copy_92 : decode cX16_copy 92 = .ok (.getfield 225, 3) := by decide +kernel
theorem dX16_copy_95 : decode cX16_copy 95 = .ok (.iload_n 2, 1) := by decide +kernel
theorem dX16_copy_96 : decode cX16_copy 96 = .ok (.iaload, 1) := by decide +kernel
theorem dX16_copy_97 : decode cX16_copy 97 = .ok (.iastore, 1) := by decide +kernel
theorem dX16_copy_98 : decode cX16_copy 98 = .ok (.aload_n 0, 1) := by decide +kernel
theorem dX16_copy_99 : decode cX16_copy 99 = .ok (.getfield 228, 3) := by decide +kernel
theorem dX16_copy_102 : decode cX16_copy 102 = .ok (.iload_n 2, 1) := by decide +kernel
theorem dX16_copy_103 : decode cX16_copy 103 = .ok (.aload_n 1, 1) := by decide +kernel
theorem dX16_copy_104 : decode cX16_copy 104 = .ok (.getfield 228, 3) := by decide +kernel
theorem dX16_copy_107 : decode cX16_copy 107 = .ok (.iload_n 2, 1) := by decide +kernel
theorem dX16_copy_108 : decode cX16_copy 108 = .ok (.iaload, 1) := by decide +kernel
theorem dX16_copy_109 : decode cX16_copy 109 = .ok (.iastore, 1) := by decide +kernel
theorem dX16_copy_110 : decode cX16_copy 110 = .ok (.aload_n 0, 1) := by decide +kernel
theorem dX16_copy_111 : decode cX16_copy 111 = .ok (.getfield 231, 3) := by decide +kernel
theorem dX16_copy_114 : decode cX16_copy 114 = .ok (.iload_n 2, 1) := by decide +kernel
theorem dX16_copy_115 : decode cX16_copy 115 = .ok (.aload_n 1, 1) := by decide +kernel
theorem dX16_copy_116 : decode cX16_copy 116 = .ok (.getfield 231, 3) := by decide +kernel
theorem dX16_copy_119 : decode cX16_copy 119 = .ok (.iload_n 2, 1) := by decide +kernel
theorem dX16_copy_120 : decode cX16_copy 120 = .ok (.iaload, 1) := by decide +kernel
theorem dX16_copy_121 : decode cX16_copy 121 = .ok (.iastore, 1) := by decide +kernel
theorem dX16_copy_122 : decode cX16_copy 122 = .ok (.iinc 2 1, 3) := by decide +kernel
theorem dX16_copy_125 : decode cX16_copy 125 = .ok (.goto (-59), 3) := by decide +kernel
theorem dX16_copy_128 : decode cX16_copy 128 = .ok (.aload_n 0, 1) := by decide +kernel
theorem dX16_copy_129 : decode cX16_copy 129 = .ok (.aload_n 1, 1) := by decide +kernel
theorem dX16_copy_130 : decode cX16_copy 130 = .ok (.getfield 234, 3) := by decide +kernel
theorem dX16_copy_133 : decode cX16_copy 133 = .ok (.putfield 234, 3) := by decide +kernel
theorem dX16_copy_136 : decode cX16_copy 136 = .ok (.aload_n 1, 1) := by decide +kernel
theorem dX16_copy_137 : decode cX16_copy 137 = .ok (.getfield 237, 3) := by decide +kernel
theorem dX16_copy_140 : decode cX16_copy 140 = .ok (.iconst 0, 1) := by decide +kernel
theorem dX16_copy_141 : decode cX16_copy 141 = .ok (.aload_n 0, 1) := by decide +kernel
theorem dX16_copy_142 : decode cX16_copy 142 = .ok (.getfield 237, 3) := by decide +kernel
theorem dX16_copy_145 : decode cX16_copy 145 = .ok (.iconst 0, 1) := by decide +kernel
theorem dX16_copy_146 : decode cX16_copy 146 = .ok (.sipush 175, 3) := by decide +kernel
theorem dX16_copy_149 : decode cX16_copy 149 = .ok (.invokestatic 34, 3) := by decide +kernel
theorem dX16_copy_152 : decode cX16_copy 152 = .ok (.aload_n 0, 1) := by decide +kernel
theorem dX16_copy_153 : decode cX16_copy 153 = .ok (.aload_n 1, 1) := by decide +kernel
theorem dX16_copy_154 : decode cX16_copy 154 = .ok (.getfield 240, 3) := by decide +kernel
theorem dX16_copy_157 : decode cX16_copy 157 = .ok (.putfield 240, 3) := by decide +kernel
theorem dX16_copy_160 : decode cX16_copy 160 = .ok (.aload_n 0, 1) := by decide +kernel
theorem dX16_copy_161 : decode cX16_copy 161 = .ok (.aload_n 1, 1) := by decide +kernel
theorem dX16_copy_162 : decode cX16_copy 162 = .ok (.getfield 243, 3) := by decide +kernel
theorem dX16_copy_165 : decode cX16_copy 165 = .ok (.putfield 243, 3) := by decide +kernel
theorem dX16_copy_168 : decode cX16_copy 168 = .ok (.aload_n 1, 1) := by decide +kernel
theorem dX16_copy_169 : decode cX16_copy 169 = .ok (.getfield 246, 3) := by decide +kernel
theorem dX16_copy_172 : decode cX16_copy 172 = .ok (.iconst 0, 1) := by decide +kernel
theorem dX16_copy_173 : decode cX16_copy 173 = .ok (.aload_n 0, 1) := by decide +kernel
theorem dX16_copy_174 : decode cX16_copy 174 = .ok (.getfield 246, 3) := by decide +kernel
theorem dX16_copy_177 : decode cX16_copy 177 = .ok (.iconst 0, 1) := by decide +kernel
theorem dX16_copy_178 : decode cX16_copy 178 = .ok (.sipush 361, 3) := by decide +kernel
theorem dX16_copy_181 : decode cX16_copy 181 = .ok (.invokestatic 34, 3) := by decide +kernel
theorem dX16_copy_184 : decode cX16_copy 184 = .ok (.return_, 1) := by decide +kernel
theorem dX16_newB_0 : decode cX16_newB 0 = .ok (.aload_n 0, 1) := by decide +kernel
theorem dX16_newB_1 : decode cX16_newB 1 = .ok (.getfield 86, 3) := by decide +kernel
theorem dX16_newB_4 : decode cX16_newB 4 = .ok (.aload_n 0, 1) := by decide +kernel
theorem dX16_newB_5 : decode cX16_newB 5 = .ok (.dup, 1) := by decide +kernel
theorem dX16_newB_6 : decode cX16_newB 6 = .ok (.getfield 90, 3) := by decide +kernel
theorem dX16_newB_9 : decode cX16_newB 9 = .ok (.dup_x1, 1) := by decide +kernel
theorem dX16_newB_10 : decode cX16_newB 10 = .ok (.iconst 1, 1) := by decide +kernel
theorem dX16_newB_11 : decode cX16_newB 11 = .ok (.iadd, 1) := by decide +kernel
theorem dX16_newB_12 : decode cX16_newB 12 = .ok (.putfield 90, 3) := by decide +kernel
theorem dX16_newB_15 : decode cX16_newB 15 = .ok (.aaload, 1) := by decide +kernel
theorem dX16_newB_16 : decode cX16_newB 16 = .ok (.astore_n 1, 1) := by decide +kernel
theorem dX16_newB_17 : decode cX16_newB 17 = .ok (.aload_n 1, 1) := by decide +kernel
theorem dX16_newB_18 : decode cX16_newB 18 = .ok (.iconst 0, 1) := by decide +kernel
theorem dX16_newB_19 : decode cX16_newB 19 = .ok (.putfield 93, 3) := by decide +kernel
theorem dX16_newB_22 : decode cX16_newB 22 = .ok (.aload_n 1, 1) := by decide +kernel
theorem dX16_newB_23 : decode cX16_newB 23 = .ok (.areturn, 1) := by decide +kernel
theorem dX16_plain_0 : decode cX16_plain 0 = .ok (.aload_n 0, 1) := by decide +kernel
theorem dX16_plain_1 : decode cX16_plain 1 = .ok (.iconst 1, 1) := by decide +kernel
theorem dX16_plain_2 : decode cX16_plain 2 = .ok (.putfield 202, 3) := by decide +kernel
theorem dX16_plain_5 : decode cX16_plain 5 = .ok (.aload_n 0, 1) := by decide +kernel
theorem dX16_plain_6 : decode cX16_plain 6 = .ok (.iconst 1, 1) := by decide +kernel
theorem dX16_plain_7 : decode cX16_plain 7 = .ok (.putfield 213, 3) := by decide +kernel
theorem dX16_plain_10 : decode cX16_plain 10 = .ok (.aload_n 0, 1) := by decide +kernel
theorem dX16_plain_11 : decode cX16_plain 11 = .ok (.iconst 1, 1) := by decide +kernel
theorem dX16_plain_12 : decode cX16_plain 12 = .ok (.putfield 216, 3) := by decide +kernel
theorem dX16_plain_15 : decode cX16_plain 15 = .ok (.aload_n 0, 1) := by decide +kernel
theorem dX16_plain_16 : decode cX16_plain 16 = .ok (.iconst 0, 1) := by decide +kernel
theorem dX16_plain_17 : decode cX16_plain 17 = .ok (.putfield 219, 3) := by decide +kernel
theorem dX16_plain_20 : decode cX16_plain 20 = .ok (.return_, 1) := by decide +kernel
theorem dX16_put_0 : decode cX16_put 0 = .ok (.aload_n 1, 1) := by decide +kernel
theorem dX16_put_1 : decode cX16_put 1 = .ok (.invokestatic 249, 3) := by decide +kernel
theorem dX16_put_4 : decode cX16_put 4 = .ok (.ifCond .eq 10, 3) := by decide +kernel
theorem dX16_put_7 : decode cX16_put 7 = .ok (.aload_n 2, 1) := by decide +kernel
theorem dX16_put_8 : decode cX16_put 8 = .ok (.invokestatic 249, 3) := by decide +kernel
theorem dX16_put_11 : decode cX16_put 11 = .ok (.ifCond .ne 5, 3) := by decide +kernel
theorem dX16_put_14 : decode cX16_put 14 = .ok (.iconst 0, 1) := by decide +kernel
theorem dX16_put_15 : decode cX16_put 15 = .ok (.ireturn, 1) := by decide +kernel
theorem dX16_put_16 : decode cX16_put 16 = .ok (.aload_n 0, 1) := by decide +kernel
theorem dX16_put_17 : decode cX16_put 17 = .ok (.getfield 207, 3) := by decide +kernel
theorem dX16_put_20 : decode cX16_put 20 = .ok (.aload_n 1, 1) := by decide +kernel
theorem dX16_put_21 : decode cX16_put 21 = .ok (.invokestatic 253, 3) := by decide +kernel
theorem dX16_put_24 : decode cX16_put 24 = .ok (.aload_n 0, 1) := by decide +kernel
theorem dX16_put_25 : decode cX16_put 25 = .ok (.getfield 210, 3) := by decide +kernel
theorem dX16_put_28 : decode cX16_put 28 = .ok (.aload_n 2, 1) := by decide +kernel
theorem dX16_put_29 : decode cX16_put 29 = .ok (.invokestatic 253, 3) := by decide +kernel
theorem dX16_put_32 : decode cX16_put 32 = .ok (.iconst 1, 1) := by decide +kernel
theorem dX16_put_33 : decode cX16_put 33 = .ok (.ireturn, 1) := by decide +kernel
theorem dX16_fits_0 : decode cX16_fits 0 = .ok (.aload_n 0, 1) := by decide +kernel
theorem dX16_fits_1 : decode cX16_fits 1 = .ok (.getfield 93, 3) := by decide +kernel
theorem dX16_fits_4 : decode cX16_fits 4 = .ok (.bipush 13, 2) := by decide +kernel
theorem dX16_fits_6 : decode cX16_fits 6 = .ok (.if_icmp .gt 7, 3) := by decide +kernel
theorem dX16_fits_9 : decode cX16_fits 9 = .ok (.iconst 1, 1) := by decide +kernel
theorem dX16_fits_10 : decode cX16_fits 10 = .ok (.goto 4, 3) := by decide +kernel
theorem dX16_fits_13 : decode cX16_fits 13 = .ok (.iconst 0, 1) := by decide +kernel
theorem dX16_fits_14 : decode cX16_fits 14 = .ok (.istore_n 1, 1) := by decide +kernel
theorem dX16_fits_15 : decode cX16_fits 15 = .ok (.iconst 0, 1) := by decide +kernel
theorem dX16_fits_16 : decode cX16_fits 16 = .ok (.istore_n 2, 1) := by decide +kernel
theorem dX16_fits_17 : decode cX16_fits 17 = .ok (.iload_n 2, 1) := by decide +kernel
theorem dX16_fits_18 : decode cX16_fits 18 = .ok (.aload_n 0, 1) := by decide +kernel
theorem dX16_fits_19 : decode cX16_fits 19 = .ok (.getfield 93, 3) := by decide +kernel
theorem dX16_fits_22 : decode cX16_fits 22 = .ok (.if_icmp .ge 33, 3) := by decide +kernel
theorem dX16_fits_25 : decode cX16_fits 25 = .ok (.iload_n 1, 1) := by decide +kernel
theorem dX16_fits_26 : decode cX16_fits 26 = .ok (.ifCond .eq 29, 3) := by decide +kernel
theorem dX16_fits_29 : decode cX16_fits 29 = .ok (.aload_n 0, 1) := by decide +kernel
theorem dX16_fits_30 : decode cX16_fits 30 = .ok (.getfield 98, 3) := by decide +kernel
theorem dX16_fits_33 : decode cX16_fits 33 = .ok (.iload_n 2, 1) := by decide +kernel
theorem dX16_fits_34 : decode cX16_fits 34 = .ok (.aaload, 1) := by decide +kernel
theorem dX16_fits_35 : decode cX16_fits 35 = .ok (.getfield 25, 3) := by decide +kernel
theorem dX16_fits_38 : decode cX16_fits 38 = .ok (.bipush 25, 2) := by decide +kernel
theorem dX16_fits_40 : decode cX16_fits 40 = .ok (.if_icmp .gt 7, 3) := by decide +kernel
theorem dX16_fits_43 : decode cX16_fits 43 = .ok (.iconst 1, 1) := by decide +kernel
theorem dX16_fits_44 : decode cX16_fits 44 = .ok (.goto 4, 3) := by decide +kernel
theorem dX16_fits_47 : decode cX16_fits 47 = .ok (.iconst 0, 1) := by decide +kernel
theorem dX16_fits_48 : decode cX16_fits 48 = .ok (.istore_n 1, 1) := by decide +kernel
theorem dX16_fits_49 : decode cX16_fits 49 = .ok (.iinc 2 1, 3) := by decide +kernel
theorem dX16_fits_52 : decode cX16_fits 52 = .ok (.goto (-35), 3) := by decide +kernel
theorem dX16_fits_55 : decode cX16_fits 55 = .ok (.iload_n 1, 1) := by decide +kernel
theorem dX16_fits_56 : decode cX16_fits 56 = .ok (.ireturn, 1) := by decide +kernel
theorem dX16_store_0 : decode cX16_store 0 = .ok (.iconst 0, 1) := by decide +kernel
theorem dX16_store_1 : decode cX16_store 1 = .ok (.istore_n 2, 1) := by decide +kernel
theorem dX16_store_2 : decode cX16_store 2 = .ok (.iload_n 2, 1) := by decide +kernel
theorem dX16_store_3 : decode cX16_store 3 = .ok (.bipush 13, 2) := by decide +kernel
theorem dX16_store_5 : decode cX16_store 5 = .ok (.if_icmp .ge 53, 3) := by decide +kernel
theorem dX16_store_8 : decode cX16_store 8 = .ok (.iconst 0, 1) := by decide +kernel
theorem dX16_store_9 : decode cX16_store 9 = .ok (.istore_n 3, 1) := by decide +kernel
theorem dX16_store_10 : decode cX16_store 10 = .ok (.iload_n 3, 1) := by decide +kernel
theorem dX16_store_11 : decode cX16_store 11 = .ok (.bipush 25, 2) := by decide +kernel
theorem dX16_store_13 : decode cX16_store 13 = .ok (.if_icmp .ge 39, 3) := by decide +kernel
theorem dX16_store_16 : decode cX16_store 16 = .ok (.aload_n 0, 1) := by decide +kernel
theorem dX16_store_17 : decode cX16_store 17 = .ok (.bipush 25, 2) := by decide +kernel
theorem dX16_store_19 : decode cX16_store 19 = .ok (.iload_n 2, 1) := by decide +kernel
theorem dX16_store_20 : decode cX16_store 20 = .ok (.imul, 1) := by decide +kernel
theorem dX16_store_21 : decode cX16_store 21 = .ok (.iload_n 3, 1) := by decide +kernel
theorem dX16_store_22 : decode cX16_store 22 = .ok (.iadd, 1) := by decide +kernel
theorem dX16_store_23 : decode cX16_store 23 = .ok (.iload_n 2, 1) := by decide +kernel
theorem dX16_store_24 : decode cX16_store 24 = .ok (.aload_n 1, 1) := by decide +kernel
theorem dX16_store_25 : decode cX16_store 25 = .ok (.getfield 93, 3) := by decide +kernel
theorem dX16_store_28 : decode cX16_store 28 = .ok (.if_icmp .ge 16, 3) := by decide +kernel
theorem dX16_store_31 : decode cX16_store 31 = .ok (.aload_n 1, 1) := by decide +kernel
theorem dX16_store_32 : decode cX16_store 32 = .ok (.getfield 98, 3) := by decide +kernel
theorem dX16_store_35 : decode cX16_store 35 = .ok (.iload_n 2, 1) := by decide +kernel
theorem dX16_store_36 : decode cX16_store 36 = .ok (.aaload, 1) := by decide +kernel
theorem dX16_store_37 : decode cX16_store 37 = .ok (.iload_n 3, 1) := by decide +kernel
theorem dX16_store_38 : decode cX16_store 38 = .ok (.invokevirtual 122, 3) := by decide +kernel
theorem dX16_store_41 : decode cX16_store 41 = .ok (.goto 4, 3) := by decide +kernel
theorem dX16_store_44 : decode cX16_store 44 = .ok (.iconst 0, 1) := by decide +kernel
theorem dX16_store_45 : decode cX16_store 45 = .ok (.iastore, 1) := by decide +kernel
theorem dX16_store_46 : decode cX16_store 46 = .ok (.iinc 3 1, 3) := by decide +kernel
theorem dX16_store_49 : decode cX16_store 49 = .ok (.goto (-39), 3) := by decide +kernel
theorem dX16_store_52 : decode cX16_store 52 = .ok (.iinc 2 1, 3) := by decide +kernel
theorem dX16_store_55 : decode cX16_store 55 = .ok (.goto (-53), 3) := by decide +kernel
theorem dX16_store_58 : decode cX16_store 58 = .ok (.return_, 1) := by decide +kernel
theorem dX16_rest_0 : decode cX16_rest 0 = .ok (.iload_n 0, 1) := by decide +kernel
theorem dX16_rest_1 : decode cX16_rest 1 = .ok (.ldc 5, 2) := by decide +kernel
theorem dX16_rest_3 : decode cX16_rest 3 = .ok (.irem, 1) := by decide +kernel
theorem dX16_rest_4 : decode cX16_rest 4 = .ok (.istore_n 1, 1) := by decide +kernel
theorem dX16_rest_5 : decode cX16_rest 5 = .ok (.iload_n 1, 1) := by decide +kernel
theorem dX16_rest_6 : decode cX16_rest 6 = .ok (.ifCond .ge 10, 3) := by decide +kernel
theorem dX16_rest_9 : decode cX16_rest 9 = .ok (.iload_n 1, 1) := by decide +kernel
theorem dX16_rest_10 : decode cX16_rest 10 = .ok (.ldc 5, 2) := by decide +kernel
theorem dX16_rest_12 : decode cX16_rest 12 = .ok (.iadd, 1) := by decide +kernel
theorem dX16_rest_13 : decode cX16_rest 13 = .ok (.goto 4, 3) := by decide +kernel
theorem dX16_rest_16 : decode cX16_rest 16 = .ok (.iload_n 1, 1) := by decide +kernel
theorem dX16_rest_17 : decode cX16_rest 17 = .ok (.ireturn, 1) := by decide +kernel
theorem dX16_type_0 : decode cX16_type 0 = .ok (.iload_n 3, 1) := by decide +kernel
theorem dX16_type_1 : decode cX16_type 1 = .ok (.iconst 1, 1) := by decide +kernel
theorem dX16_type_2 : decode cX16_type 2 = .ok (.if_icmp .lt 21, 3) := by decide +kernel
theorem dX16_type_5 : decode cX16_type 5 = .ok (.iload_n 3, 1) := by decide +kernel
theorem dX16_type_6 : decode cX16_type 6 = .ok (.bipush 8, 2) := by decide +kernel
theorem dX16_type_8 : decode cX16_type 8 = .ok (.if_icmp .gt 15, 3) := by decide +kernel
theorem dX16_type_11 : decode cX16_type 11 = .ok (.aload_n 0, 1) := by decide +kernel
theorem dX16_type_12 : decode cX16_type 12 = .ok (.getfield 336, 3) := by decide +kernel
theorem dX16_type_15 : decode cX16_type 15 = .ok (.iload_n 3, 1) := by decide +kernel
theorem dX16_type_16 : decode cX16_type 16 = .ok (.iadd, 1) := by decide +kernel
theorem dX16_type_17 : decode cX16_type 17 = .ok (.sipush 400, 3) := by decide +kernel
theorem dX16_type_20 : decode cX16_type 20 = .ok (.if_icmp .le 5, 3) := by decide +kernel
theorem dX16_type_23 : decode cX16_type 23 = .ok (.iconst (-1), 1) := by decide +kernel
theorem dX16_type_24 : decode cX16_type 24 = .ok (.ireturn, 1) := by decide +kernel
theorem dX16_type_25 : decode cX16_type 25 = .ok (.iload_n 3, 1) := by decide +kernel
theorem dX16_type_26 : decode cX16_type 26 = .ok (.iconst 1, 1) := by decide +kernel
theorem dX16_type_27 : decode cX16_type 27 = .ok (.isub, 1) := by decide +kernel
theorem dX16_type_28 : decode cX16_type 28 = .ok (.istore 4, 2) := by decide +kernel
theorem dX16_type_30 : decode cX16_type 30 = .ok (.iload 4, 2) := by decide +kernel
theorem dX16_type_32 : decode cX16_type 32 = .ok (.ifCond .lt 34, 3) := by decide +kernel
theorem dX16_type_35 : decode cX16_type 35 = .ok (.aload_n 0, 1) := by decide +kernel
theorem dX16_type_36 : decode cX16_type 36 = .ok (.getfield 339, 3) := by decide +kernel
theorem dX16_type_39 : decode cX16_type 39 = .ok (.aload_n 0, 1) := by decide +kernel
theorem dX16_type_40 : decode cX16_type 40 = .ok (.dup, 1) := by decide +kernel
theorem dX16_type_41 : decode cX16_type 41 = .ok (.getfield 336, 3) := by decide +kernel
theorem dX16_type_44 : decode cX16_type 44 = .ok (.dup_x1, 1) := by decide +kernel
theorem dX16_type_45 : decode cX16_type 45 = .ok (.iconst 1, 1) := by decide +kernel
theorem dX16_type_46 : decode cX16_type 46 = .ok (.iadd, 1) := by decide +kernel
theorem dX16_type_47 : decode cX16_type 47 = .ok (.putfield 336, 3) := by decide +kernel
theorem dX16_type_50 : decode cX16_type 50 = .ok (.lload_n 1, 1) := by decide +kernel
theorem dX16_type_51 : decode cX16_type 51 = .ok (.bipush 8, 2) := by decide +kernel
theorem dX16_type_53 : decode cX16_type 53 = .ok (.iload 4, 2) := by decide +kernel
theorem dX16_type_55 : decode cX16_type 55 = .ok (.imul, 1) := by decide +kernel
theorem dX16_type_56 : decode cX16_type 56 = .ok (.lshr, 1) := by decide +kernel
theorem dX16_type_57 : decode cX16_type 57 = .ok (.l2i, 1) := by decide +kernel
theorem dX16_type_58 : decode cX16_type 58 = .ok (.i2b, 1) := by decide +kernel
theorem dX16_type_59 : decode cX16_type 59 = .ok (.bastore, 1) := by decide +kernel
theorem dX16_type_60 : decode cX16_type 60 = .ok (.iinc 4 (-1), 3) := by decide +kernel
theorem dX16_type_63 : decode cX16_type 63 = .ok (.goto (-33), 3) := by decide +kernel
theorem dX16_type_66 : decode cX16_type 66 = .ok (.aload_n 0, 1) := by decide +kernel
theorem dX16_type_67 : decode cX16_type 67 = .ok (.getfield 336, 3) := by decide +kernel
theorem dX16_type_70 : decode cX16_type 70 = .ok (.ireturn, 1) := by decide +kernel
theorem dX16_read_0 : decode cX16_read 0 = .ok (.iload_n 1, 1) := by decide +kernel
theorem dX16_read_1 : decode cX16_read 1 = .ok (.invokestatic 551, 3) := by decide +kernel
theorem dX16_read_4 : decode cX16_read 4 = .ok (.ifCond .ne 5, 3) := by decide +kernel
theorem dX16_read_7 : decode cX16_read 7 = .ok (.iconst (-1), 1) := by decide +kernel
theorem dX16_read_8 : decode cX16_read 8 = .ok (.ireturn, 1) := by decide +kernel
theorem dX16_read_9 : decode cX16_read 9 = .ok (.aload_n 0, 1) := by decide +kernel
theorem dX16_read_10 : decode cX16_read 10 = .ok (.invokevirtual 555, 3) := by decide +kernel
theorem dX16_read_13 : decode cX16_read 13 = .ok (.aload_n 0, 1) := by decide +kernel
theorem dX16_read_14 : decode cX16_read 14 = .ok (.iconst 0, 1) := by decide +kernel
theorem dX16_read_15 : decode cX16_read 15 = .ok (.putfield 334, 3) := by decide +kernel
theorem dX16_read_18 : decode cX16_read 18 = .ok (.aload_n 0, 1) := by decide +kernel
theorem dX16_read_19 : decode cX16_read 19 = .ok (.iconst 0, 1) := by decide +kernel
theorem dX16_read_20 : decode cX16_read 20 = .ok (.putfield 359, 3) := by decide +kernel
theorem dX16_read_23 : decode cX16_read 23 = .ok (.aload_n 0, 1) := by decide +kernel
theorem dX16_read_24 : decode cX16_read 24 = .ok (.iconst (-1), 1) := by decide +kernel
theorem dX16_read_25 : decode cX16_read 25 = .ok (.putfield 456, 3) := by decide +kernel
theorem dX16_read_28 : decode cX16_read 28 = .ok (.aload_n 0, 1) := by decide +kernel
theorem dX16_read_29 : decode cX16_read 29 = .ok (.invokevirtual 365, 3) := by decide +kernel
theorem dX16_read_32 : decode cX16_read 32 = .ok (.aload_n 0, 1) := by decide +kernel
theorem dX16_read_33 : decode cX16_read 33 = .ok (.invokevirtual 343, 3) := by decide +kernel
theorem dX16_read_36 : decode cX16_read 36 = .ok (.iconst (-1), 1) := by decide +kernel
theorem dX16_read_37 : decode cX16_read 37 = .ok (.if_icmp .eq 13, 3) := by decide +kernel
theorem dX16_read_40 : decode cX16_read 40 = .ok (.aload_n 0, 1) := by decide +kernel
theorem dX16_read_41 : decode cX16_read 41 = .ok (.iconst 1, 1) := by decide +kernel
theorem dX16_read_42 : decode cX16_read 42 = .ok (.aload_n 0, 1) := by decide +kernel
theorem dX16_read_43 : decode cX16_read 43 = .ok (.getfield 334, 3) := by decide +kernel
theorem dX16_read_46 : decode cX16_read 46 = .ok (.invokevirtual 346, 3) := by decide +kernel
theorem dX16_read_49 : decode cX16_read 49 = .ok (.athrow, 1) := by decide +kernel
theorem dX16_read_50 : decode cX16_read 50 = .ok (.aload_n 0, 1) := by decide +kernel
theorem dX16_read_51 : decode cX16_read 51 = .ok (.iconst 0, 1) := by decide +kernel
theorem dX16_read_52 : decode cX16_read 52 = .ok (.putfield 334, 3) := by decide +kernel
theorem dX16_read_55 : decode cX16_read 55 = .ok (.aload_n 0, 1) := by decide +kernel
theorem dX16_read_56 : decode cX16_read 56 = .ok (.getfield 453, 3) := by decide +kernel
theorem dX16_read_59 : decode cX16_read 59 = .ok (.aload_n 0, 1) := by decide +kernel
theorem dX16_read_60 : decode cX16_read 60 = .ok (.invokevirtual 423, 3) := by decide +kernel
theorem dX16_read_63 : decode cX16_read 63 = .ok (.invokestatic 547, 3) := by decide +kernel
theorem dX16_read_66 : decode cX16_read 66 = .ok (.aload_n 0, 1) := by decide +kernel
theorem dX16_read_67 : decode cX16_read 67 = .ok (.iload_n 1, 1) := by decide +kernel
theorem dX16_read_68 : decode cX16_read 68 = .ok (.invokevirtual 558, 3) := by decide +kernel
theorem dX16_read_71 : decode cX16_read 71 = .ok (.istore_n 2, 1) := by decide +kernel
theorem dX16_read_72 : decode cX16_read 72 = .ok (.goto 20, 3) := by decide +kernel
theorem dX16_read_75 : decode cX16_read 75 = .ok (.astore_n 3, 1) := by decide +kernel
theorem dX16_read_76 : decode cX16_read 76 = .ok (.aload_n 0, 1) := by decide +kernel
theorem dX16_read_77 : decode cX16_read 77 = .ok (.aload_n 0, 1) := by decide +kernel
theorem dX16_read_78 : decode cX16_read 78 = .ok (.getfield 327, 3) := by decide +kernel
theorem dX16_read_81 : decode cX16_read 81 = .ok (.putfield 456, 3) := by decide +kernel
theorem dX16_read_84 : decode cX16_read 84 = .ok (.bipush (-10), 2) := by decide +kernel
theorem dX16_read_86 : decode cX16_read 86 = .ok (.aload_n 0, 1) := by decide +kernel
theorem dX16_read_87 : decode cX16_read 87 = .ok (.getfield 324, 3) := by decide +kernel
theorem dX16_read_90 : decode cX16_read 90 = .ok (.isub, 1) := by decide +kernel
theorem dX16_read_91 : decode cX16_read 91 = .ok (.istore_n 2, 1) := by decide +kernel
theorem dX16_read_92 : decode cX16_read 92 = .ok (.aload_n 0, 1) := by decide +kernel
theorem dX16_read_93 : decode cX16_read 93 = .ok (.iconst 0, 1) := by decide +kernel
theorem dX16_read_94 : decode cX16_read 94 = .ok (.putfield 336, 3) := by decide +kernel
theorem dX16_read_97 : decode cX16_read 97 = .ok (.iload_n 2, 1) := by decide +kernel
theorem dX16_read_98 : decode cX16_read 98 = .ok (.ireturn, 1) := by decide +kernel
theorem dX16_place_0 : decode cX16_place 0 = .ok (.aload_n 0, 1) := by decide +kernel
theorem dX16_place_1 : decode cX16_place 1 = .ok (.getfield 456, 3) := by decide +kernel
theorem dX16_place_4 : decode cX16_place 4 = .ok (.ireturn, 1) := by decide +kernel
theorem dX16_write_0 : decode cX16_write 0 = .ok (.iload_n 1, 1) := by decide +kernel
theorem dX16_write_1 : decode cX16_write 1 = .ok (.invokestatic 551, 3) := by decide +kernel
theorem dX16_write_4 : decode cX16_write 4 = .ok (.ifCond .ne 5, 3) := by decide +kernel
theorem dX16_write_7 : decode cX16_write 7 = .ok (.iconst (-1), 1) := by decide +kernel
theorem dX16_write_8 : decode cX16_write 8 = .ok (.ireturn, 1) := by decide +kernel
theorem dX16_write_9 : decode cX16_write 9 = .ok (.aload_n 0, 1) := by decide +kernel
theorem dX16_write_10 : decode cX16_write 10 = .ok (.getfield 450, 3) := by decide +kernel
theorem dX16_write_13 : decode cX16_write 13 = .ok (.iload_n 1, 1) := by decide +kernel
theorem dX16_write_14 : decode cX16_write 14 = .ok (.aaload, 1) := by decide +kernel
theorem dX16_write_15 : decode cX16_write 15 = .ok (.astore_n 2, 1) := by decide +kernel
theorem dX16_write_16 : decode cX16_write 16 = .ok (.aload_n 2, 1) := by decide +kernel
theorem dX16_write_17 : decode cX16_write 17 = .ok (.getfield 202, 3) := by decide +kernel
theorem dX16_write_20 : decode cX16_write 20 = .ok (.iconst 1, 1) := by decide +kernel
theorem dX16_write_21 : decode cX16_write 21 = .ok (.if_icmp .eq 14, 3) := by decide +kernel
theorem dX16_write_24 : decode cX16_write 24 = .ok (.aload_n 2, 1) := by decide +kernel
theorem dX16_write_25 : decode cX16_write 25 = .ok (.getfield 202, 3) := by decide +kernel
theorem dX16_write_28 : decode cX16_write 28 = .ok (.iconst 2, 1) := by decide +kernel
theorem dX16_write_29 : decode cX16_write 29 = .ok (.if_icmp .eq 6, 3) := by decide +kernel
theorem dX16_write_32 : decode cX16_write 32 = .ok (.bipush (-3), 2) := by decide +kernel
theorem dX16_write_34 : decode cX16_write 34 = .ok (.ireturn, 1) := by decide +kernel
theorem dX16_write_35 : decode cX16_write 35 = .ok (.aload_n 0, 1) := by decide +kernel
theorem dX16_write_36 : decode cX16_write 36 = .ok (.iconst 0, 1) := by decide +kernel
theorem dX16_write_37 : decode cX16_write 37 = .ok (.putfield 561, 3) := by decide +kernel
theorem dX16_write_40 : decode cX16_write 40 = .ok (.aload_n 2, 1) := by decide +kernel
theorem dX16_write_41 : decode cX16_write 41 = .ok (.getfield 202, 3) := by decide +kernel
theorem dX16_write_44 : decode cX16_write 44 = .ok (.iconst 1, 1) := by decide +kernel
theorem dX16_write_45 : decode cX16_write 45 = .ok (.if_icmp .ne 11, 3) := by decide +kernel
theorem dX16_write_48 : decode cX16_write 48 = .ok (.aload_n 0, 1) := by decide +kernel
theorem dX16_write_49 : decode cX16_write 49 = .ok (.aload_n 2, 1) := by decide +kernel
theorem dX16_write_50 : decode cX16_write 50 = .ok (.invokevirtual 587, 3) := by decide +kernel
theorem dX16_write_53 : decode cX16_write 53 = .ok (.goto 168, 3) := by decide +kernel
theorem dX16_write_56 : decode cX16_write 56 = .ok (.aload_n 0, 1) := by decide +kernel
theorem dX16_write_57 : decode cX16_write 57 = .ok (.bipush 40, 2) := by decide +kernel
theorem dX16_write_59 : decode cX16_write 59 = .ok (.invokevirtual 564, 3) := by decide +kernel
theorem dX16_write_62 : decode cX16_write 62 = .ok (.aload_n 0, 1) := by decide +kernel
theorem dX16_write_63 : decode cX16_write 63 = .ok (.aload_n 2, 1) := by decide +kernel
theorem dX16_write_64 : decode cX16_write 64 = .ok (.invokevirtual 587, 3) := by decide +kernel
theorem dX16_write_67 : decode cX16_write 67 = .ok (.aload_n 0, 1) := by decide +kernel
theorem dX16_write_68 : decode cX16_write 68 = .ok (.bipush 41, 2) := by decide +kernel
theorem dX16_write_70 : decode cX16_write 70 = .ok (.invokevirtual 564, 3) := by decide +kernel
theorem dX16_write_73 : decode cX16_write 73 = .ok (.aload_n 0, 1) := by decide +kernel
theorem dX16_write_74 : decode cX16_write 74 = .ok (.aload_n 2, 1) := by decide +kernel
theorem dX16_write_75 : decode cX16_write 75 = .ok (.getfield 213, 3) := by decide +kernel
theorem dX16_write_78 : decode cX16_write 78 = .ok (.bipush 110, 2) := by decide +kernel
theorem dX16_write_80 : decode cX16_write 80 = .ok (.invokevirtual 590, 3) := by decide +kernel
theorem dX16_write_83 : decode cX16_write 83 = .ok (.aload_n 0, 1) := by decide +kernel
theorem dX16_write_84 : decode cX16_write 84 = .ok (.aload_n 2, 1) := by decide +kernel
theorem dX16_write_85 : decode cX16_write 85 = .ok (.getfield 216, 3) := by decide +kernel
theorem dX16_write_88 : decode cX16_write 88 = .ok (.bipush 107, 2) := by decide +kernel
theorem dX16_write_90 : decode cX16_write 90 = .ok (.invokevirtual 590, 3) := by decide +kernel
theorem dX16_write_93 : decode cX16_write 93 = .ok (.iconst 0, 1) := by decide +kernel
theorem dX16_write_94 : decode cX16_write 94 = .ok (.istore_n 3, 1) := by decide +kernel
theorem dX16_write_95 : decode cX16_write 95 = .ok (.iload_n 3, 1) := by decide +kernel
theorem dX16_write_96 : decode cX16_write 96 = .ok (.aload_n 2, 1) := by decide +kernel
theorem dX16_write_97 : decode cX16_write 97 = .ok (.getfield 219, 3) := by decide +kernel
theorem dX16_write_100 : decode cX16_write 100 = .ok (.if_icmp .ge 121, 3) := by decide +kernel
theorem dX16_write_103 : decode cX16_write 103 = .ok (.aload_n 0, 1) := by decide +kernel
theorem dX16_write_104 : decode cX16_write 104 = .ok (.aload_n 2, 1) := by decide +kernel
theorem dX16_write_105 : decode cX16_write 105 = .ok (.getfield 231, 3) := by decide +kernel
theorem dX16_write_108 : decode cX16_write 108 = .ok (.iload_n 3, 1) := by decide +kernel
theorem dX16_write_109 : decode cX16_write 109 = .ok (.iaload, 1) := by decide +kernel
theorem dX16_write_110 : decode cX16_write 110 = .ok (.ifCond .le 8, 3) := by decide +kernel
theorem dX16_write_113 : decode cX16_write 113 = .ok (.bipush 42, 2) := by decide +kernel
theorem dX16_write_115 : decode cX16_write 115 = .ok (.goto 5, 3) := by decide +kernel
theorem dX16_write_118 : decode cX16_write 118 = .ok (.bipush 47, 2) := by decide +kernel
theorem dX16_write_120 : decode cX16_write 120 = .ok (.invokevirtual 564, 3) := by decide +kernel
theorem dX16_write_123 : decode cX16_write 123 = .ok (.aload_n 0, 1) := by decide +kernel
theorem dX16_write_124 : decode cX16_write 124 = .ok (.bipush 40, 2) := by decide +kernel
theorem dX16_write_126 : decode cX16_write 126 = .ok (.invokevirtual 564, 3) := by decide +kernel
theorem dX16_write_129 : decode cX16_write 129 = .ok (.aload_n 0, 1) := by decide +kernel
theorem dX16_write_130 : decode cX16_write 130 = .ok (.iconst 1, 1) := by decide +kernel
theorem dX16_write_131 : decode cX16_write 131 = .ok (.putfield 567, 3) := by decide +kernel
theorem dX16_write_134 : decode cX16_write 134 = .ok (.aload_n 0, 1) := by decide +kernel
theorem dX16_write_135 : decode cX16_write 135 = .ok (.aload_n 2, 1) := by decide +kernel
theorem dX16_write_136 : decode cX16_write 136 = .ok (.getfield 225, 3) := by decide +kernel
theorem dX16_write_139 : decode cX16_write 139 = .ok (.iload_n 3, 1) := by decide +kernel
theorem dX16_write_140 : decode cX16_write 140 = .ok (.iaload, 1) := by decide +kernel
theorem dX16_write_141 : decode cX16_write 141 = .ok (.iconst 0, 1) := by decide +kernel
theorem dX16_write_142 : decode cX16_write 142 = .ok (.iconst 1, 1) := by decide +kernel
theorem dX16_write_143 : decode cX16_write 143 = .ok (.invokevirtual 594, 3) := by decide +kernel
theorem dX16_write_146 : decode cX16_write 146 = .ok (.aload_n 0, 1) := by decide +kernel
theorem dX16_write_147 : decode cX16_write 147 = .ok (.aload_n 2, 1) := by decide +kernel
theorem dX16_write_148 : decode cX16_write 148 = .ok (.getfield 222, 3) := by decide +kernel
theorem dX16_write_151 : decode cX16_write 151 = .ok (.iload_n 3, 1) := by decide +kernel
theorem dX16_write_152 : decode cX16_write 152 = .ok (.iaload, 1) := by decide +kernel
theorem dX16_write_153 : decode cX16_write 153 = .ok (.iconst 1, 1) := by decide +kernel
theorem dX16_write_154 : decode cX16_write 154 = .ok (.iconst 0, 1) := by decide +kernel
theorem dX16_write_155 : decode cX16_write 155 = .ok (.invokevirtual 594, 3) := by decide +kernel
theorem dX16_write_158 : decode cX16_write 158 = .ok (.aload_n 0, 1) := by decide +kernel
theorem dX16_write_159 : decode cX16_write 159 = .ok (.aload_n 2, 1) := by decide +kernel
theorem dX16_write_160 : decode cX16_write 160 = .ok (.getfield 228, 3) := by decide +kernel
theorem dX16_write_163 : decode cX16_write 163 = .ok (.iload_n 3, 1) := by decide +kernel
theorem dX16_write_164 : decode cX16_write 164 = .ok (.iaload, 1) := by decide +kernel
theorem dX16_write_165 : decode cX16_write 165 = .ok (.iconst 0, 1) := by decide +kernel
theorem dX16_write_166 : decode cX16_write 166 = .ok (.iconst 0, 1) := by decide +kernel
theorem dX16_write_167 : decode cX16_write 167 = .ok (.invokevirtual 594, 3) := by decide +kernel
theorem dX16_write_170 : decode cX16_write 170 = .ok (.aload_n 0, 1) := by decide +kernel
theorem dX16_write_171 : decode cX16_write 171 = .ok (.bipush 41, 2) := by decide +kernel
theorem dX16_write_173 : decode cX16_write 173 = .ok (.invokevirtual 564, 3) := by decide +kernel
theorem dX16_write_176 : decode cX16_write 176 = .ok (.aload_n 0, 1) := by decide +kernel
theorem dX16_write_177 : decode cX16_write 177 = .ok (.bipush 33, 2) := by decide +kernel
theorem dX16_write_179 : decode cX16_write 179 = .ok (.invokevirtual 564, 3) := by decide +kernel
theorem dX16_write_182 : decode cX16_write 182 = .ok (.aload_n 2, 1) := by decide +kernel
theorem dX16_write_183 : decode cX16_write 183 = .ok (.getfield 231, 3) := by decide +kernel
theorem dX16_write_186 : decode cX16_write 186 = .ok (.iload_n 3, 1) := by decide +kernel
theorem dX16_write_187 : decode cX16_write 187 = .ok (.iaload, 1) := by decide +kernel
theorem dX16_write_188 : decode cX16_write 188 = .ok (.invokestatic 273, 3) := by decide +kernel
theorem dX16_write_191 : decode cX16_write 191 = .ok (.iconst 1, 1) := by decide +kernel
theorem dX16_write_192 : decode cX16_write 192 = .ok (.if_icmp .le 23, 3) := by decide +kernel
theorem dX16_write_195 : decode cX16_write 195 = .ok (.aload_n 0, 1) := by decide +kernel
theorem dX16_write_196 : decode cX16_write 196 = .ok (.bipush 94, 2) := by decide +kernel
theorem dX16_write_198 : decode cX16_write 198 = .ok (.invokevirtual 564, 3) := by decide +kernel
theorem dX16_write_201 : decode cX16_write 201 = .ok (.aload_n 0, 1) := by decide +kernel
theorem dX16_write_202 : decode cX16_write 202 = .ok (.aload_n 2, 1) := by decide +kernel
theorem dX16_write_203 : decode cX16_write 203 = .ok (.getfield 231, 3) := by decide +kernel
theorem dX16_write_206 : decode cX16_write 206 = .ok (.iload_n 3, 1) := by decide +kernel
theorem dX16_write_207 : decode cX16_write 207 = .ok (.iaload, 1) := by decide +kernel
theorem dX16_write_208 : decode cX16_write 208 = .ok (.invokestatic 273, 3) := by decide +kernel
theorem dX16_write_211 : decode cX16_write 211 = .ok (.i2l, 1) := by decide +kernel
theorem dX16_write_212 : decode cX16_write 212 = .ok (.invokevirtual 571, 3) := by decide +kernel
theorem dX16_write_215 : decode cX16_write 215 = .ok (.iinc 3 1, 3) := by decide +kernel
theorem dX16_write_218 : decode cX16_write 218 = .ok (.goto (-123), 3) := by decide +kernel
theorem dX16_write_221 : decode cX16_write 221 = .ok (.aload_n 0, 1) := by decide +kernel
theorem dX16_write_222 : decode cX16_write 222 = .ok (.getfield 561, 3) := by decide +kernel
theorem dX16_write_225 : decode cX16_write 225 = .ok (.sipush 4000, 3) := by decide +kernel
theorem dX16_write_228 : decode cX16_write 228 = .ok (.if_icmp .le 6, 3) := by decide +kernel
theorem dX16_write_231 : decode cX16_write 231 = .ok (.bipush (-2), 2) := by decide +kernel
theorem dX16_write_233 : decode cX16_write 233 = .ok (.ireturn, 1) := by decide +kernel
theorem dX16_write_234 : decode cX16_write 234 = .ok (.aload_n 0, 1) := by decide +kernel
theorem dX16_write_235 : decode cX16_write 235 = .ok (.getfield 462, 3) := by decide +kernel
theorem dX16_write_238 : decode cX16_write 238 = .ok (.iconst 0, 1) := by decide +kernel
theorem dX16_write_239 : decode cX16_write 239 = .ok (.aload_n 0, 1) := by decide +kernel
theorem dX16_write_240 : decode cX16_write 240 = .ok (.getfield 459, 3) := by decide +kernel
theorem dX16_write_243 : decode cX16_write 243 = .ok (.iconst 0, 1) := by decide +kernel
theorem dX16_write_244 : decode cX16_write 244 = .ok (.aload_n 0, 1) := by decide +kernel
theorem dX16_write_245 : decode cX16_write 245 = .ok (.getfield 561, 3) := by decide +kernel
theorem dX16_write_248 : decode cX16_write 248 = .ok (.invokestatic 34, 3) := by decide +kernel
theorem dX16_write_251 : decode cX16_write 251 = .ok (.aload_n 0, 1) := by decide +kernel
theorem dX16_write_252 : decode cX16_write 252 = .ok (.aload_n 0, 1) := by decide +kernel
theorem dX16_write_253 : decode cX16_write 253 = .ok (.getfield 561, 3) := by decide +kernel
theorem dX16_write_256 : decode cX16_write 256 = .ok (.putfield 597, 3) := by decide +kernel
theorem dX16_write_259 : decode cX16_write 259 = .ok (.aload_n 0, 1) := by decide +kernel
theorem dX16_write_260 : decode cX16_write 260 = .ok (.getfield 597, 3) := by decide +kernel
theorem dX16_write_263 : decode cX16_write 263 = .ok (.ireturn, 1) := by decide +kernel
theorem dX16_written_0 : decode cX16_written 0 = .ok (.iload_n 1, 1) := by decide +kernel
theorem dX16_written_1 : decode cX16_written 1 = .ok (.ifCond .lt 24, 3) := by decide +kernel
theorem dX16_written_4 : decode cX16_written 4 = .ok (.iload_n 1, 1) := by decide +kernel
theorem dX16_written_5 : decode cX16_written 5 = .ok (.aload_n 0, 1) := by decide +kernel
theorem dX16_written_6 : decode cX16_written 6 = .ok (.getfield 597, 3) := by decide +kernel
theorem dX16_written_9 : decode cX16_written 9 = .ok (.if_icmp .ge 16, 3) := by decide +kernel
theorem dX16_written_12 : decode cX16_written 12 = .ok (.aload_n 0, 1) := by decide +kernel
theorem dX16_written_13 : decode cX16_written 13 = .ok (.getfield 459, 3) := by decide +kernel
theorem dX16_written_16 : decode cX16_written 16 = .ok (.iload_n 1, 1) := by decide +kernel
theorem dX16_written_17 : decode cX16_written 17 = .ok (.baload, 1) := by decide +kernel
theorem dX16_written_18 : decode cX16_written 18 = .ok (.sipush 255, 3) := by decide +kernel
theorem dX16_written_21 : decode cX16_written 21 = .ok (.iand, 1) := by decide +kernel
theorem dX16_written_22 : decode cX16_written 22 = .ok (.goto 4, 3) := by decide +kernel
theorem dX16_written_25 : decode cX16_written 25 = .ok (.iconst (-1), 1) := by decide +kernel
theorem dX16_written_26 : decode cX16_written 26 = .ok (.ireturn, 1) := by decide +kernel
theorem dX16_again_0 : decode cX16_again 0 = .ok (.aload_n 0, 1) := by decide +kernel
theorem dX16_again_1 : decode cX16_again 1 = .ok (.getfield 597, 3) := by decide +kernel
theorem dX16_again_4 : decode cX16_again 4 = .ok (.sipush 400, 3) := by decide +kernel
theorem dX16_again_7 : decode cX16_again 7 = .ok (.if_icmp .le 6, 3) := by decide +kernel
theorem dX16_again_10 : decode cX16_again 10 = .ok (.bipush (-2), 2) := by decide +kernel
theorem dX16_again_12 : decode cX16_again 12 = .ok (.ireturn, 1) := by decide +kernel
theorem dX16_again_13 : decode cX16_again 13 = .ok (.aload_n 0, 1) := by decide +kernel
theorem dX16_again_14 : decode cX16_again 14 = .ok (.getfield 459, 3) := by decide +kernel
theorem dX16_again_17 : decode cX16_again 17 = .ok (.iconst 0, 1) := by decide +kernel
theorem dX16_again_18 : decode cX16_again 18 = .ok (.aload_n 0, 1) := by decide +kernel
theorem dX16_again_19 : decode cX16_again 19 = .ok (.getfield 339, 3) := by decide +kernel
theorem dX16_again_22 : decode cX16_again 22 = .ok (.iconst 0, 1) := by decide +kernel
theorem dX16_again_23 : decode cX16_again 23 = .ok (.aload_n 0, 1) := by decide +kernel
theorem dX16_again_24 : decode cX16_again 24 = .ok (.getfield 597, 3) := by decide +kernel
theorem dX16_again_27 : decode cX16_again 27 = .ok (.invokestatic 34, 3) := by decide +kernel
theorem dX16_again_30 : decode cX16_again 30 = .ok (.aload_n 0, 1) := by decide +kernel
theorem dX16_again_31 : decode cX16_again 31 = .ok (.aload_n 0, 1) := by decide +kernel
theorem dX16_again_32 : decode cX16_again 32 = .ok (.getfield 597, 3) := by decide +kernel
theorem dX16_again_35 : decode cX16_again 35 = .ok (.putfield 336, 3) := by decide +kernel
theorem dX16_again_38 : decode cX16_again 38 = .ok (.aload_n 0, 1) := by decide +kernel
theorem dX16_again_39 : decode cX16_again 39 = .ok (.getfield 336, 3) := by decide +kernel
theorem dX16_again_42 : decode cX16_again 42 = .ok (.ireturn, 1) := by decide +kernel
theorem dX16_kind_0 : decode cX16_kind 0 = .ok (.iload_n 1, 1) := by decide +kernel
theorem dX16_kind_1 : decode cX16_kind 1 = .ok (.invokestatic 551, 3) := by decide +kernel
theorem dX16_kind_4 : decode cX16_kind 4 = .ok (.ifCond .eq 15, 3) := by decide +kernel
theorem dX16_kind_7 : decode cX16_kind 7 = .ok (.aload_n 0, 1) := by decide +kernel
theorem dX16_kind_8 : decode cX16_kind 8 = .ok (.getfield 450, 3) := by decide +kernel
theorem dX16_kind_11 : decode cX16_kind 11 = .ok (.iload_n 1, 1) := by decide +kernel
theorem dX16_kind_12 : decode cX16_kind 12 = .ok (.aaload, 1) := by decide +kernel
theorem dX16_kind_13 : decode cX16_kind 13 = .ok (.getfield 202, 3) := by decide +kernel
theorem dX16_kind_16 : decode cX16_kind 16 = .ok (.goto 4, 3) := by decide +kernel
theorem dX16_kind_19 : decode cX16_kind 19 = .ok (.iconst (-1), 1) := by decide +kernel
theorem dX16_kind_20 : decode cX16_kind 20 = .ok (.ireturn, 1) := by decide +kernel
theorem dX16_drop_0 : decode cX16_drop 0 = .ok (.iload_n 1, 1) := by decide +kernel
theorem dX16_drop_1 : decode cX16_drop 1 = .ok (.invokestatic 551, 3) := by decide +kernel
theorem dX16_drop_4 : decode cX16_drop 4 = .ok (.ifCond .ne 5, 3) := by decide +kernel
theorem dX16_drop_7 : decode cX16_drop 7 = .ok (.iconst (-1), 1) := by decide +kernel
theorem dX16_drop_8 : decode cX16_drop 8 = .ok (.ireturn, 1) := by decide +kernel
theorem dX16_drop_9 : decode cX16_drop 9 = .ok (.aload_n 0, 1) := by decide +kernel
theorem dX16_drop_10 : decode cX16_drop 10 = .ok (.getfield 450, 3) := by decide +kernel
theorem dX16_drop_13 : decode cX16_drop 13 = .ok (.iload_n 1, 1) := by decide +kernel
theorem dX16_drop_14 : decode cX16_drop 14 = .ok (.aaload, 1) := by decide +kernel
theorem dX16_drop_15 : decode cX16_drop 15 = .ok (.getfield 202, 3) := by decide +kernel
theorem dX16_drop_18 : decode cX16_drop 18 = .ok (.istore_n 2, 1) := by decide +kernel
theorem dX16_drop_19 : decode cX16_drop 19 = .ok (.aload_n 0, 1) := by decide +kernel
theorem dX16_drop_20 : decode cX16_drop 20 = .ok (.getfield 450, 3) := by decide +kernel
theorem dX16_drop_23 : decode cX16_drop 23 = .ok (.iload_n 1, 1) := by decide +kernel
theorem dX16_drop_24 : decode cX16_drop 24 = .ok (.aaload, 1) := by decide +kernel
theorem dX16_drop_25 : decode cX16_drop 25 = .ok (.iconst 0, 1) := by decide +kernel
theorem dX16_drop_26 : decode cX16_drop 26 = .ok (.putfield 202, 3) := by decide +kernel
theorem dX16_drop_29 : decode cX16_drop 29 = .ok (.iload_n 2, 1) := by decide +kernel
theorem dX16_drop_30 : decode cX16_drop 30 = .ok (.ireturn, 1) := by decide +kernel
theorem dX16_degree__0 : decode cX16_degree_ 0 = .ok (.iload_n 1, 1) := by decide +kernel
theorem dX16_degree__1 : decode cX16_degree_ 1 = .ok (.invokestatic 551, 3) := by decide +kernel
theorem dX16_degree__4 : decode cX16_degree_ 4 = .ok (.ifCond .ne 5, 3) := by decide +kernel
theorem dX16_degree__7 : decode cX16_degree_ 7 = .ok (.iconst (-1), 1) := by decide +kernel
theorem dX16_degree__8 : decode cX16_degree_ 8 = .ok (.ireturn, 1) := by decide +kernel
theorem dX16_degree__9 : decode cX16_degree_ 9 = .ok (.aload_n 0, 1) := by decide +kernel
theorem dX16_degree__10 : decode cX16_degree_ 10 = .ok (.getfield 450, 3) := by decide +kernel
theorem dX16_degree__13 : decode cX16_degree_ 13 = .ok (.iload_n 1, 1) := by decide +kernel
theorem dX16_degree__14 : decode cX16_degree_ 14 = .ok (.aaload, 1) := by decide +kernel
theorem dX16_degree__15 : decode cX16_degree_ 15 = .ok (.astore 4, 2) := by decide +kernel
theorem dX16_degree__17 : decode cX16_degree_ 17 = .ok (.aload 4, 2) := by decide +kernel
theorem dX16_degree__19 : decode cX16_degree_ 19 = .ok (.getfield 202, 3) := by decide +kernel
theorem dX16_degree__22 : decode cX16_degree_ 22 = .ok (.iconst 1, 1) := by decide +kernel
theorem dX16_degree__23 : decode cX16_degree_ 23 = .ok (.if_icmp .lt 12, 3) := by decide +kernel
theorem dX16_degree__26 : decode cX16_degree_ 26 = .ok (.aload 4, 2) := by decide +kernel
theorem dX16_degree__28 : decode cX16_degree_ 28 = .ok (.getfield 202, 3) := by decide +kernel
theorem dX16_degree__31 : decode cX16_degree_ 31 = .ok (.iconst 3, 1) := by decide +kernel
theorem dX16_degree__32 : decode cX16_degree_ 32 = .ok (.if_icmp .le 6, 3) := by decide +kernel
theorem dX16_degree__35 : decode cX16_degree_ 35 = .ok (.bipush (-3), 2) := by decide +kernel
theorem dX16_degree__37 : decode cX16_degree_ 37 = .ok (.ireturn, 1) := by decide +kernel
theorem dX16_degree__38 : decode cX16_degree_ 38 = .ok (.iload_n 2, 1) := by decide +kernel
theorem dX16_degree__39 : decode cX16_degree_ 39 = .ok (.ifCond .lt 17, 3) := by decide +kernel
theorem dX16_degree__42 : decode cX16_degree_ 42 = .ok (.iload_n 2, 1) := by decide +kernel
theorem dX16_degree__43 : decode cX16_degree_ 43 = .ok (.iconst 1, 1) := by decide +kernel
theorem dX16_degree__44 : decode cX16_degree_ 44 = .ok (.if_icmp .gt 12, 3) := by decide +kernel
theorem dX16_degree__47 : decode cX16_degree_ 47 = .ok (.iload_n 3, 1) := by decide +kernel
theorem dX16_degree__48 : decode cX16_degree_ 48 = .ok (.ifCond .lt 8, 3) := by decide +kernel
theorem dX16_degree__51 : decode cX16_degree_ 51 = .ok (.iload_n 3, 1) := by decide +kernel
theorem dX16_degree__52 : decode cX16_degree_ 52 = .ok (.iconst 1, 1) := by decide +kernel
theorem dX16_degree__53 : decode cX16_degree_ 53 = .ok (.if_icmp .le 5, 3) := by decide +kernel
theorem dX16_degree__56 : decode cX16_degree_ 56 = .ok (.iconst (-1), 1) := by decide +kernel
theorem dX16_degree__57 : decode cX16_degree_ 57 = .ok (.ireturn, 1) := by decide +kernel
theorem dX16_degree__58 : decode cX16_degree_ 58 = .ok (.iload_n 2, 1) := by decide +kernel
theorem dX16_degree__59 : decode cX16_degree_ 59 = .ok (.ifCond .ne 11, 3) := by decide +kernel
theorem dX16_degree__62 : decode cX16_degree_ 62 = .ok (.aload 4, 2) := by decide +kernel
theorem dX16_degree__64 : decode cX16_degree_ 64 = .ok (.getfield 207, 3) := by decide +kernel
theorem dX16_degree__67 : decode cX16_degree_ 67 = .ok (.goto 8, 3) := by decide +kernel
theorem dX16_degree__70 : decode cX16_degree_ 70 = .ok (.aload 4, 2) := by decide +kernel
theorem dX16_degree__72 : decode cX16_degree_ 72 = .ok (.getfield 210, 3) := by decide +kernel
theorem dX16_degree__75 : decode cX16_degree_ 75 = .ok (.iload_n 3, 1) := by decide +kernel
theorem dX16_degree__76 : decode cX16_degree_ 76 = .ok (.invokestatic 603, 3) := by decide +kernel
theorem dX16_degree__79 : decode cX16_degree_ 79 = .ok (.ireturn, 1) := by decide +kernel
theorem dX16_number__0 : decode cX16_number_ 0 = .ok (.iload_n 1, 1) := by decide +kernel
theorem dX16_number__1 : decode cX16_number_ 1 = .ok (.invokestatic 551, 3) := by decide +kernel
theorem dX16_number__4 : decode cX16_number_ 4 = .ok (.ifCond .ne 5, 3) := by decide +kernel
theorem dX16_number__7 : decode cX16_number_ 7 = .ok (.iconst (-1), 1) := by decide +kernel
theorem dX16_number__8 : decode cX16_number_ 8 = .ok (.ireturn, 1) := by decide +kernel
theorem dX16_number__9 : decode cX16_number_ 9 = .ok (.aload_n 0, 1) := by decide +kernel
theorem dX16_number__10 : decode cX16_number_ 10 = .ok (.getfield 450, 3) := by decide +kernel
theorem dX16_number__13 : decode cX16_number_ 13 = .ok (.iload_n 1, 1) := by decide +kernel
theorem dX16_number__14 : decode cX16_number_ 14 = .ok (.aaload, 1) := by decide +kernel
theorem dX16_number__15 : decode cX16_number_ 15 = .ok (.astore 5, 2) := by decide +kernel
theorem dX16_number__17 : decode cX16_number_ 17 = .ok (.aload 5, 2) := by decide +kernel
theorem dX16_number__19 : decode cX16_number_ 19 = .ok (.getfield 202, 3) := by decide +kernel
theorem dX16_number__22 : decode cX16_number_ 22 = .ok (.iconst 3, 1) := by decide +kernel
theorem dX16_number__23 : decode cX16_number_ 23 = .ok (.if_icmp .eq 12, 3) := by decide +kernel
theorem dX16_number__26 : decode cX16_number_ 26 = .ok (.aload 5, 2) := by decide +kernel
theorem dX16_number__28 : decode cX16_number_ 28 = .ok (.getfield 202, 3) := by decide +kernel
theorem dX16_number__31 : decode cX16_number_ 31 = .ok (.iconst 4, 1) := by decide +kernel
theorem dX16_number__32 : decode cX16_number_ 32 = .ok (.if_icmp .ne 7, 3) := by decide +kernel
theorem dX16_number__35 : decode cX16_number_ 35 = .ok (.iconst 1, 1) := by decide +kernel
theorem dX16_number__36 : decode cX16_number_ 36 = .ok (.goto 4, 3) := by decide +kernel
theorem dX16_number__39 : decode cX16_number_ 39 = .ok (.iconst 0, 1) := by decide +kernel
theorem dX16_number__40 : decode cX16_number_ 40 = .ok (.istore 6, 2) := by decide +kernel
theorem dX16_number__42 : decode cX16_number_ 42 = .ok (.aload 5, 2) := by decide +kernel
theorem dX16_number__44 : decode cX16_number_ 44 = .ok (.getfield 202, 3) := by decide +kernel
theorem dX16_number__47 : decode cX16_number_ 47 = .ok (.ifCond .eq 31, 3) := by decide +kernel
theorem dX16_number__50 : decode cX16_number_ 50 = .ok (.aload 5, 2) := by decide +kernel
theorem dX16_number__52 : decode cX16_number_ 52 = .ok (.getfield 202, 3) := by decide +kernel
theorem dX16_number__55 : decode cX16_number_ 55 = .ok (.iconst 4, 1) := by decide +kernel
theorem dX16_number__56 : decode cX16_number_ 56 = .ok (.if_icmp .ne 12, 3) := by decide +kernel
theorem dX16_number__59 : decode cX16_number_ 59 = .ok (.iload_n 2, 1) := by decide +kernel
theorem dX16_number__60 : decode cX16_number_ 60 = .ok (.ifCond .eq 18, 3) := by decide +kernel
theorem dX16_number__63 : decode cX16_number_ 63 = .ok (.iload_n 2, 1) := by decide +kernel
theorem dX16_number__64 : decode cX16_number_ 64 = .ok (.iconst 1, 1) := by decide +kernel
theorem dX16_number__65 : decode cX16_number_ 65 = .ok (.if_icmp .eq 13, 3) := by decide +kernel
theorem dX16_number__68 : decode cX16_number_ 68 = .ok (.iload 6, 2) := by decide +kernel
theorem dX16_number__70 : decode cX16_number_ 70 = .ok (.ifCond .ne 11, 3) := by decide +kernel
theorem dX16_number__73 : decode cX16_number_ 73 = .ok (.iload_n 2, 1) := by decide +kernel
theorem dX16_number__74 : decode cX16_number_ 74 = .ok (.iconst 1, 1) := by decide +kernel
theorem dX16_number__75 : decode cX16_number_ 75 = .ok (.if_icmp .le 6, 3) := by decide +kernel
theorem dX16_number__78 : decode cX16_number_ 78 = .ok (.bipush (-3), 2) := by decide +kernel
theorem dX16_number__80 : decode cX16_number_ 80 = .ok (.ireturn, 1) := by decide +kernel
theorem dX16_number__81 : decode cX16_number_ 81 = .ok (.iload_n 2, 1) := by decide +kernel
theorem dX16_number__82 : decode cX16_number_ 82 = .ok (.ifCond .lt 19, 3) := by decide +kernel
theorem dX16_number__85 : decode cX16_number_ 85 = .ok (.iload_n 2, 1) := by decide +kernel
theorem dX16_number__86 : decode cX16_number_ 86 = .ok (.iconst 1, 1) := by decide +kernel
theorem dX16_number__87 : decode cX16_number_ 87 = .ok (.if_icmp .le 16, 3) := by decide +kernel
theorem dX16_number__90 : decode cX16_number_ 90 = .ok (.iload_n 2, 1) := by decide +kernel
theorem dX16_number__91 : decode cX16_number_ 91 = .ok (.iconst 2, 1) := by decide +kernel
theorem dX16_number__92 : decode cX16_number_ 92 = .ok (.isub, 1) := by decide +kernel
theorem dX16_number__93 : decode cX16_number_ 93 = .ok (.aload 5, 2) := by decide +kernel
theorem dX16_number__95 : decode cX16_number_ 95 = .ok (.getfield 234, 3) := by decide +kernel
theorem dX16_number__98 : decode cX16_number_ 98 = .ok (.if_icmp .le 5, 3) := by decide +kernel
theorem dX16_number__101 : decode cX16_number_ 101 = .ok (.iconst (-1), 1) := by decide +kernel
theorem dX16_number__102 : decode cX16_number_ 102 = .ok (.ireturn, 1) := by decide +kernel
theorem dX16_number__103 : decode cX16_number_ 103 = .ok (.iload_n 2, 1) := by decide +kernel
theorem dX16_number__104 : decode cX16_number_ 104 = .ok (.iconst 1, 1) := by decide +kernel
theorem dX16_number__105 : decode cX16_number_ 105 = .ok (.if_icmp .le 37, 3) := by decide +kernel
theorem dX16_number__108 : decode cX16_number_ 108 = .ok (.iload 4, 2) := by decide +kernel
theorem dX16_number__110 : decode cX16_number_ 110 = .ok (.ifCond .ne 30, 3) := by decide +kernel
theorem dX16_number__113 : decode cX16_number_ 113 = .ok (.iload_n 3, 1) := by decide +kernel
theorem dX16_number__114 : decode cX16_number_ 114 = .ok (.ifCond .lt 26, 3) := by decide +kernel
theorem dX16_number__117 : decode cX16_number_ 117 = .ok (.iload_n 3, 1) := by decide +kernel
theorem dX16_number__118 : decode cX16_number_ 118 = .ok (.bipush 24, 2) := by decide +kernel
theorem dX16_number__120 : decode cX16_number_ 120 = .ok (.if_icmp .gt 20, 3) := by decide +kernel
theorem dX16_number__123 : decode cX16_number_ 123 = .ok (.aload 5, 2) := by decide +kernel
theorem dX16_number__125 : decode cX16_number_ 125 = .ok (.getfield 237, 3) := by decide +kernel
theorem dX16_number__128 : decode cX16_number_ 128 = .ok (.bipush 25, 2) := by decide +kernel
theorem dX16_number__130 : decode cX16_number_ 130 = .ok (.iload_n 2, 1) := by decide +kernel
theorem dX16_number__131 : decode cX16_number_ 131 = .ok (.iconst 2, 1) := by decide +kernel
theorem dX16_number__132 : decode cX16_number_ 132 = .ok (.isub, 1) := by decide +kernel
theorem dX16_number__133 : decode cX16_number_ 133 = .ok (.imul, 1) := by decide +kernel
theorem dX16_number__134 : decode cX16_number_ 134 = .ok (.iload_n 3, 1) := by decide +kernel
theorem dX16_number__135 : decode cX16_number_ 135 = .ok (.iadd, 1) := by decide +kernel
theorem dX16_number__136 : decode cX16_number_ 136 = .ok (.iaload, 1) := by decide +kernel
theorem dX16_number__137 : decode cX16_number_ 137 = .ok (.goto 4, 3) := by decide +kernel
theorem dX16_number__140 : decode cX16_number_ 140 = .ok (.iconst 0, 1) := by decide +kernel
theorem dX16_number__141 : decode cX16_number_ 141 = .ok (.ireturn, 1) := by decide +kernel
theorem dX16_number__142 : decode cX16_number_ 142 = .ok (.iload_n 3, 1) := by decide +kernel
theorem dX16_number__143 : decode cX16_number_ 143 = .ok (.ifCond .lt 21, 3) := by decide +kernel
theorem dX16_number__146 : decode cX16_number_ 146 = .ok (.iload_n 3, 1) := by decide +kernel
theorem dX16_number__147 : decode cX16_number_ 147 = .ok (.bipush 24, 2) := by decide +kernel
theorem dX16_number__149 : decode cX16_number_ 149 = .ok (.if_icmp .gt 15, 3) := by decide +kernel
theorem dX16_number__152 : decode cX16_number_ 152 = .ok (.iload 4, 2) := by decide +kernel
theorem dX16_number__154 : decode cX16_number_ 154 = .ok (.ifCond .lt 10, 3) := by decide +kernel
theorem dX16_number__157 : decode cX16_number_ 157 = .ok (.iload 4, 2) := by decide +kernel
theorem dX16_number__159 : decode cX16_number_ 159 = .ok (.bipush 12, 2) := by decide +kernel
theorem dX16_number__161 : decode cX16_number_ 161 = .ok (.if_icmp .le 7, 3) := by decide +kernel
theorem dX16_number__164 : decode cX16_number_ 164 = .ok (.iconst 0, 1) := by decide +kernel
theorem dX16_number__165 : decode cX16_number_ 165 = .ok (.goto 28, 3) := by decide +kernel
theorem dX16_number__168 : decode cX16_number_ 168 = .ok (.iload_n 2, 1) := by decide +kernel
theorem dX16_number__169 : decode cX16_number_ 169 = .ok (.ifCond .ne 11, 3) := by decide +kernel
theorem dX16_number__172 : decode cX16_number_ 172 = .ok (.aload 5, 2) := by decide +kernel
theorem dX16_number__174 : decode cX16_number_ 174 = .ok (.getfield 207, 3) := by decide +kernel
theorem dX16_number__177 : decode cX16_number_ 177 = .ok (.goto 8, 3) := by decide +kernel
theorem dX16_number__180 : decode cX16_number_ 180 = .ok (.aload 5, 2) := by decide +kernel
theorem dX16_number__182 : decode cX16_number_ 182 = .ok (.getfield 210, 3) := by decide +kernel
theorem dX16_number__185 : decode cX16_number_ 185 = .ok (.bipush 25, 2) := by decide +kernel
theorem dX16_number__187 : decode cX16_number_ 187 = .ok (.iload 4, 2) := by decide +kernel
theorem dX16_number__189 : decode cX16_number_ 189 = .ok (.imul, 1) := by decide +kernel
theorem dX16_number__190 : decode cX16_number_ 190 = .ok (.iload_n 3, 1) := by decide +kernel
theorem dX16_number__191 : decode cX16_number_ 191 = .ok (.iadd, 1) := by decide +kernel
theorem dX16_number__192 : decode cX16_number_ 192 = .ok (.iaload, 1) := by decide +kernel
theorem dX16_number__193 : decode cX16_number_ 193 = .ok (.ireturn, 1) := by decide +kernel
theorem dX16_told_0 : decode cX16_told 0 = .ok (.iload_n 1, 1) := by decide +kernel
theorem dX16_told_1 : decode cX16_told 1 = .ok (.invokestatic 551, 3) := by decide +kernel
theorem dX16_told_4 : decode cX16_told 4 = .ok (.ifCond .ne 5, 3) := by decide +kernel
theorem dX16_told_7 : decode cX16_told 7 = .ok (.iconst (-1), 1) := by decide +kernel
theorem dX16_told_8 : decode cX16_told 8 = .ok (.ireturn, 1) := by decide +kernel
theorem dX16_told_9 : decode cX16_told 9 = .ok (.aload_n 0, 1) := by decide +kernel
theorem dX16_told_10 : decode cX16_told 10 = .ok (.getfield 450, 3) := by decide +kernel
theorem dX16_told_13 : decode cX16_told 13 = .ok (.iload_n 1, 1) := by decide +kernel
theorem dX16_told_14 : decode cX16_told 14 = .ok (.aaload, 1) := by decide +kernel
theorem dX16_told_15 : decode cX16_told 15 = .ok (.astore_n 3, 1) := by decide +kernel
theorem dX16_told_16 : decode cX16_told 16 = .ok (.iload_n 2, 1) := by decide +kernel
theorem dX16_told_17 : decode cX16_told 17 = .ok (.iconst 2, 1) := by decide +kernel
theorem dX16_told_18 : decode cX16_told 18 = .ok (.if_icmp .gt 19, 3) := by decide +kernel
theorem dX16_told_21 : decode cX16_told 21 = .ok (.aload_n 3, 1) := by decide +kernel
theorem dX16_told_22 : decode cX16_told 22 = .ok (.getfield 202, 3) := by decide +kernel
theorem dX16_told_25 : decode cX16_told 25 = .ok (.iconst 2, 1) := by decide +kernel
theorem dX16_told_26 : decode cX16_told 26 = .ok (.if_icmp .ne 7, 3) := by decide +kernel
theorem dX16_told_29 : decode cX16_told 29 = .ok (.iconst 1, 1) := by decide +kernel
theorem dX16_told_30 : decode cX16_told 30 = .ok (.goto 49, 3) := by decide +kernel
theorem dX16_told_33 : decode cX16_told 33 = .ok (.iconst 0, 1) := by decide +kernel
theorem dX16_told_34 : decode cX16_told 34 = .ok (.goto 45, 3) := by decide +kernel
theorem dX16_told_37 : decode cX16_told 37 = .ok (.iload_n 2, 1) := by decide +kernel
theorem dX16_told_38 : decode cX16_told 38 = .ok (.iconst 3, 1) := by decide +kernel
theorem dX16_told_39 : decode cX16_told 39 = .ok (.if_icmp .ne 27, 3) := by decide +kernel
theorem dX16_told_42 : decode cX16_told 42 = .ok (.aload_n 3, 1) := by decide +kernel
theorem dX16_told_43 : decode cX16_told 43 = .ok (.getfield 202, 3) := by decide +kernel
theorem dX16_told_46 : decode cX16_told 46 = .ok (.iconst 3, 1) := by decide +kernel
theorem dX16_told_47 : decode cX16_told 47 = .ok (.if_icmp .eq 11, 3) := by decide +kernel
theorem dX16_told_50 : decode cX16_told 50 = .ok (.aload_n 3, 1) := by decide +kernel
theorem dX16_told_51 : decode cX16_told 51 = .ok (.getfield 202, 3) := by decide +kernel
theorem dX16_told_54 : decode cX16_told 54 = .ok (.iconst 4, 1) := by decide +kernel
theorem dX16_told_55 : decode cX16_told 55 = .ok (.if_icmp .ne 7, 3) := by decide +kernel
theorem dX16_told_58 : decode cX16_told 58 = .ok (.iconst 1, 1) := by decide +kernel
theorem dX16_told_59 : decode cX16_told 59 = .ok (.goto 20, 3) := by decide +kernel
theorem dX16_told_62 : decode cX16_told 62 = .ok (.iconst 0, 1) := by decide +kernel
theorem dX16_told_63 : decode cX16_told 63 = .ok (.goto 16, 3) := by decide +kernel
theorem dX16_told_66 : decode cX16_told 66 = .ok (.aload_n 3, 1) := by decide +kernel
theorem dX16_told_67 : decode cX16_told 67 = .ok (.getfield 202, 3) := by decide +kernel
theorem dX16_told_70 : decode cX16_told 70 = .ok (.iconst 4, 1) := by decide +kernel
theorem dX16_told_71 : decode cX16_told 71 = .ok (.if_icmp .ne 7, 3) := by decide +kernel
theorem dX16_told_74 : decode cX16_told 74 = .ok (.iconst 1, 1) := by decide +kernel
theorem dX16_told_75 : decode cX16_told 75 = .ok (.goto 4, 3) := by decide +kernel
theorem dX16_told_78 : decode cX16_told 78 = .ok (.iconst 0, 1) := by decide +kernel
theorem dX16_told_79 : decode cX16_told 79 = .ok (.istore 4, 2) := by decide +kernel
theorem dX16_told_81 : decode cX16_told 81 = .ok (.iload_n 2, 1) := by decide +kernel
theorem dX16_told_82 : decode cX16_told 82 = .ok (.ifCond .lt 8, 3) := by decide +kernel
theorem dX16_told_85 : decode cX16_told 85 = .ok (.iload_n 2, 1) := by decide +kernel
theorem dX16_told_86 : decode cX16_told 86 = .ok (.iconst 4, 1) := by decide +kernel
theorem dX16_told_87 : decode cX16_told 87 = .ok (.if_icmp .le 5, 3) := by decide +kernel
theorem dX16_told_90 : decode cX16_told 90 = .ok (.iconst (-1), 1) := by decide +kernel
theorem dX16_told_91 : decode cX16_told 91 = .ok (.ireturn, 1) := by decide +kernel
theorem dX16_told_92 : decode cX16_told 92 = .ok (.iload 4, 2) := by decide +kernel
theorem dX16_told_94 : decode cX16_told 94 = .ok (.ifCond .ne 6, 3) := by decide +kernel
theorem dX16_told_97 : decode cX16_told 97 = .ok (.bipush (-3), 2) := by decide +kernel
theorem dX16_told_99 : decode cX16_told 99 = .ok (.ireturn, 1) := by decide +kernel
theorem dX16_told_100 : decode cX16_told 100 = .ok (.iload_n 2, 1) := by decide +kernel
theorem dX16_told_101 : decode cX16_told 101 = .ok (.ifCond .ne 10, 3) := by decide +kernel
theorem dX16_told_104 : decode cX16_told 104 = .ok (.aload_n 3, 1) := by decide +kernel
theorem dX16_told_105 : decode cX16_told 105 = .ok (.getfield 213, 3) := by decide +kernel
theorem dX16_told_108 : decode cX16_told 108 = .ok (.goto 43, 3) := by decide +kernel
theorem dX16_told_111 : decode cX16_told 111 = .ok (.iload_n 2, 1) := by decide +kernel
theorem dX16_told_112 : decode cX16_told 112 = .ok (.iconst 1, 1) := by decide +kernel
theorem dX16_told_113 : decode cX16_told 113 = .ok (.if_icmp .ne 10, 3) := by decide +kernel
theorem dX16_told_116 : decode cX16_told 116 = .ok (.aload_n 3, 1) := by decide +kernel
theorem dX16_told_117 : decode cX16_told 117 = .ok (.getfield 216, 3) := by decide +kernel
theorem dX16_told_120 : decode cX16_told 120 = .ok (.goto 31, 3) := by decide +kernel
theorem dX16_told_123 : decode cX16_told 123 = .ok (.iload_n 2, 1) := by decide +kernel
theorem dX16_told_124 : decode cX16_told 124 = .ok (.iconst 2, 1) := by decide +kernel
theorem dX16_told_125 : decode cX16_told 125 = .ok (.if_icmp .ne 10, 3) := by decide +kernel
theorem dX16_told_128 : decode cX16_told 128 = .ok (.aload_n 3, 1) := by decide +kernel
theorem dX16_told_129 : decode cX16_told 129 = .ok (.getfield 219, 3) := by decide +kernel
theorem dX16_told_132 : decode cX16_told 132 = .ok (.goto 19, 3) := by decide +kernel
theorem dX16_told_135 : decode cX16_told 135 = .ok (.iload_n 2, 1) := by decide +kernel
theorem dX16_told_136 : decode cX16_told 136 = .ok (.iconst 3, 1) := by decide +kernel
theorem dX16_told_137 : decode cX16_told 137 = .ok (.if_icmp .ne 10, 3) := by decide +kernel
theorem dX16_told_140 : decode cX16_told 140 = .ok (.aload_n 3, 1) := by decide +kernel
theorem dX16_told_141 : decode cX16_told 141 = .ok (.getfield 234, 3) := by decide +kernel
theorem dX16_told_144 : decode cX16_told 144 = .ok (.goto 7, 3) := by decide +kernel
theorem dX16_told_147 : decode cX16_told 147 = .ok (.aload_n 3, 1) := by decide +kernel
theorem dX16_told_148 : decode cX16_told 148 = .ok (.getfield 240, 3) := by decide +kernel
theorem dX16_told_151 : decode cX16_told 151 = .ok (.ireturn, 1) := by decide +kernel
theorem dX16_factorial__0 : decode cX16_factorial_ 0 = .ok (.iload_n 1, 1) := by decide +kernel
theorem dX16_factorial__1 : decode cX16_factorial_ 1 = .ok (.invokestatic 551, 3) := by decide +kernel
theorem dX16_factorial__4 : decode cX16_factorial_ 4 = .ok (.ifCond .ne 5, 3) := by decide +kernel
theorem dX16_factorial__7 : decode cX16_factorial_ 7 = .ok (.iconst (-1), 1) := by decide +kernel
theorem dX16_factorial__8 : decode cX16_factorial_ 8 = .ok (.ireturn, 1) := by decide +kernel
theorem dX16_factorial__9 : decode cX16_factorial_ 9 = .ok (.aload_n 0, 1) := by decide +kernel
theorem dX16_factorial__10 : decode cX16_factorial_ 10 = .ok (.getfield 450, 3) := by decide +kernel
theorem dX16_factorial__13 : decode cX16_factorial_ 13 = .ok (.iload_n 1, 1) := by decide +kernel
theorem dX16_factorial__14 : decode cX16_factorial_ 14 = .ok (.aaload, 1) := by decide +kernel
theorem dX16_factorial__15 : decode cX16_factorial_ 15 = .ok (.astore 4, 2) := by decide +kernel
theorem dX16_factorial__17 : decode cX16_factorial_ 17 = .ok (.aload 4, 2) := by decide +kernel
theorem dX16_factorial__19 : decode cX16_factorial_ 19 = .ok (.getfield 202, 3) := by decide +kernel
theorem dX16_factorial__22 : decode cX16_factorial_ 22 = .ok (.iconst 2, 1) := by decide +kernel
theorem dX16_factorial__23 : decode cX16_factorial_ 23 = .ok (.if_icmp .ne 25, 3) := by decide +kernel
theorem dX16_factorial__26 : decode cX16_factorial_ 26 = .ok (.iload_n 2, 1) := by decide +kernel
theorem dX16_factorial__27 : decode cX16_factorial_ 27 = .ok (.ifCond .lt 21, 3) := by decide +kernel
theorem dX16_factorial__30 : decode cX16_factorial_ 30 = .ok (.iload_n 2, 1) := by decide +kernel
theorem dX16_factorial__31 : decode cX16_factorial_ 31 = .ok (.aload 4, 2) := by decide +kernel
theorem dX16_factorial__33 : decode cX16_factorial_ 33 = .ok (.getfield 219, 3) := by decide +kernel
theorem dX16_factorial__36 : decode cX16_factorial_ 36 = .ok (.if_icmp .ge 12, 3) := by decide +kernel
theorem dX16_factorial__39 : decode cX16_factorial_ 39 = .ok (.iload_n 3, 1) := by decide +kernel
theorem dX16_factorial__40 : decode cX16_factorial_ 40 = .ok (.ifCond .lt 8, 3) := by decide +kernel
theorem dX16_factorial__43 : decode cX16_factorial_ 43 = .ok (.iload_n 3, 1) := by decide +kernel
theorem dX16_factorial__44 : decode cX16_factorial_ 44 = .ok (.iconst 3, 1) := by decide +kernel
theorem dX16_factorial__45 : decode cX16_factorial_ 45 = .ok (.if_icmp .le 5, 3) := by decide +kernel
theorem dX16_factorial__48 : decode cX16_factorial_ 48 = .ok (.iconst 0, 1) := by decide +kernel
theorem dX16_factorial__49 : decode cX16_factorial_ 49 = .ok (.ireturn, 1) := by decide +kernel
theorem dX16_factorial__50 : decode cX16_factorial_ 50 = .ok (.iload_n 3, 1) := by decide +kernel
theorem dX16_factorial__51 : decode cX16_factorial_ 51 = .ok (.ifCond .ne 13, 3) := by decide +kernel
theorem dX16_factorial__54 : decode cX16_factorial_ 54 = .ok (.aload 4, 2) := by decide +kernel
theorem dX16_factorial__56 : decode cX16_factorial_ 56 = .ok (.getfield 222, 3) := by decide +kernel
theorem dX16_factorial__59 : decode cX16_factorial_ 59 = .ok (.iload_n 2, 1) := by decide +kernel
theorem dX16_factorial__60 : decode cX16_factorial_ 60 = .ok (.iaload, 1) := by decide +kernel
theorem dX16_factorial__61 : decode cX16_factorial_ 61 = .ok (.goto 40, 3) := by decide +kernel
theorem dX16_factorial__64 : decode cX16_factorial_ 64 = .ok (.iload_n 3, 1) := by decide +kernel
theorem dX16_factorial__65 : decode cX16_factorial_ 65 = .ok (.iconst 1, 1) := by decide +kernel
theorem dX16_factorial__66 : decode cX16_factorial_ 66 = .ok (.if_icmp .ne 13, 3) := by decide +kernel
theorem dX16_factorial__69 : decode cX16_factorial_ 69 = .ok (.aload 4, 2) := by decide +kernel
theorem dX16_factorial__71 : decode cX16_factorial_ 71 = .ok (.getfield 225, 3) := by decide +kernel
theorem dX16_factorial__74 : decode cX16_factorial_ 74 = .ok (.iload_n 2, 1) := by decide +kernel
theorem dX16_factorial__75 : decode cX16_factorial_ 75 = .ok (.iaload, 1) := by decide +kernel
theorem dX16_factorial__76 : decode cX16_factorial_ 76 = .ok (.goto 25, 3) := by decide +kernel
theorem dX16_factorial__79 : decode cX16_factorial_ 79 = .ok (.iload_n 3, 1) := by decide +kernel
theorem dX16_factorial__80 : decode cX16_factorial_ 80 = .ok (.iconst 2, 1) := by decide +kernel
theorem dX16_factorial__81 : decode cX16_factorial_ 81 = .ok (.if_icmp .ne 13, 3) := by decide +kernel
theorem dX16_factorial__84 : decode cX16_factorial_ 84 = .ok (.aload 4, 2) := by decide +kernel
theorem dX16_factorial__86 : decode cX16_factorial_ 86 = .ok (.getfield 228, 3) := by decide +kernel
theorem dX16_factorial__89 : decode cX16_factorial_ 89 = .ok (.iload_n 2, 1) := by decide +kernel
theorem dX16_factorial__90 : decode cX16_factorial_ 90 = .ok (.iaload, 1) := by decide +kernel
theorem dX16_factorial__91 : decode cX16_factorial_ 91 = .ok (.goto 10, 3) := by decide +kernel
theorem dX16_factorial__94 : decode cX16_factorial_ 94 = .ok (.aload 4, 2) := by decide +kernel
theorem dX16_factorial__96 : decode cX16_factorial_ 96 = .ok (.getfield 231, 3) := by decide +kernel
theorem dX16_factorial__99 : decode cX16_factorial_ 99 = .ok (.iload_n 2, 1) := by decide +kernel
theorem dX16_factorial__100 : decode cX16_factorial_ 100 = .ok (.iaload, 1) := by decide +kernel
theorem dX16_factorial__101 : decode cX16_factorial_ 101 = .ok (.ireturn, 1) := by decide +kernel
theorem dX16_work_0 : decode cX16_work 0 = .ok (.iload_n 2, 1) := by decide +kernel
theorem dX16_work_1 : decode cX16_work 1 = .ok (.invokestatic 551, 3) := by decide +kernel
theorem dX16_work_4 : decode cX16_work 4 = .ok (.ifCond .eq 18, 3) := by decide +kernel
theorem dX16_work_7 : decode cX16_work 7 = .ok (.iload_n 3, 1) := by decide +kernel
theorem dX16_work_8 : decode cX16_work 8 = .ok (.invokestatic 551, 3) := by decide +kernel
theorem dX16_work_11 : decode cX16_work 11 = .ok (.ifCond .eq 11, 3) := by decide +kernel
theorem dX16_work_14 : decode cX16_work 14 = .ok (.iload 4, 2) := by decide +kernel
theorem dX16_work_16 : decode cX16_work 16 = .ok (.invokestatic 551, 3) := by decide +kernel
theorem dX16_work_19 : decode cX16_work 19 = .ok (.ifCond .ne 5, 3) := by decide +kernel
theorem dX16_work_22 : decode cX16_work 22 = .ok (.iconst (-1), 1) := by decide +kernel
theorem dX16_work_23 : decode cX16_work 23 = .ok (.ireturn, 1) := by decide +kernel
theorem dX16_work_24 : decode cX16_work 24 = .ok (.aload_n 0, 1) := by decide +kernel
theorem dX16_work_25 : decode cX16_work 25 = .ok (.getfield 450, 3) := by decide +kernel
theorem dX16_work_28 : decode cX16_work 28 = .ok (.iload_n 2, 1) := by decide +kernel
theorem dX16_work_29 : decode cX16_work 29 = .ok (.aaload, 1) := by decide +kernel
theorem dX16_work_30 : decode cX16_work 30 = .ok (.astore 5, 2) := by decide +kernel
theorem dX16_work_32 : decode cX16_work 32 = .ok (.aload_n 0, 1) := by decide +kernel
theorem dX16_work_33 : decode cX16_work 33 = .ok (.getfield 450, 3) := by decide +kernel
theorem dX16_work_36 : decode cX16_work 36 = .ok (.iload_n 3, 1) := by decide +kernel
theorem dX16_work_37 : decode cX16_work 37 = .ok (.aaload, 1) := by decide +kernel
theorem dX16_work_38 : decode cX16_work 38 = .ok (.astore 6, 2) := by decide +kernel
theorem dX16_work_40 : decode cX16_work 40 = .ok (.aload 5, 2) := by decide +kernel
theorem dX16_work_42 : decode cX16_work 42 = .ok (.getfield 202, 3) := by decide +kernel
theorem dX16_work_45 : decode cX16_work 45 = .ok (.iconst 1, 1) := by decide +kernel
theorem dX16_work_46 : decode cX16_work 46 = .ok (.if_icmp .eq 12, 3) := by decide +kernel
theorem dX16_work_49 : decode cX16_work 49 = .ok (.aload 5, 2) := by decide +kernel
theorem dX16_work_51 : decode cX16_work 51 = .ok (.getfield 202, 3) := by decide +kernel
theorem dX16_work_54 : decode cX16_work 54 = .ok (.iconst 2, 1) := by decide +kernel
theorem dX16_work_55 : decode cX16_work 55 = .ok (.if_icmp .ne 21, 3) := by decide +kernel
theorem dX16_work_58 : decode cX16_work 58 = .ok (.aload 6, 2) := by decide +kernel
theorem dX16_work_60 : decode cX16_work 60 = .ok (.getfield 202, 3) := by decide +kernel
theorem dX16_work_63 : decode cX16_work 63 = .ok (.iconst 1, 1) := by decide +kernel
theorem dX16_work_64 : decode cX16_work 64 = .ok (.if_icmp .eq 15, 3) := by decide +kernel
theorem dX16_work_67 : decode cX16_work 67 = .ok (.aload 6, 2) := by decide +kernel
theorem dX16_work_69 : decode cX16_work 69 = .ok (.getfield 202, 3) := by decide +kernel
theorem dX16_work_72 : decode cX16_work 72 = .ok (.iconst 2, 1) := by decide +kernel
theorem dX16_work_73 : decode cX16_work 73 = .ok (.if_icmp .eq 6, 3) := by decide +kernel
theorem dX16_work_76 : decode cX16_work 76 = .ok (.bipush (-3), 2) := by decide +kernel
theorem dX16_work_78 : decode cX16_work 78 = .ok (.ireturn, 1) := by decide +kernel
theorem dX16_work_79 : decode cX16_work 79 = .ok (.iload_n 1, 1) := by decide +kernel
theorem dX16_work_80 : decode cX16_work 80 = .ok (.ifCond .lt 9, 3) := by decide +kernel
theorem dX16_work_83 : decode cX16_work 83 = .ok (.iload_n 1, 1) := by decide +kernel
theorem dX16_work_84 : decode cX16_work 84 = .ok (.bipush 6, 2) := by decide +kernel
theorem dX16_work_86 : decode cX16_work 86 = .ok (.if_icmp .le 5, 3) := by decide +kernel
theorem dX16_work_89 : decode cX16_work 89 = .ok (.iconst (-1), 1) := by decide +kernel
theorem dX16_work_90 : decode cX16_work 90 = .ok (.ireturn, 1) := by decide +kernel
theorem dX16_work_91 : decode cX16_work 91 = .ok (.iload_n 1, 1) := by decide +kernel
theorem dX16_work_92 : decode cX16_work 92 = .ok (.iconst 2, 1) := by decide +kernel
theorem dX16_work_93 : decode cX16_work 93 = .ok (.if_icmp .ge 21, 3) := by decide +kernel
theorem dX16_work_96 : decode cX16_work 96 = .ok (.aload 5, 2) := by decide +kernel
theorem dX16_work_98 : decode cX16_work 98 = .ok (.getfield 202, 3) := by decide +kernel
theorem dX16_work_101 : decode cX16_work 101 = .ok (.iconst 2, 1) := by decide +kernel
theorem dX16_work_102 : decode cX16_work 102 = .ok (.if_icmp .eq 33, 3) := by decide +kernel
theorem dX16_work_105 : decode cX16_work 105 = .ok (.aload 6, 2) := by decide +kernel
theorem dX16_work_107 : decode cX16_work 107 = .ok (.getfield 202, 3) := by decide +kernel
theorem dX16_work_110 : decode cX16_work 110 = .ok (.iconst 2, 1) := by decide +kernel
theorem dX16_work_111 : decode cX16_work 111 = .ok (.if_icmp .eq 24, 3) := by decide +kernel
theorem dX16_work_114 : decode cX16_work 114 = .ok (.iload_n 1, 1) := by decide +kernel
theorem dX16_work_115 : decode cX16_work 115 = .ok (.iconst 3, 1) := by decide +kernel
theorem dX16_work_116 : decode cX16_work 116 = .ok (.if_icmp .le 22, 3) := by decide +kernel
theorem dX16_work_119 : decode cX16_work 119 = .ok (.aload 5, 2) := by decide +kernel
theorem dX16_work_121 : decode cX16_work 121 = .ok (.invokestatic 637, 3) := by decide +kernel
theorem dX16_work_124 : decode cX16_work 124 = .ok (.ifCond .eq 11, 3) := by decide +kernel
theorem dX16_work_127 : decode cX16_work 127 = .ok (.aload 6, 2) := by decide +kernel
theorem dX16_work_129 : decode cX16_work 129 = .ok (.invokestatic 637, 3) := by decide +kernel
theorem dX16_work_132 : decode cX16_work 132 = .ok (.ifCond .ne 6, 3) := by decide +kernel
theorem dX16_work_135 : decode cX16_work 135 = .ok (.bipush (-3), 2) := by decide +kernel
theorem dX16_work_137 : decode cX16_work 137 = .ok (.ireturn, 1) := by decide +kernel
theorem dX16_work_138 : decode cX16_work 138 = .ok (.aload_n 0, 1) := by decide +kernel
theorem dX16_work_139 : decode cX16_work 139 = .ok (.invokevirtual 555, 3) := by decide +kernel
theorem dX16_work_142 : decode cX16_work 142 = .ok (.aload_n 0, 1) := by decide +kernel
theorem dX16_work_143 : decode cX16_work 143 = .ok (.getfield 453, 3) := by decide +kernel
theorem dX16_work_146 : decode cX16_work 146 = .ok (.aload 5, 2) := by decide +kernel
theorem dX16_work_148 : decode cX16_work 148 = .ok (.invokestatic 547, 3) := by decide +kernel
theorem dX16_work_151 : decode cX16_work 151 = .ok (.iload_n 1, 1) := by decide +kernel
theorem dX16_work_152 : decode cX16_work 152 = .ok (.iconst 2, 1) := by decide +kernel
theorem dX16_work_153 : decode cX16_work 153 = .ok (.if_icmp .ge 38, 3) := by decide +kernel
theorem dX16_work_156 : decode cX16_work 156 = .ok (.aload_n 0, 1) := by decide +kernel
theorem dX16_work_157 : decode cX16_work 157 = .ok (.aload_n 0, 1) := by decide +kernel
theorem dX16_work_158 : decode cX16_work 158 = .ok (.getfield 453, 3) := by decide +kernel
theorem dX16_work_161 : decode cX16_work 161 = .ok (.aload 6, 2) := by decide +kernel
theorem dX16_work_163 : decode cX16_work 163 = .ok (.iload_n 1, 1) := by decide +kernel
theorem dX16_work_164 : decode cX16_work 164 = .ok (.iconst 1, 1) := by decide +kernel
theorem dX16_work_165 : decode cX16_work 165 = .ok (.if_icmp .ne 7, 3) := by decide +kernel
theorem dX16_work_168 : decode cX16_work 168 = .ok (.iconst 1, 1) := by decide +kernel
theorem dX16_work_169 : decode cX16_work 169 = .ok (.goto 4, 3) := by decide +kernel
theorem dX16_work_172 : decode cX16_work 172 = .ok (.iconst 0, 1) := by decide +kernel
theorem dX16_work_173 : decode cX16_work 173 = .ok (.invokevirtual 382, 3) := by decide +kernel
theorem dX16_work_176 : decode cX16_work 176 = .ok (.ifCond .eq 12, 3) := by decide +kernel
theorem dX16_work_179 : decode cX16_work 179 = .ok (.aload_n 0, 1) := by decide +kernel
theorem dX16_work_180 : decode cX16_work 180 = .ok (.iload 4, 2) := by decide +kernel
theorem dX16_work_182 : decode cX16_work 182 = .ok (.invokevirtual 558, 3) := by decide +kernel
theorem dX16_work_185 : decode cX16_work 185 = .ok (.goto 5, 3) := by decide +kernel
theorem dX16_work_188 : decode cX16_work 188 = .ok (.bipush (-2), 2) := by decide +kernel
theorem dX16_work_190 : decode cX16_work 190 = .ok (.ireturn, 1) := by decide +kernel
theorem dX16_work_191 : decode cX16_work 191 = .ok (.iload_n 1, 1) := by decide +kernel
theorem dX16_work_192 : decode cX16_work 192 = .ok (.iconst 4, 1) := by decide +kernel
theorem dX16_work_193 : decode cX16_work 193 = .ok (.if_icmp .ge 53, 3) := by decide +kernel
theorem dX16_work_196 : decode cX16_work 196 = .ok (.iload_n 1, 1) := by decide +kernel
theorem dX16_work_197 : decode cX16_work 197 = .ok (.iconst 3, 1) := by decide +kernel
theorem dX16_work_198 : decode cX16_work 198 = .ok (.if_icmp .ne 13, 3) := by decide +kernel
theorem dX16_work_201 : decode cX16_work 201 = .ok (.aload 6, 2) := by decide +kernel
theorem dX16_work_203 : decode cX16_work 203 = .ok (.invokestatic 288, 3) := by decide +kernel
theorem dX16_work_206 : decode cX16_work 206 = .ok (.ifCond .eq 5, 3) := by decide +kernel
theorem dX16_work_209 : decode cX16_work 209 = .ok (.iconst (-1), 1) := by decide +kernel
theorem dX16_work_210 : decode cX16_work 210 = .ok (.ireturn, 1) := by decide +kernel
theorem dX16_work_211 : decode cX16_work 211 = .ok (.aload_n 0, 1) := by decide +kernel
theorem dX16_work_212 : decode cX16_work 212 = .ok (.aload_n 0, 1) := by decide +kernel
theorem dX16_work_213 : decode cX16_work 213 = .ok (.getfield 453, 3) := by decide +kernel
theorem dX16_work_216 : decode cX16_work 216 = .ok (.aload 6, 2) := by decide +kernel
theorem dX16_work_218 : decode cX16_work 218 = .ok (.iload_n 1, 1) := by decide +kernel
theorem dX16_work_219 : decode cX16_work 219 = .ok (.iconst 3, 1) := by decide +kernel
theorem dX16_work_220 : decode cX16_work 220 = .ok (.if_icmp .ne 7, 3) := by decide +kernel
theorem dX16_work_223 : decode cX16_work 223 = .ok (.iconst 1, 1) := by decide +kernel
theorem dX16_work_224 : decode cX16_work 224 = .ok (.goto 4, 3) := by decide +kernel
theorem dX16_work_227 : decode cX16_work 227 = .ok (.iconst 0, 1) := by decide +kernel
theorem dX16_work_228 : decode cX16_work 228 = .ok (.invokevirtual 388, 3) := by decide +kernel
theorem dX16_work_231 : decode cX16_work 231 = .ok (.ifCond .eq 12, 3) := by decide +kernel
theorem dX16_work_234 : decode cX16_work 234 = .ok (.aload_n 0, 1) := by decide +kernel
theorem dX16_work_235 : decode cX16_work 235 = .ok (.iload 4, 2) := by decide +kernel
theorem dX16_work_237 : decode cX16_work 237 = .ok (.invokevirtual 558, 3) := by decide +kernel
theorem dX16_work_240 : decode cX16_work 240 = .ok (.goto 5, 3) := by decide +kernel
theorem dX16_work_243 : decode cX16_work 243 = .ok (.bipush (-2), 2) := by decide +kernel
theorem dX16_work_245 : decode cX16_work 245 = .ok (.ireturn, 1) := by decide +kernel
theorem dX16_work_246 : decode cX16_work 246 = .ok (.aload_n 0, 1) := by decide +kernel
theorem dX16_work_247 : decode cX16_work 247 = .ok (.invokevirtual 140, 3) := by decide +kernel
theorem dX16_work_250 : decode cX16_work 250 = .ok (.astore 7, 2) := by decide +kernel
theorem dX16_work_252 : decode cX16_work 252 = .ok (.aload_n 0, 1) := by decide +kernel
theorem dX16_work_253 : decode cX16_work 253 = .ok (.invokevirtual 140, 3) := by decide +kernel
theorem dX16_work_256 : decode cX16_work 256 = .ok (.astore 8, 2) := by decide +kernel
theorem dX16_work_258 : decode cX16_work 258 = .ok (.aload_n 0, 1) := by decide +kernel
theorem dX16_work_259 : decode cX16_work 259 = .ok (.invokevirtual 140, 3) := by decide +kernel
theorem dX16_work_262 : decode cX16_work 262 = .ok (.astore 9, 2) := by decide +kernel
theorem dX16_work_264 : decode cX16_work 264 = .ok (.aload_n 0, 1) := by decide +kernel
theorem dX16_work_265 : decode cX16_work 265 = .ok (.invokevirtual 140, 3) := by decide +kernel
theorem dX16_work_268 : decode cX16_work 268 = .ok (.astore 10, 2) := by decide +kernel
theorem dX16_work_270 : decode cX16_work 270 = .ok (.aload 7, 2) := by decide +kernel
theorem dX16_work_272 : decode cX16_work 272 = .ok (.aload 5, 2) := by decide +kernel
theorem dX16_work_274 : decode cX16_work 274 = .ok (.getfield 207, 3) := by decide +kernel
theorem dX16_work_277 : decode cX16_work 277 = .ok (.invokestatic 295, 3) := by decide +kernel
theorem dX16_work_280 : decode cX16_work 280 = .ok (.aload 8, 2) := by decide +kernel
theorem dX16_work_282 : decode cX16_work 282 = .ok (.aload 6, 2) := by decide +kernel
theorem dX16_work_284 : decode cX16_work 284 = .ok (.getfield 207, 3) := by decide +kernel
theorem dX16_work_287 : decode cX16_work 287 = .ok (.invokestatic 295, 3) := by decide +kernel
theorem dX16_work_290 : decode cX16_work 290 = .ok (.aload 10, 2) := by decide +kernel
theorem dX16_work_292 : decode cX16_work 292 = .ok (.iconst 1, 1) := by decide +kernel
theorem dX16_work_293 : decode cX16_work 293 = .ok (.invokevirtual 158, 3) := by decide +kernel
theorem dX16_work_296 : decode cX16_work 296 = .ok (.iconst 1, 1) := by decide +kernel
theorem dX16_work_297 : decode cX16_work 297 = .ok (.istore 11, 2) := by decide +kernel
theorem dX16_work_299 : decode cX16_work 299 = .ok (.iload_n 1, 1) := by decide +kernel
theorem dX16_work_300 : decode cX16_work 300 = .ok (.iconst 4, 1) := by decide +kernel
theorem dX16_work_301 : decode cX16_work 301 = .ok (.if_icmp .ne 16, 3) := by decide +kernel
theorem dX16_work_304 : decode cX16_work 304 = .ok (.aload_n 0, 1) := by decide +kernel
theorem dX16_work_305 : decode cX16_work 305 = .ok (.aload 9, 2) := by decide +kernel
theorem dX16_work_307 : decode cX16_work 307 = .ok (.aload 7, 2) := by decide +kernel
theorem dX16_work_309 : decode cX16_work 309 = .ok (.aload 8, 2) := by decide +kernel
theorem dX16_work_311 : decode cX16_work 311 = .ok (.invokevirtual 185, 3) := by decide +kernel
theorem dX16_work_314 : decode cX16_work 314 = .ok (.goto 26, 3) := by decide +kernel
theorem dX16_work_317 : decode cX16_work 317 = .ok (.aload_n 0, 1) := by decide +kernel
theorem dX16_work_318 : decode cX16_work 318 = .ok (.aload 9, 2) := by decide +kernel
theorem dX16_work_320 : decode cX16_work 320 = .ok (.aload 7, 2) := by decide +kernel
theorem dX16_work_322 : decode cX16_work 322 = .ok (.aload 8, 2) := by decide +kernel
theorem dX16_work_324 : decode cX16_work 324 = .ok (.iload_n 1, 1) := by decide +kernel
theorem dX16_work_325 : decode cX16_work 325 = .ok (.bipush 6, 2) := by decide +kernel
theorem dX16_work_327 : decode cX16_work 327 = .ok (.if_icmp .ne 7, 3) := by decide +kernel
theorem dX16_work_330 : decode cX16_work 330 = .ok (.iconst 1, 1) := by decide +kernel
theorem dX16_work_331 : decode cX16_work 331 = .ok (.goto 4, 3) := by decide +kernel
theorem dX16_work_334 : decode cX16_work 334 = .ok (.iconst 0, 1) := by decide +kernel
theorem dX16_work_335 : decode cX16_work 335 = .ok (.invokevirtual 640, 3) := by decide +kernel
theorem dX16_work_338 : decode cX16_work 338 = .ok (.istore 11, 2) := by decide +kernel
theorem dX16_work_340 : decode cX16_work 340 = .ok (.iload 11, 2) := by decide +kernel
theorem dX16_work_342 : decode cX16_work 342 = .ok (.ifCond .eq 26, 3) := by decide +kernel
theorem dX16_work_345 : decode cX16_work 345 = .ok (.aload_n 0, 1) := by decide +kernel
theorem dX16_work_346 : decode cX16_work 346 = .ok (.getfield 453, 3) := by decide +kernel
theorem dX16_work_349 : decode cX16_work 349 = .ok (.aload 9, 2) := by decide +kernel
theorem dX16_work_351 : decode cX16_work 351 = .ok (.aload 10, 2) := by decide +kernel
theorem dX16_work_353 : decode cX16_work 353 = .ok (.invokestatic 261, 3) := by decide +kernel
theorem dX16_work_356 : decode cX16_work 356 = .ok (.ifCond .eq 12, 3) := by decide +kernel
theorem dX16_work_359 : decode cX16_work 359 = .ok (.aload_n 0, 1) := by decide +kernel
theorem dX16_work_360 : decode cX16_work 360 = .ok (.iload 4, 2) := by decide +kernel
theorem dX16_work_362 : decode cX16_work 362 = .ok (.invokevirtual 558, 3) := by decide +kernel
theorem dX16_work_365 : decode cX16_work 365 = .ok (.goto 5, 3) := by decide +kernel
theorem dX16_work_368 : decode cX16_work 368 = .ok (.bipush (-2), 2) := by decide +kernel
theorem dX16_work_370 : decode cX16_work 370 = .ok (.ireturn, 1) := by decide +kernel
theorem dX16_change_0 : decode cX16_change 0 = .ok (.iload_n 2, 1) := by decide +kernel
theorem dX16_change_1 : decode cX16_change 1 = .ok (.invokestatic 551, 3) := by decide +kernel
theorem dX16_change_4 : decode cX16_change 4 = .ok (.ifCond .eq 11, 3) := by decide +kernel
theorem dX16_change_7 : decode cX16_change 7 = .ok (.iload 4, 2) := by decide +kernel
theorem dX16_change_9 : decode cX16_change 9 = .ok (.invokestatic 551, 3) := by decide +kernel
theorem dX16_change_12 : decode cX16_change 12 = .ok (.ifCond .ne 5, 3) := by decide +kernel
theorem dX16_change_15 : decode cX16_change 15 = .ok (.iconst (-1), 1) := by decide +kernel
theorem dX16_change_16 : decode cX16_change 16 = .ok (.ireturn, 1) := by decide +kernel
theorem dX16_change_17 : decode cX16_change 17 = .ok (.aload_n 0, 1) := by decide +kernel
theorem dX16_change_18 : decode cX16_change 18 = .ok (.getfield 450, 3) := by decide +kernel
theorem dX16_change_21 : decode cX16_change 21 = .ok (.iload_n 2, 1) := by decide +kernel
theorem dX16_change_22 : decode cX16_change 22 = .ok (.aaload, 1) := by decide +kernel
theorem dX16_change_23 : decode cX16_change 23 = .ok (.astore 5, 2) := by decide +kernel
theorem dX16_change_25 : decode cX16_change 25 = .ok (.aload_n 0, 1) := by decide +kernel
theorem dX16_change_26 : decode cX16_change 26 = .ok (.invokevirtual 555, 3) := by decide +kernel
theorem dX16_change_29 : decode cX16_change 29 = .ok (.iload_n 1, 1) := by decide +kernel
theorem dX16_change_30 : decode cX16_change 30 = .ok (.bipush 10, 2) := by decide +kernel
theorem dX16_change_32 : decode cX16_change 32 = .ok (.if_icmp .ne 22, 3) := by decide +kernel
theorem dX16_change_35 : decode cX16_change 35 = .ok (.aload_n 0, 1) := by decide +kernel
theorem dX16_change_36 : decode cX16_change 36 = .ok (.aload_n 0, 1) := by decide +kernel
theorem dX16_change_37 : decode cX16_change 37 = .ok (.getfield 453, 3) := by decide +kernel
theorem dX16_change_40 : decode cX16_change 40 = .ok (.iload_n 3, 1) := by decide +kernel
theorem dX16_change_41 : decode cX16_change 41 = .ok (.invokestatic 600, 3) := by decide +kernel
theorem dX16_change_44 : decode cX16_change 44 = .ok (.invokevirtual 292, 3) := by decide +kernel
theorem dX16_change_47 : decode cX16_change 47 = .ok (.aload_n 0, 1) := by decide +kernel
theorem dX16_change_48 : decode cX16_change 48 = .ok (.iload 4, 2) := by decide +kernel
theorem dX16_change_50 : decode cX16_change 50 = .ok (.invokevirtual 558, 3) := by decide +kernel
theorem dX16_change_53 : decode cX16_change 53 = .ok (.ireturn, 1) := by decide +kernel
theorem dX16_change_54 : decode cX16_change 54 = .ok (.aload 5, 2) := by decide +kernel
theorem dX16_change_56 : decode cX16_change 56 = .ok (.getfield 202, 3) := by decide +kernel
theorem dX16_change_59 : decode cX16_change 59 = .ok (.iconst 1, 1) := by decide +kernel
theorem dX16_change_60 : decode cX16_change 60 = .ok (.if_icmp .eq 15, 3) := by decide +kernel
theorem dX16_change_63 : decode cX16_change 63 = .ok (.aload 5, 2) := by decide +kernel
theorem dX16_change_65 : decode cX16_change 65 = .ok (.getfield 202, 3) := by decide +kernel
theorem dX16_change_68 : decode cX16_change 68 = .ok (.iconst 2, 1) := by decide +kernel
theorem dX16_change_69 : decode cX16_change 69 = .ok (.if_icmp .eq 6, 3) := by decide +kernel
theorem dX16_change_72 : decode cX16_change 72 = .ok (.bipush (-3), 2) := by decide +kernel
theorem dX16_change_74 : decode cX16_change 74 = .ok (.ireturn, 1) := by decide +kernel
theorem dX16_change_75 : decode cX16_change 75 = .ok (.iload_n 1, 1) := by decide +kernel
theorem dX16_change_76 : decode cX16_change 76 = .ok (.ifCond .lt 9, 3) := by decide +kernel
theorem dX16_change_79 : decode cX16_change 79 = .ok (.iload_n 1, 1) := by decide +kernel
theorem dX16_change_80 : decode cX16_change 80 = .ok (.bipush 11, 2) := by decide +kernel
theorem dX16_change_82 : decode cX16_change 82 = .ok (.if_icmp .le 5, 3) := by decide +kernel
theorem dX16_change_85 : decode cX16_change 85 = .ok (.iconst (-1), 1) := by decide +kernel
theorem dX16_change_86 : decode cX16_change 86 = .ok (.ireturn, 1) := by decide +kernel
theorem dX16_change_87 : decode cX16_change 87 = .ok (.aload 5, 2) := by decide +kernel
theorem dX16_change_89 : decode cX16_change 89 = .ok (.getfield 202, 3) := by decide +kernel
theorem dX16_change_92 : decode cX16_change 92 = .ok (.iconst 2, 1) := by decide +kernel
theorem dX16_change_93 : decode cX16_change 93 = .ok (.if_icmp .ne 23, 3) := by decide +kernel
theorem dX16_change_96 : decode cX16_change 96 = .ok (.iload_n 1, 1) := by decide +kernel
theorem dX16_change_97 : decode cX16_change 97 = .ok (.iconst 1, 1) := by decide +kernel
theorem dX16_change_98 : decode cX16_change 98 = .ok (.if_icmp .le 27, 3) := by decide +kernel
theorem dX16_change_101 : decode cX16_change 101 = .ok (.iload_n 1, 1) := by decide +kernel
theorem dX16_change_102 : decode cX16_change 102 = .ok (.bipush 9, 2) := by decide +kernel
theorem dX16_change_104 : decode cX16_change 104 = .ok (.if_icmp .eq 21, 3) := by decide +kernel
theorem dX16_change_107 : decode cX16_change 107 = .ok (.iload_n 1, 1) := by decide +kernel
theorem dX16_change_108 : decode cX16_change 108 = .ok (.bipush 11, 2) := by decide +kernel
theorem dX16_change_110 : decode cX16_change 110 = .ok (.if_icmp .eq 15, 3) := by decide +kernel
theorem dX16_change_113 : decode cX16_change 113 = .ok (.goto 9, 3) := by decide +kernel
theorem dX16_change_116 : decode cX16_change 116 = .ok (.iload_n 1, 1) := by decide +kernel
theorem dX16_change_117 : decode cX16_change 117 = .ok (.bipush 11, 2) := by decide +kernel
theorem dX16_change_119 : decode cX16_change 119 = .ok (.if_icmp .ne 6, 3) := by decide +kernel
theorem dX16_change_122 : decode cX16_change 122 = .ok (.bipush (-3), 2) := by decide +kernel
theorem dX16_change_124 : decode cX16_change 124 = .ok (.ireturn, 1) := by decide +kernel
theorem dX16_change_125 : decode cX16_change 125 = .ok (.aload_n 0, 1) := by decide +kernel
theorem dX16_change_126 : decode cX16_change 126 = .ok (.getfield 453, 3) := by decide +kernel
theorem dX16_change_129 : decode cX16_change 129 = .ok (.aload 5, 2) := by decide +kernel
theorem dX16_change_131 : decode cX16_change 131 = .ok (.invokestatic 547, 3) := by decide +kernel
theorem dX16_change_134 : decode cX16_change 134 = .ok (.iload_n 1, 1) := by decide +kernel
theorem dX16_change_135 : decode cX16_change 135 = .ok (.bipush 9, 2) := by decide +kernel
theorem dX16_change_137 : decode cX16_change 137 = .ok (.if_icmp .ne 53, 3) := by decide +kernel
theorem dX16_change_140 : decode cX16_change 140 = .ok (.iload_n 3, 1) := by decide +kernel
theorem dX16_change_141 : decode cX16_change 141 = .ok (.bipush (-12), 2) := by decide +kernel
theorem dX16_change_143 : decode cX16_change 143 = .ok (.if_icmp .lt 21, 3) := by decide +kernel
theorem dX16_change_146 : decode cX16_change 146 = .ok (.iload_n 3, 1) := by decide +kernel
theorem dX16_change_147 : decode cX16_change 147 = .ok (.bipush 12, 2) := by decide +kernel
theorem dX16_change_149 : decode cX16_change 149 = .ok (.if_icmp .gt 15, 3) := by decide +kernel
theorem dX16_change_152 : decode cX16_change 152 = .ok (.aload 5, 2) := by decide +kernel
theorem dX16_change_154 : decode cX16_change 154 = .ok (.invokestatic 288, 3) := by decide +kernel
theorem dX16_change_157 : decode cX16_change 157 = .ok (.ifCond .eq 9, 3) := by decide +kernel
theorem dX16_change_160 : decode cX16_change 160 = .ok (.iload_n 3, 1) := by decide +kernel
theorem dX16_change_161 : decode cX16_change 161 = .ok (.ifCond .ge 5, 3) := by decide +kernel
theorem dX16_change_164 : decode cX16_change 164 = .ok (.iconst (-1), 1) := by decide +kernel
theorem dX16_change_165 : decode cX16_change 165 = .ok (.ireturn, 1) := by decide +kernel
theorem dX16_change_166 : decode cX16_change 166 = .ok (.aload_n 0, 1) := by decide +kernel
theorem dX16_change_167 : decode cX16_change 167 = .ok (.aload_n 0, 1) := by decide +kernel
theorem dX16_change_168 : decode cX16_change 168 = .ok (.getfield 453, 3) := by decide +kernel
theorem dX16_change_171 : decode cX16_change 171 = .ok (.iload_n 3, 1) := by decide +kernel
theorem dX16_change_172 : decode cX16_change 172 = .ok (.invokevirtual 417, 3) := by decide +kernel
theorem dX16_change_175 : decode cX16_change 175 = .ok (.ifCond .eq 12, 3) := by decide +kernel
theorem dX16_change_178 : decode cX16_change 178 = .ok (.aload_n 0, 1) := by decide +kernel
theorem dX16_change_179 : decode cX16_change 179 = .ok (.iload 4, 2) := by decide +kernel
theorem dX16_change_181 : decode cX16_change 181 = .ok (.invokevirtual 558, 3) := by decide +kernel
theorem dX16_change_184 : decode cX16_change 184 = .ok (.goto 5, 3) := by decide +kernel
theorem dX16_change_187 : decode cX16_change 187 = .ok (.bipush (-2), 2) := by decide +kernel
theorem dX16_change_189 : decode cX16_change 189 = .ok (.ireturn, 1) := by decide +kernel
theorem dX16_change_190 : decode cX16_change 190 = .ok (.iload_n 1, 1) := by decide +kernel
theorem dX16_change_191 : decode cX16_change 191 = .ok (.bipush 11, 2) := by decide +kernel
theorem dX16_change_193 : decode cX16_change 193 = .ok (.if_icmp .ne 17, 3) := by decide +kernel
theorem dX16_change_196 : decode cX16_change 196 = .ok (.aload_n 0, 1) := by decide +kernel
theorem dX16_change_197 : decode cX16_change 197 = .ok (.getfield 453, 3) := by decide +kernel
theorem dX16_change_200 : decode cX16_change 200 = .ok (.invokestatic 257, 3) := by decide +kernel
theorem dX16_change_203 : decode cX16_change 203 = .ok (.aload_n 0, 1) := by decide +kernel
theorem dX16_change_204 : decode cX16_change 204 = .ok (.iload 4, 2) := by decide +kernel
theorem dX16_change_206 : decode cX16_change 206 = .ok (.invokevirtual 558, 3) := by decide +kernel
theorem dX16_change_209 : decode cX16_change 209 = .ok (.ireturn, 1) := by decide +kernel
theorem dX16_change_210 : decode cX16_change 210 = .ok (.aload_n 0, 1) := by decide +kernel
theorem dX16_change_211 : decode cX16_change 211 = .ok (.invokevirtual 140, 3) := by decide +kernel
theorem dX16_change_214 : decode cX16_change 214 = .ok (.astore 6, 2) := by decide +kernel
theorem dX16_change_216 : decode cX16_change 216 = .ok (.aload_n 0, 1) := by decide +kernel
theorem dX16_change_217 : decode cX16_change 217 = .ok (.invokevirtual 140, 3) := by decide +kernel
theorem dX16_change_220 : decode cX16_change 220 = .ok (.astore 7, 2) := by decide +kernel
theorem dX16_change_222 : decode cX16_change 222 = .ok (.aload 6, 2) := by decide +kernel
theorem dX16_change_224 : decode cX16_change 224 = .ok (.aload 5, 2) := by decide +kernel
theorem dX16_change_226 : decode cX16_change 226 = .ok (.getfield 207, 3) := by decide +kernel
theorem dX16_change_229 : decode cX16_change 229 = .ok (.invokestatic 295, 3) := by decide +kernel
theorem dX16_change_232 : decode cX16_change 232 = .ok (.aload 7, 2) := by decide +kernel
theorem dX16_change_234 : decode cX16_change 234 = .ok (.aload 5, 2) := by decide +kernel
theorem dX16_change_236 : decode cX16_change 236 = .ok (.getfield 210, 3) := by decide +kernel
theorem dX16_change_239 : decode cX16_change 239 = .ok (.invokestatic 295, 3) := by decide +kernel
theorem dX16_change_242 : decode cX16_change 242 = .ok (.iload_n 3, 1) := by decide +kernel
theorem dX16_change_243 : decode cX16_change 243 = .ok (.invokestatic 600, 3) := by decide +kernel
theorem dX16_change_246 : decode cX16_change 246 = .ok (.istore 8, 2) := by decide +kernel
theorem dX16_change_248 : decode cX16_change 248 = .ok (.iload_n 1, 1) := by decide +kernel
theorem dX16_change_249 : decode cX16_change 249 = .ok (.iconst 2, 1) := by decide +kernel
theorem dX16_change_250 : decode cX16_change 250 = .ok (.if_icmp .ge 17, 3) := by decide +kernel
theorem dX16_change_253 : decode cX16_change 253 = .ok (.aload_n 0, 1) := by decide +kernel
theorem dX16_change_254 : decode cX16_change 254 = .ok (.iload_n 1, 1) := by decide +kernel
theorem dX16_change_255 : decode cX16_change 255 = .ok (.aload 6, 2) := by decide +kernel
theorem dX16_change_257 : decode cX16_change 257 = .ok (.aload 7, 2) := by decide +kernel
theorem dX16_change_259 : decode cX16_change 259 = .ok (.iload 8, 2) := by decide +kernel
theorem dX16_change_261 : decode cX16_change 261 = .ok (.iload 4, 2) := by decide +kernel
theorem dX16_change_263 : decode cX16_change 263 = .ok (.invokevirtual 651, 3) := by decide +kernel
theorem dX16_change_266 : decode cX16_change 266 = .ok (.ireturn, 1) := by decide +kernel
theorem dX16_change_267 : decode cX16_change 267 = .ok (.aload_n 0, 1) := by decide +kernel
theorem dX16_change_268 : decode cX16_change 268 = .ok (.invokevirtual 140, 3) := by decide +kernel
theorem dX16_change_271 : decode cX16_change 271 = .ok (.astore 9, 2) := by decide +kernel
theorem dX16_change_273 : decode cX16_change 273 = .ok (.aload_n 0, 1) := by decide +kernel
theorem dX16_change_274 : decode cX16_change 274 = .ok (.invokevirtual 140, 3) := by decide +kernel
theorem dX16_change_277 : decode cX16_change 277 = .ok (.astore 10, 2) := by decide +kernel
theorem dX16_change_279 : decode cX16_change 279 = .ok (.aload_n 0, 1) := by decide +kernel
theorem dX16_change_280 : decode cX16_change 280 = .ok (.invokevirtual 140, 3) := by decide +kernel
theorem dX16_change_283 : decode cX16_change 283 = .ok (.astore 11, 2) := by decide +kernel
theorem dX16_change_285 : decode cX16_change 285 = .ok (.aload 11, 2) := by decide +kernel
theorem dX16_change_287 : decode cX16_change 287 = .ok (.iconst 1, 1) := by decide +kernel
theorem dX16_change_288 : decode cX16_change 288 = .ok (.invokevirtual 158, 3) := by decide +kernel
theorem dX16_change_291 : decode cX16_change 291 = .ok (.iload_n 1, 1) := by decide +kernel
theorem dX16_change_292 : decode cX16_change 292 = .ok (.tableswitch 167 2 7 #[40, 40, 101, 101, 126, 150], 40) := by decide +kernel
theorem dX16_change_332 : decode cX16_change 332 = .ok (.aload_n 0, 1) := by decide +kernel
theorem dX16_change_333 : decode cX16_change 333 = .ok (.aload 9, 2) := by decide +kernel
theorem dX16_change_335 : decode cX16_change 335 = .ok (.aload 6, 2) := by decide +kernel
theorem dX16_change_337 : decode cX16_change 337 = .ok (.iload 8, 2) := by decide +kernel
theorem dX16_change_339 : decode cX16_change 339 = .ok (.iload_n 1, 1) := by decide +kernel
theorem dX16_change_340 : decode cX16_change 340 = .ok (.iconst 2, 1) := by decide +kernel
theorem dX16_change_341 : decode cX16_change 341 = .ok (.if_icmp .ne 7, 3) := by decide +kernel
theorem dX16_change_344 : decode cX16_change 344 = .ok (.iconst 1, 1) := by decide +kernel
theorem dX16_change_345 : decode cX16_change 345 = .ok (.goto 4, 3) := by decide +kernel
theorem dX16_change_348 : decode cX16_change 348 = .ok (.iconst 0, 1) := by decide +kernel
theorem dX16_change_349 : decode cX16_change 349 = .ok (.invokevirtual 655, 3) := by decide +kernel
theorem dX16_change_352 : decode cX16_change 352 = .ok (.aload_n 0, 1) := by decide +kernel
theorem dX16_change_353 : decode cX16_change 353 = .ok (.aload 10, 2) := by decide +kernel
theorem dX16_change_355 : decode cX16_change 355 = .ok (.aload 7, 2) := by decide +kernel
theorem dX16_change_357 : decode cX16_change 357 = .ok (.iload 8, 2) := by decide +kernel
theorem dX16_change_359 : decode cX16_change 359 = .ok (.iload_n 1, 1) := by decide +kernel
theorem dX16_change_360 : decode cX16_change 360 = .ok (.iconst 2, 1) := by decide +kernel
theorem dX16_change_361 : decode cX16_change 361 = .ok (.if_icmp .ne 7, 3) := by decide +kernel
theorem dX16_change_364 : decode cX16_change 364 = .ok (.iconst 1, 1) := by decide +kernel
theorem dX16_change_365 : decode cX16_change 365 = .ok (.goto 4, 3) := by decide +kernel
theorem dX16_change_368 : decode cX16_change 368 = .ok (.iconst 0, 1) := by decide +kernel
theorem dX16_change_369 : decode cX16_change 369 = .ok (.invokevirtual 655, 3) := by decide +kernel
theorem dX16_change_372 : decode cX16_change 372 = .ok (.aload 10, 2) := by decide +kernel
theorem dX16_change_374 : decode cX16_change 374 = .ok (.getfield 93, 3) := by decide +kernel
theorem dX16_change_377 : decode cX16_change 377 = .ok (.ifCond .ne 5, 3) := by decide +kernel
theorem dX16_change_380 : decode cX16_change 380 = .ok (.iconst (-1), 1) := by decide +kernel
theorem dX16_change_381 : decode cX16_change 381 = .ok (.ireturn, 1) := by decide +kernel
theorem dX16_change_382 : decode cX16_change 382 = .ok (.aload_n 0, 1) := by decide +kernel
theorem dX16_change_383 : decode cX16_change 383 = .ok (.aload 9, 2) := by decide +kernel
theorem dX16_change_385 : decode cX16_change 385 = .ok (.aload 10, 2) := by decide +kernel
theorem dX16_change_387 : decode cX16_change 387 = .ok (.invokevirtual 659, 3) := by decide +kernel
theorem dX16_change_390 : decode cX16_change 390 = .ok (.goto 83, 3) := by decide +kernel
theorem dX16_change_393 : decode cX16_change 393 = .ok (.aload_n 0, 1) := by decide +kernel
theorem dX16_change_394 : decode cX16_change 394 = .ok (.aload 9, 2) := by decide +kernel
theorem dX16_change_396 : decode cX16_change 396 = .ok (.aload 10, 2) := by decide +kernel
theorem dX16_change_398 : decode cX16_change 398 = .ok (.aload 6, 2) := by decide +kernel
theorem dX16_change_400 : decode cX16_change 400 = .ok (.aload 7, 2) := by decide +kernel
theorem dX16_change_402 : decode cX16_change 402 = .ok (.iload_n 1, 1) := by decide +kernel
theorem dX16_change_403 : decode cX16_change 403 = .ok (.iconst 4, 1) := by decide +kernel
theorem dX16_change_404 : decode cX16_change 404 = .ok (.if_icmp .ne 7, 3) := by decide +kernel
theorem dX16_change_407 : decode cX16_change 407 = .ok (.iconst 1, 1) := by decide +kernel
theorem dX16_change_408 : decode cX16_change 408 = .ok (.goto 4, 3) := by decide +kernel
theorem dX16_change_411 : decode cX16_change 411 = .ok (.iconst 0, 1) := by decide +kernel
theorem dX16_change_412 : decode cX16_change 412 = .ok (.invokevirtual 662, 3) := by decide +kernel
theorem dX16_change_415 : decode cX16_change 415 = .ok (.goto 58, 3) := by decide +kernel
theorem dX16_change_418 : decode cX16_change 418 = .ok (.aload 9, 2) := by decide +kernel
theorem dX16_change_420 : decode cX16_change 420 = .ok (.aload 6, 2) := by decide +kernel
theorem dX16_change_422 : decode cX16_change 422 = .ok (.invokestatic 644, 3) := by decide +kernel
theorem dX16_change_425 : decode cX16_change 425 = .ok (.aload 10, 2) := by decide +kernel
theorem dX16_change_427 : decode cX16_change 427 = .ok (.aload 7, 2) := by decide +kernel
theorem dX16_change_429 : decode cX16_change 429 = .ok (.invokestatic 644, 3) := by decide +kernel
theorem dX16_change_432 : decode cX16_change 432 = .ok (.aload 9, 2) := by decide +kernel
theorem dX16_change_434 : decode cX16_change 434 = .ok (.aload 10, 2) := by decide +kernel
theorem dX16_change_436 : decode cX16_change 436 = .ok (.invokestatic 191, 3) := by decide +kernel
theorem dX16_change_439 : decode cX16_change 439 = .ok (.goto 34, 3) := by decide +kernel
theorem dX16_change_442 : decode cX16_change 442 = .ok (.aload 9, 2) := by decide +kernel
theorem dX16_change_444 : decode cX16_change 444 = .ok (.aload 6, 2) := by decide +kernel
theorem dX16_change_446 : decode cX16_change 446 = .ok (.invokestatic 113, 3) := by decide +kernel
theorem dX16_change_449 : decode cX16_change 449 = .ok (.aload 10, 2) := by decide +kernel
theorem dX16_change_451 : decode cX16_change 451 = .ok (.aload 11, 2) := by decide +kernel
theorem dX16_change_453 : decode cX16_change 453 = .ok (.invokestatic 113, 3) := by decide +kernel
theorem dX16_change_456 : decode cX16_change 456 = .ok (.goto 17, 3) := by decide +kernel
theorem dX16_change_459 : decode cX16_change 459 = .ok (.aload 9, 2) := by decide +kernel
theorem dX16_change_461 : decode cX16_change 461 = .ok (.aload 7, 2) := by decide +kernel
theorem dX16_change_463 : decode cX16_change 463 = .ok (.invokestatic 113, 3) := by decide +kernel
theorem dX16_change_466 : decode cX16_change 466 = .ok (.aload 10, 2) := by decide +kernel
theorem dX16_change_468 : decode cX16_change 468 = .ok (.aload 11, 2) := by decide +kernel
theorem dX16_change_470 : decode cX16_change 470 = .ok (.invokestatic 113, 3) := by decide +kernel
theorem dX16_change_473 : decode cX16_change 473 = .ok (.aload_n 0, 1) := by decide +kernel
theorem dX16_change_474 : decode cX16_change 474 = .ok (.getfield 453, 3) := by decide +kernel
theorem dX16_change_477 : decode cX16_change 477 = .ok (.aload 9, 2) := by decide +kernel
theorem dX16_change_479 : decode cX16_change 479 = .ok (.aload 10, 2) := by decide +kernel
theorem dX16_change_481 : decode cX16_change 481 = .ok (.invokestatic 261, 3) := by decide +kernel
theorem dX16_change_484 : decode cX16_change 484 = .ok (.ifCond .eq 12, 3) := by decide +kernel
theorem dX16_change_487 : decode cX16_change 487 = .ok (.aload_n 0, 1) := by decide +kernel
theorem dX16_change_488 : decode cX16_change 488 = .ok (.iload 4, 2) := by decide +kernel
theorem dX16_change_490 : decode cX16_change 490 = .ok (.invokevirtual 558, 3) := by decide +kernel
theorem dX16_change_493 : decode cX16_change 493 = .ok (.goto 5, 3) := by decide +kernel
theorem dX16_change_496 : decode cX16_change 496 = .ok (.bipush (-2), 2) := by decide +kernel
theorem dX16_change_498 : decode cX16_change 498 = .ok (.ireturn, 1) := by decide +kernel
theorem dX16_value_0 : decode cX16_value 0 = .ok (.iload_n 1, 1) := by decide +kernel
theorem dX16_value_1 : decode cX16_value 1 = .ok (.invokestatic 551, 3) := by decide +kernel
theorem dX16_value_4 : decode cX16_value 4 = .ok (.ifCond .ne 5, 3) := by decide +kernel
theorem dX16_value_7 : decode cX16_value 7 = .ok (.iconst (-1), 1) := by decide +kernel
theorem dX16_value_8 : decode cX16_value 8 = .ok (.ireturn, 1) := by decide +kernel
theorem dX16_value_9 : decode cX16_value 9 = .ok (.aload_n 0, 1) := by decide +kernel
theorem dX16_value_10 : decode cX16_value 10 = .ok (.getfield 450, 3) := by decide +kernel
theorem dX16_value_13 : decode cX16_value 13 = .ok (.iload_n 1, 1) := by decide +kernel
theorem dX16_value_14 : decode cX16_value 14 = .ok (.aaload, 1) := by decide +kernel
theorem dX16_value_15 : decode cX16_value 15 = .ok (.astore 4, 2) := by decide +kernel
theorem dX16_value_17 : decode cX16_value 17 = .ok (.aload 4, 2) := by decide +kernel
theorem dX16_value_19 : decode cX16_value 19 = .ok (.getfield 202, 3) := by decide +kernel
theorem dX16_value_22 : decode cX16_value 22 = .ok (.iconst 1, 1) := by decide +kernel
theorem dX16_value_23 : decode cX16_value 23 = .ok (.if_icmp .eq 12, 3) := by decide +kernel
theorem dX16_value_26 : decode cX16_value 26 = .ok (.aload 4, 2) := by decide +kernel
theorem dX16_value_28 : decode cX16_value 28 = .ok (.getfield 202, 3) := by decide +kernel
theorem dX16_value_31 : decode cX16_value 31 = .ok (.iconst 2, 1) := by decide +kernel
theorem dX16_value_32 : decode cX16_value 32 = .ok (.if_icmp .ne 14, 3) := by decide +kernel
theorem dX16_value_35 : decode cX16_value 35 = .ok (.aload_n 0, 1) := by decide +kernel
theorem dX16_value_36 : decode cX16_value 36 = .ok (.aload 4, 2) := by decide +kernel
theorem dX16_value_38 : decode cX16_value 38 = .ok (.iload_n 2, 1) := by decide +kernel
theorem dX16_value_39 : decode cX16_value 39 = .ok (.iload_n 3, 1) := by decide +kernel
theorem dX16_value_40 : decode cX16_value 40 = .ok (.invokevirtual 688, 3) := by decide +kernel
theorem dX16_value_43 : decode cX16_value 43 = .ok (.goto 5, 3) := by decide +kernel
theorem dX16_value_46 : decode cX16_value 46 = .ok (.bipush (-3), 2) := by decide +kernel
theorem dX16_value_48 : decode cX16_value 48 = .ok (.ireturn, 1) := by decide +kernel
theorem dX16_sum__0 : decode cX16_sum_ 0 = .ok (.iload_n 1, 1) := by decide +kernel
theorem dX16_sum__1 : decode cX16_sum_ 1 = .ok (.invokestatic 551, 3) := by decide +kernel
theorem dX16_sum__4 : decode cX16_sum_ 4 = .ok (.ifCond .ne 5, 3) := by decide +kernel
theorem dX16_sum__7 : decode cX16_sum_ 7 = .ok (.iconst (-1), 1) := by decide +kernel
theorem dX16_sum__8 : decode cX16_sum_ 8 = .ok (.ireturn, 1) := by decide +kernel
theorem dX16_sum__9 : decode cX16_sum_ 9 = .ok (.aload_n 0, 1) := by decide +kernel
theorem dX16_sum__10 : decode cX16_sum_ 10 = .ok (.getfield 450, 3) := by decide +kernel
theorem dX16_sum__13 : decode cX16_sum_ 13 = .ok (.iload_n 1, 1) := by decide +kernel
theorem dX16_sum__14 : decode cX16_sum_ 14 = .ok (.aaload, 1) := by decide +kernel
theorem dX16_sum__15 : decode cX16_sum_ 15 = .ok (.astore 5, 2) := by decide +kernel
theorem dX16_sum__17 : decode cX16_sum_ 17 = .ok (.aload 5, 2) := by decide +kernel
theorem dX16_sum__19 : decode cX16_sum_ 19 = .ok (.getfield 202, 3) := by decide +kernel
theorem dX16_sum__22 : decode cX16_sum_ 22 = .ok (.iconst 1, 1) := by decide +kernel
theorem dX16_sum__23 : decode cX16_sum_ 23 = .ok (.if_icmp .eq 15, 3) := by decide +kernel
theorem dX16_sum__26 : decode cX16_sum_ 26 = .ok (.aload 5, 2) := by decide +kernel
theorem dX16_sum__28 : decode cX16_sum_ 28 = .ok (.getfield 202, 3) := by decide +kernel
theorem dX16_sum__31 : decode cX16_sum_ 31 = .ok (.iconst 2, 1) := by decide +kernel
theorem dX16_sum__32 : decode cX16_sum_ 32 = .ok (.if_icmp .eq 6, 3) := by decide +kernel
theorem dX16_sum__35 : decode cX16_sum_ 35 = .ok (.bipush (-3), 2) := by decide +kernel
theorem dX16_sum__37 : decode cX16_sum_ 37 = .ok (.ireturn, 1) := by decide +kernel
theorem dX16_sum__38 : decode cX16_sum_ 38 = .ok (.iload_n 2, 1) := by decide +kernel
theorem dX16_sum__39 : decode cX16_sum_ 39 = .ok (.invokestatic 682, 3) := by decide +kernel
theorem dX16_sum__42 : decode cX16_sum_ 42 = .ok (.ifCond .eq 31, 3) := by decide +kernel
theorem dX16_sum__45 : decode cX16_sum_ 45 = .ok (.iload_n 3, 1) := by decide +kernel
theorem dX16_sum__46 : decode cX16_sum_ 46 = .ok (.invokestatic 682, 3) := by decide +kernel
theorem dX16_sum__49 : decode cX16_sum_ 49 = .ok (.ifCond .eq 24, 3) := by decide +kernel
theorem dX16_sum__52 : decode cX16_sum_ 52 = .ok (.iload 4, 2) := by decide +kernel
theorem dX16_sum__54 : decode cX16_sum_ 54 = .ok (.invokestatic 682, 3) := by decide +kernel
theorem dX16_sum__57 : decode cX16_sum_ 57 = .ok (.ifCond .eq 16, 3) := by decide +kernel
theorem dX16_sum__60 : decode cX16_sum_ 60 = .ok (.aload_n 0, 1) := by decide +kernel
theorem dX16_sum__61 : decode cX16_sum_ 61 = .ok (.aload 5, 2) := by decide +kernel
theorem dX16_sum__63 : decode cX16_sum_ 63 = .ok (.iload_n 2, 1) := by decide +kernel
theorem dX16_sum__64 : decode cX16_sum_ 64 = .ok (.iload_n 3, 1) := by decide +kernel
theorem dX16_sum__65 : decode cX16_sum_ 65 = .ok (.iload 4, 2) := by decide +kernel
theorem dX16_sum__67 : decode cX16_sum_ 67 = .ok (.invokevirtual 691, 3) := by decide +kernel
theorem dX16_sum__70 : decode cX16_sum_ 70 = .ok (.goto 4, 3) := by decide +kernel
theorem dX16_sum__73 : decode cX16_sum_ 73 = .ok (.iconst (-1), 1) := by decide +kernel
theorem dX16_sum__74 : decode cX16_sum_ 74 = .ok (.ireturn, 1) := by decide +kernel
theorem dX16_quotient__0 : decode cX16_quotient_ 0 = .ok (.iload_n 1, 1) := by decide +kernel
theorem dX16_quotient__1 : decode cX16_quotient_ 1 = .ok (.invokestatic 551, 3) := by decide +kernel
theorem dX16_quotient__4 : decode cX16_quotient_ 4 = .ok (.ifCond .eq 10, 3) := by decide +kernel
theorem dX16_quotient__7 : decode cX16_quotient_ 7 = .ok (.iload_n 3, 1) := by decide +kernel
theorem dX16_quotient__8 : decode cX16_quotient_ 8 = .ok (.invokestatic 551, 3) := by decide +kernel
theorem dX16_quotient__11 : decode cX16_quotient_ 11 = .ok (.ifCond .ne 5, 3) := by decide +kernel
theorem dX16_quotient__14 : decode cX16_quotient_ 14 = .ok (.iconst (-1), 1) := by decide +kernel
theorem dX16_quotient__15 : decode cX16_quotient_ 15 = .ok (.ireturn, 1) := by decide +kernel
theorem dX16_quotient__16 : decode cX16_quotient_ 16 = .ok (.aload_n 0, 1) := by decide +kernel
theorem dX16_quotient__17 : decode cX16_quotient_ 17 = .ok (.getfield 450, 3) := by decide +kernel
theorem dX16_quotient__20 : decode cX16_quotient_ 20 = .ok (.iload_n 1, 1) := by decide +kernel
theorem dX16_quotient__21 : decode cX16_quotient_ 21 = .ok (.aaload, 1) := by decide +kernel
theorem dX16_quotient__22 : decode cX16_quotient_ 22 = .ok (.astore 4, 2) := by decide +kernel
theorem dX16_quotient__24 : decode cX16_quotient_ 24 = .ok (.aload 4, 2) := by decide +kernel
theorem dX16_quotient__26 : decode cX16_quotient_ 26 = .ok (.getfield 202, 3) := by decide +kernel
theorem dX16_quotient__29 : decode cX16_quotient_ 29 = .ok (.iconst 1, 1) := by decide +kernel
theorem dX16_quotient__30 : decode cX16_quotient_ 30 = .ok (.if_icmp .eq 15, 3) := by decide +kernel
theorem dX16_quotient__33 : decode cX16_quotient_ 33 = .ok (.aload 4, 2) := by decide +kernel
theorem dX16_quotient__35 : decode cX16_quotient_ 35 = .ok (.getfield 202, 3) := by decide +kernel
theorem dX16_quotient__38 : decode cX16_quotient_ 38 = .ok (.iconst 2, 1) := by decide +kernel
theorem dX16_quotient__39 : decode cX16_quotient_ 39 = .ok (.if_icmp .eq 6, 3) := by decide +kernel
theorem dX16_quotient__42 : decode cX16_quotient_ 42 = .ok (.bipush (-3), 2) := by decide +kernel
theorem dX16_quotient__44 : decode cX16_quotient_ 44 = .ok (.ireturn, 1) := by decide +kernel
theorem dX16_quotient__45 : decode cX16_quotient_ 45 = .ok (.iload_n 2, 1) := by decide +kernel
theorem dX16_quotient__46 : decode cX16_quotient_ 46 = .ok (.ifCond .lt 16, 3) := by decide +kernel
theorem dX16_quotient__49 : decode cX16_quotient_ 49 = .ok (.iload_n 2, 1) := by decide +kernel
theorem dX16_quotient__50 : decode cX16_quotient_ 50 = .ok (.iconst 1, 1) := by decide +kernel
theorem dX16_quotient__51 : decode cX16_quotient_ 51 = .ok (.if_icmp .gt 11, 3) := by decide +kernel
theorem dX16_quotient__54 : decode cX16_quotient_ 54 = .ok (.aload 4, 2) := by decide +kernel
theorem dX16_quotient__56 : decode cX16_quotient_ 56 = .ok (.invokestatic 288, 3) := by decide +kernel
theorem dX16_quotient__59 : decode cX16_quotient_ 59 = .ok (.ifCond .eq 5, 3) := by decide +kernel
theorem dX16_quotient__62 : decode cX16_quotient_ 62 = .ok (.iconst (-1), 1) := by decide +kernel
theorem dX16_quotient__63 : decode cX16_quotient_ 63 = .ok (.ireturn, 1) := by decide +kernel
theorem dX16_quotient__64 : decode cX16_quotient_ 64 = .ok (.aload_n 0, 1) := by decide +kernel
theorem dX16_quotient__65 : decode cX16_quotient_ 65 = .ok (.invokevirtual 555, 3) := by decide +kernel
theorem dX16_quotient__68 : decode cX16_quotient_ 68 = .ok (.aload_n 0, 1) := by decide +kernel
theorem dX16_quotient__69 : decode cX16_quotient_ 69 = .ok (.invokevirtual 140, 3) := by decide +kernel
theorem dX16_quotient__72 : decode cX16_quotient_ 72 = .ok (.astore 5, 2) := by decide +kernel
theorem dX16_quotient__74 : decode cX16_quotient_ 74 = .ok (.aload_n 0, 1) := by decide +kernel
theorem dX16_quotient__75 : decode cX16_quotient_ 75 = .ok (.invokevirtual 140, 3) := by decide +kernel
theorem dX16_quotient__78 : decode cX16_quotient_ 78 = .ok (.astore 6, 2) := by decide +kernel
theorem dX16_quotient__80 : decode cX16_quotient_ 80 = .ok (.aload_n 0, 1) := by decide +kernel
theorem dX16_quotient__81 : decode cX16_quotient_ 81 = .ok (.aload 5, 2) := by decide +kernel
theorem dX16_quotient__83 : decode cX16_quotient_ 83 = .ok (.aload 6, 2) := by decide +kernel
theorem dX16_quotient__85 : decode cX16_quotient_ 85 = .ok (.aload 4, 2) := by decide +kernel
theorem dX16_quotient__87 : decode cX16_quotient_ 87 = .ok (.iload_n 2, 1) := by decide +kernel
theorem dX16_quotient__88 : decode cX16_quotient_ 88 = .ok (.ifCond .ne 7, 3) := by decide +kernel
theorem dX16_quotient__91 : decode cX16_quotient_ 91 = .ok (.iconst 1, 1) := by decide +kernel
theorem dX16_quotient__92 : decode cX16_quotient_ 92 = .ok (.goto 4, 3) := by decide +kernel
theorem dX16_quotient__95 : decode cX16_quotient_ 95 = .ok (.iconst 0, 1) := by decide +kernel
theorem dX16_quotient__96 : decode cX16_quotient_ 96 = .ok (.iload_n 2, 1) := by decide +kernel
theorem dX16_quotient__97 : decode cX16_quotient_ 97 = .ok (.invokevirtual 633, 3) := by decide +kernel
theorem dX16_quotient__100 : decode cX16_quotient_ 100 = .ok (.ifCond .ne 6, 3) := by decide +kernel
theorem dX16_quotient__103 : decode cX16_quotient_ 103 = .ok (.bipush (-2), 2) := by decide +kernel
theorem dX16_quotient__105 : decode cX16_quotient_ 105 = .ok (.ireturn, 1) := by decide +kernel
theorem dX16_quotient__106 : decode cX16_quotient_ 106 = .ok (.aload_n 0, 1) := by decide +kernel
theorem dX16_quotient__107 : decode cX16_quotient_ 107 = .ok (.getfield 453, 3) := by decide +kernel
theorem dX16_quotient__110 : decode cX16_quotient_ 110 = .ok (.invokestatic 257, 3) := by decide +kernel
theorem dX16_quotient__113 : decode cX16_quotient_ 113 = .ok (.aload_n 0, 1) := by decide +kernel
theorem dX16_quotient__114 : decode cX16_quotient_ 114 = .ok (.getfield 453, 3) := by decide +kernel
theorem dX16_quotient__117 : decode cX16_quotient_ 117 = .ok (.aload 5, 2) := by decide +kernel
theorem dX16_quotient__119 : decode cX16_quotient_ 119 = .ok (.aload 6, 2) := by decide +kernel
theorem dX16_quotient__121 : decode cX16_quotient_ 121 = .ok (.invokestatic 261, 3) := by decide +kernel
theorem dX16_quotient__124 : decode cX16_quotient_ 124 = .ok (.istore 7, 2) := by decide +kernel
theorem dX16_quotient__126 : decode cX16_quotient_ 126 = .ok (.aload_n 0, 1) := by decide +kernel
theorem dX16_quotient__127 : decode cX16_quotient_ 127 = .ok (.iload_n 3, 1) := by decide +kernel
theorem dX16_quotient__128 : decode cX16_quotient_ 128 = .ok (.invokevirtual 558, 3) := by decide +kernel
theorem dX16_quotient__131 : decode cX16_quotient_ 131 = .ok (.ireturn, 1) := by decide +kernel
theorem dX16_form__0 : decode cX16_form_ 0 = .ok (.iload_n 1, 1) := by decide +kernel
theorem dX16_form__1 : decode cX16_form_ 1 = .ok (.invokestatic 551, 3) := by decide +kernel
theorem dX16_form__4 : decode cX16_form_ 4 = .ok (.ifCond .eq 10, 3) := by decide +kernel
theorem dX16_form__7 : decode cX16_form_ 7 = .ok (.iload_n 3, 1) := by decide +kernel
theorem dX16_form__8 : decode cX16_form_ 8 = .ok (.invokestatic 551, 3) := by decide +kernel
theorem dX16_form__11 : decode cX16_form_ 11 = .ok (.ifCond .ne 5, 3) := by decide +kernel
theorem dX16_form__14 : decode cX16_form_ 14 = .ok (.iconst (-1), 1) := by decide +kernel
theorem dX16_form__15 : decode cX16_form_ 15 = .ok (.ireturn, 1) := by decide +kernel
theorem dX16_form__16 : decode cX16_form_ 16 = .ok (.aload_n 0, 1) := by decide +kernel
theorem dX16_form__17 : decode cX16_form_ 17 = .ok (.getfield 450, 3) := by decide +kernel
theorem dX16_form__20 : decode cX16_form_ 20 = .ok (.iload_n 1, 1) := by decide +kernel
theorem dX16_form__21 : decode cX16_form_ 21 = .ok (.aaload, 1) := by decide +kernel
theorem dX16_form__22 : decode cX16_form_ 22 = .ok (.astore 4, 2) := by decide +kernel
theorem dX16_form__24 : decode cX16_form_ 24 = .ok (.aload 4, 2) := by decide +kernel
theorem dX16_form__26 : decode cX16_form_ 26 = .ok (.getfield 202, 3) := by decide +kernel
theorem dX16_form__29 : decode cX16_form_ 29 = .ok (.iconst 1, 1) := by decide +kernel
theorem dX16_form__30 : decode cX16_form_ 30 = .ok (.if_icmp .eq 6, 3) := by decide +kernel
theorem dX16_form__33 : decode cX16_form_ 33 = .ok (.bipush (-3), 2) := by decide +kernel
theorem dX16_form__35 : decode cX16_form_ 35 = .ok (.ireturn, 1) := by decide +kernel
theorem dX16_form__36 : decode cX16_form_ 36 = .ok (.iload_n 2, 1) := by decide +kernel
theorem dX16_form__37 : decode cX16_form_ 37 = .ok (.ifCond .lt 16, 3) := by decide +kernel
theorem dX16_form__40 : decode cX16_form_ 40 = .ok (.iload_n 2, 1) := by decide +kernel
theorem dX16_form__41 : decode cX16_form_ 41 = .ok (.iconst 2, 1) := by decide +kernel
theorem dX16_form__42 : decode cX16_form_ 42 = .ok (.if_icmp .gt 11, 3) := by decide +kernel
theorem dX16_form__45 : decode cX16_form_ 45 = .ok (.aload 4, 2) := by decide +kernel
theorem dX16_form__47 : decode cX16_form_ 47 = .ok (.invokestatic 288, 3) := by decide +kernel
theorem dX16_form__50 : decode cX16_form_ 50 = .ok (.ifCond .eq 5, 3) := by decide +kernel
theorem dX16_form__53 : decode cX16_form_ 53 = .ok (.iconst (-1), 1) := by decide +kernel
theorem dX16_form__54 : decode cX16_form_ 54 = .ok (.ireturn, 1) := by decide +kernel
theorem dX16_form__55 : decode cX16_form_ 55 = .ok (.aload_n 0, 1) := by decide +kernel
theorem dX16_form__56 : decode cX16_form_ 56 = .ok (.invokevirtual 555, 3) := by decide +kernel
theorem dX16_form__59 : decode cX16_form_ 59 = .ok (.aload_n 0, 1) := by decide +kernel
theorem dX16_form__60 : decode cX16_form_ 60 = .ok (.invokevirtual 140, 3) := by decide +kernel
theorem dX16_form__63 : decode cX16_form_ 63 = .ok (.astore 5, 2) := by decide +kernel
theorem dX16_form__65 : decode cX16_form_ 65 = .ok (.aload_n 0, 1) := by decide +kernel
theorem dX16_form__66 : decode cX16_form_ 66 = .ok (.invokevirtual 140, 3) := by decide +kernel
theorem dX16_form__69 : decode cX16_form_ 69 = .ok (.astore 6, 2) := by decide +kernel
theorem dX16_form__71 : decode cX16_form_ 71 = .ok (.aload 5, 2) := by decide +kernel
theorem dX16_form__73 : decode cX16_form_ 73 = .ok (.aload 4, 2) := by decide +kernel
theorem dX16_form__75 : decode cX16_form_ 75 = .ok (.getfield 207, 3) := by decide +kernel
theorem dX16_form__78 : decode cX16_form_ 78 = .ok (.invokestatic 295, 3) := by decide +kernel
theorem dX16_form__81 : decode cX16_form_ 81 = .ok (.aload 6, 2) := by decide +kernel
theorem dX16_form__83 : decode cX16_form_ 83 = .ok (.aload 4, 2) := by decide +kernel
theorem dX16_form__85 : decode cX16_form_ 85 = .ok (.getfield 210, 3) := by decide +kernel
theorem dX16_form__88 : decode cX16_form_ 88 = .ok (.invokestatic 295, 3) := by decide +kernel
theorem dX16_form__91 : decode cX16_form_ 91 = .ok (.aload_n 0, 1) := by decide +kernel
theorem dX16_form__92 : decode cX16_form_ 92 = .ok (.aload 5, 2) := by decide +kernel
theorem dX16_form__94 : decode cX16_form_ 94 = .ok (.aload 6, 2) := by decide +kernel
theorem dX16_form__96 : decode cX16_form_ 96 = .ok (.invokevirtual 712, 3) := by decide +kernel
theorem dX16_form__99 : decode cX16_form_ 99 = .ok (.ifCond .ne 6, 3) := by decide +kernel
theorem dX16_form__102 : decode cX16_form_ 102 = .ok (.bipush (-2), 2) := by decide +kernel
theorem dX16_form__104 : decode cX16_form_ 104 = .ok (.ireturn, 1) := by decide +kernel
theorem dX16_form__105 : decode cX16_form_ 105 = .ok (.aload_n 0, 1) := by decide +kernel
theorem dX16_form__106 : decode cX16_form_ 106 = .ok (.invokevirtual 140, 3) := by decide +kernel
theorem dX16_form__109 : decode cX16_form_ 109 = .ok (.astore 7, 2) := by decide +kernel
theorem dX16_form__111 : decode cX16_form_ 111 = .ok (.aload_n 0, 1) := by decide +kernel
theorem dX16_form__112 : decode cX16_form_ 112 = .ok (.invokevirtual 140, 3) := by decide +kernel
theorem dX16_form__115 : decode cX16_form_ 115 = .ok (.astore 8, 2) := by decide +kernel
theorem dX16_form__117 : decode cX16_form_ 117 = .ok (.iload_n 2, 1) := by decide +kernel
theorem dX16_form__118 : decode cX16_form_ 118 = .ok (.ifCond .ne 10, 3) := by decide +kernel
theorem dX16_form__121 : decode cX16_form_ 121 = .ok (.aload_n 0, 1) := by decide +kernel
theorem dX16_form__122 : decode cX16_form_ 122 = .ok (.getfield 695, 3) := by decide +kernel
theorem dX16_form__125 : decode cX16_form_ 125 = .ok (.goto 19, 3) := by decide +kernel
theorem dX16_form__128 : decode cX16_form_ 128 = .ok (.iload_n 2, 1) := by decide +kernel
theorem dX16_form__129 : decode cX16_form_ 129 = .ok (.iconst 1, 1) := by decide +kernel
theorem dX16_form__130 : decode cX16_form_ 130 = .ok (.if_icmp .ne 10, 3) := by decide +kernel
theorem dX16_form__133 : decode cX16_form_ 133 = .ok (.aload_n 0, 1) := by decide +kernel
theorem dX16_form__134 : decode cX16_form_ 134 = .ok (.getfield 699, 3) := by decide +kernel
theorem dX16_form__137 : decode cX16_form_ 137 = .ok (.goto 7, 3) := by decide +kernel
theorem dX16_form__140 : decode cX16_form_ 140 = .ok (.aload_n 0, 1) := by decide +kernel
theorem dX16_form__141 : decode cX16_form_ 141 = .ok (.getfield 702, 3) := by decide +kernel
theorem dX16_form__144 : decode cX16_form_ 144 = .ok (.astore 9, 2) := by decide +kernel
theorem dX16_form__146 : decode cX16_form_ 146 = .ok (.iload_n 2, 1) := by decide +kernel
theorem dX16_form__147 : decode cX16_form_ 147 = .ok (.ifCond .ne 32, 3) := by decide +kernel
theorem dX16_form__150 : decode cX16_form_ 150 = .ok (.aload_n 0, 1) := by decide +kernel
theorem dX16_form__151 : decode cX16_form_ 151 = .ok (.aload 7, 2) := by decide +kernel
theorem dX16_form__153 : decode cX16_form_ 153 = .ok (.aload 9, 2) := by decide +kernel
theorem dX16_form__155 : decode cX16_form_ 155 = .ok (.aload_n 0, 1) := by decide +kernel
theorem dX16_form__156 : decode cX16_form_ 156 = .ok (.getfield 705, 3) := by decide +kernel
theorem dX16_form__159 : decode cX16_form_ 159 = .ok (.invokevirtual 178, 3) := by decide +kernel
theorem dX16_form__162 : decode cX16_form_ 162 = .ok (.aload 8, 2) := by decide +kernel
theorem dX16_form__164 : decode cX16_form_ 164 = .ok (.getfield 98, 3) := by decide +kernel
theorem dX16_form__167 : decode cX16_form_ 167 = .ok (.iconst 0, 1) := by decide +kernel
theorem dX16_form__168 : decode cX16_form_ 168 = .ok (.aaload, 1) := by decide +kernel
theorem dX16_form__169 : decode cX16_form_ 169 = .ok (.aload_n 0, 1) := by decide +kernel
theorem dX16_form__170 : decode cX16_form_ 170 = .ok (.getfield 709, 3) := by decide +kernel
theorem dX16_form__173 : decode cX16_form_ 173 = .ok (.invokestatic 62, 3) := by decide +kernel
theorem dX16_form__176 : decode cX16_form_ 176 = .ok (.goto 25, 3) := by decide +kernel
theorem dX16_form__179 : decode cX16_form_ 179 = .ok (.aload 7, 2) := by decide +kernel
theorem dX16_form__181 : decode cX16_form_ 181 = .ok (.aload 9, 2) := by decide +kernel
theorem dX16_form__183 : decode cX16_form_ 183 = .ok (.invokestatic 113, 3) := by decide +kernel
theorem dX16_form__186 : decode cX16_form_ 186 = .ok (.aload 8, 2) := by decide +kernel
theorem dX16_form__188 : decode cX16_form_ 188 = .ok (.getfield 98, 3) := by decide +kernel
theorem dX16_form__191 : decode cX16_form_ 191 = .ok (.iconst 0, 1) := by decide +kernel
theorem dX16_form__192 : decode cX16_form_ 192 = .ok (.aaload, 1) := by decide +kernel
theorem dX16_form__193 : decode cX16_form_ 193 = .ok (.aload 9, 2) := by decide +kernel
theorem dX16_form__195 : decode cX16_form_ 195 = .ok (.invokevirtual 144, 3) := by decide +kernel
theorem dX16_form__198 : decode cX16_form_ 198 = .ok (.invokestatic 62, 3) := by decide +kernel
theorem dX16_form__201 : decode cX16_form_ 201 = .ok (.aload 8, 2) := by decide +kernel
theorem dX16_form__203 : decode cX16_form_ 203 = .ok (.iconst 1, 1) := by decide +kernel
theorem dX16_form__204 : decode cX16_form_ 204 = .ok (.putfield 93, 3) := by decide +kernel
theorem dX16_form__207 : decode cX16_form_ 207 = .ok (.aload 7, 2) := by decide +kernel
theorem dX16_form__209 : decode cX16_form_ 209 = .ok (.aload 8, 2) := by decide +kernel
theorem dX16_form__211 : decode cX16_form_ 211 = .ok (.invokestatic 191, 3) := by decide +kernel
theorem dX16_form__214 : decode cX16_form_ 214 = .ok (.aload_n 0, 1) := by decide +kernel
theorem dX16_form__215 : decode cX16_form_ 215 = .ok (.getfield 453, 3) := by decide +kernel
theorem dX16_form__218 : decode cX16_form_ 218 = .ok (.invokestatic 257, 3) := by decide +kernel
theorem dX16_form__221 : decode cX16_form_ 221 = .ok (.aload_n 0, 1) := by decide +kernel
theorem dX16_form__222 : decode cX16_form_ 222 = .ok (.getfield 453, 3) := by decide +kernel
theorem dX16_form__225 : decode cX16_form_ 225 = .ok (.aload 7, 2) := by decide +kernel
theorem dX16_form__227 : decode cX16_form_ 227 = .ok (.aload 8, 2) := by decide +kernel
theorem dX16_form__229 : decode cX16_form_ 229 = .ok (.invokestatic 261, 3) := by decide +kernel
theorem dX16_form__232 : decode cX16_form_ 232 = .ok (.ifCond .eq 11, 3) := by decide +kernel
theorem dX16_form__235 : decode cX16_form_ 235 = .ok (.aload_n 0, 1) := by decide +kernel
theorem dX16_form__236 : decode cX16_form_ 236 = .ok (.iload_n 3, 1) := by decide +kernel
theorem dX16_form__237 : decode cX16_form_ 237 = .ok (.invokevirtual 558, 3) := by decide +kernel
theorem dX16_form__240 : decode cX16_form_ 240 = .ok (.goto 5, 3) := by decide +kernel
theorem dX16_form__243 : decode cX16_form_ 243 = .ok (.bipush (-2), 2) := by decide +kernel
theorem dX16_form__245 : decode cX16_form_ 245 = .ok (.ireturn, 1) := by decide +kernel
theorem dX16_close_0 : decode cX16_close 0 = .ok (.iload_n 1, 1) := by decide +kernel
theorem dX16_close_1 : decode cX16_close 1 = .ok (.invokestatic 551, 3) := by decide +kernel
theorem dX16_close_4 : decode cX16_close 4 = .ok (.ifCond .eq 10, 3) := by decide +kernel
theorem dX16_close_7 : decode cX16_close 7 = .ok (.iload_n 2, 1) := by decide +kernel
theorem dX16_close_8 : decode cX16_close 8 = .ok (.invokestatic 551, 3) := by decide +kernel
theorem dX16_close_11 : decode cX16_close 11 = .ok (.ifCond .ne 5, 3) := by decide +kernel
theorem dX16_close_14 : decode cX16_close 14 = .ok (.iconst (-1), 1) := by decide +kernel
theorem dX16_close_15 : decode cX16_close 15 = .ok (.ireturn, 1) := by decide +kernel
theorem dX16_close_16 : decode cX16_close 16 = .ok (.aload_n 0, 1) := by decide +kernel
theorem dX16_close_17 : decode cX16_close 17 = .ok (.getfield 450, 3) := by decide +kernel
theorem dX16_close_20 : decode cX16_close 20 = .ok (.iload_n 1, 1) := by decide +kernel
theorem dX16_close_21 : decode cX16_close 21 = .ok (.aaload, 1) := by decide +kernel
theorem dX16_close_22 : decode cX16_close 22 = .ok (.astore_n 3, 1) := by decide +kernel
theorem dX16_close_23 : decode cX16_close 23 = .ok (.aload_n 3, 1) := by decide +kernel
theorem dX16_close_24 : decode cX16_close 24 = .ok (.getfield 202, 3) := by decide +kernel
theorem dX16_close_27 : decode cX16_close 27 = .ok (.iconst 1, 1) := by decide +kernel
theorem dX16_close_28 : decode cX16_close 28 = .ok (.if_icmp .eq 14, 3) := by decide +kernel
theorem dX16_close_31 : decode cX16_close 31 = .ok (.aload_n 3, 1) := by decide +kernel
theorem dX16_close_32 : decode cX16_close 32 = .ok (.getfield 202, 3) := by decide +kernel
theorem dX16_close_35 : decode cX16_close 35 = .ok (.iconst 2, 1) := by decide +kernel
theorem dX16_close_36 : decode cX16_close 36 = .ok (.if_icmp .eq 6, 3) := by decide +kernel
theorem dX16_close_39 : decode cX16_close 39 = .ok (.bipush (-3), 2) := by decide +kernel
theorem dX16_close_41 : decode cX16_close 41 = .ok (.ireturn, 1) := by decide +kernel
theorem dX16_close_42 : decode cX16_close 42 = .ok (.aload_n 3, 1) := by decide +kernel
theorem dX16_close_43 : decode cX16_close 43 = .ok (.invokestatic 288, 3) := by decide +kernel
theorem dX16_close_46 : decode cX16_close 46 = .ok (.ifCond .eq 5, 3) := by decide +kernel
theorem dX16_close_49 : decode cX16_close 49 = .ok (.iconst (-1), 1) := by decide +kernel
theorem dX16_close_50 : decode cX16_close 50 = .ok (.ireturn, 1) := by decide +kernel
theorem dX16_close_51 : decode cX16_close 51 = .ok (.aload_n 0, 1) := by decide +kernel
theorem dX16_close_52 : decode cX16_close 52 = .ok (.invokevirtual 555, 3) := by decide +kernel
theorem dX16_close_55 : decode cX16_close 55 = .ok (.aload_n 0, 1) := by decide +kernel
theorem dX16_close_56 : decode cX16_close 56 = .ok (.invokevirtual 140, 3) := by decide +kernel
theorem dX16_close_59 : decode cX16_close 59 = .ok (.astore 4, 2) := by decide +kernel
theorem dX16_close_61 : decode cX16_close 61 = .ok (.aload_n 0, 1) := by decide +kernel
theorem dX16_close_62 : decode cX16_close 62 = .ok (.invokevirtual 140, 3) := by decide +kernel
theorem dX16_close_65 : decode cX16_close 65 = .ok (.astore 5, 2) := by decide +kernel
theorem dX16_close_67 : decode cX16_close 67 = .ok (.aload_n 0, 1) := by decide +kernel
theorem dX16_close_68 : decode cX16_close 68 = .ok (.aload 4, 2) := by decide +kernel
theorem dX16_close_70 : decode cX16_close 70 = .ok (.aload 5, 2) := by decide +kernel
theorem dX16_close_72 : decode cX16_close 72 = .ok (.aload_n 3, 1) := by decide +kernel
theorem dX16_close_73 : decode cX16_close 73 = .ok (.iconst 0, 1) := by decide +kernel
theorem dX16_close_74 : decode cX16_close 74 = .ok (.iconst 1, 1) := by decide +kernel
theorem dX16_close_75 : decode cX16_close 75 = .ok (.invokevirtual 633, 3) := by decide +kernel
theorem dX16_close_78 : decode cX16_close 78 = .ok (.ifCond .eq 14, 3) := by decide +kernel
theorem dX16_close_81 : decode cX16_close 81 = .ok (.aload_n 0, 1) := by decide +kernel
theorem dX16_close_82 : decode cX16_close 82 = .ok (.aload 4, 2) := by decide +kernel
theorem dX16_close_84 : decode cX16_close 84 = .ok (.aload 5, 2) := by decide +kernel
theorem dX16_close_86 : decode cX16_close 86 = .ok (.invokevirtual 712, 3) := by decide +kernel
theorem dX16_close_89 : decode cX16_close 89 = .ok (.ifCond .ne 6, 3) := by decide +kernel
theorem dX16_close_92 : decode cX16_close 92 = .ok (.bipush (-2), 2) := by decide +kernel
theorem dX16_close_94 : decode cX16_close 94 = .ok (.ireturn, 1) := by decide +kernel
theorem dX16_close_95 : decode cX16_close 95 = .ok (.aload_n 0, 1) := by decide +kernel
theorem dX16_close_96 : decode cX16_close 96 = .ok (.aload_n 0, 1) := by decide +kernel
theorem dX16_close_97 : decode cX16_close 97 = .ok (.getfield 702, 3) := by decide +kernel
theorem dX16_close_100 : decode cX16_close 100 = .ok (.invokevirtual 314, 3) := by decide +kernel
theorem dX16_close_103 : decode cX16_close 103 = .ok (.invokevirtual 728, 3) := by decide +kernel
theorem dX16_close_106 : decode cX16_close 106 = .ok (.istore 6, 2) := by decide +kernel
theorem dX16_close_108 : decode cX16_close 108 = .ok (.iload 6, 2) := by decide +kernel
theorem dX16_close_110 : decode cX16_close 110 = .ok (.ifCond .lt 10, 3) := by decide +kernel
theorem dX16_close_113 : decode cX16_close 113 = .ok (.iload 6, 2) := by decide +kernel
theorem dX16_close_115 : decode cX16_close 115 = .ok (.bipush 8, 2) := by decide +kernel
theorem dX16_close_117 : decode cX16_close 117 = .ok (.if_icmp .le 15, 3) := by decide +kernel
theorem dX16_close_120 : decode cX16_close 120 = .ok (.iload 6, 2) := by decide +kernel
theorem dX16_close_122 : decode cX16_close 122 = .ok (.ifCond .ge 7, 3) := by decide +kernel
theorem dX16_close_125 : decode cX16_close 125 = .ok (.iconst (-1), 1) := by decide +kernel
theorem dX16_close_126 : decode cX16_close 126 = .ok (.goto 5, 3) := by decide +kernel
theorem dX16_close_129 : decode cX16_close 129 = .ok (.bipush (-2), 2) := by decide +kernel
theorem dX16_close_131 : decode cX16_close 131 = .ok (.ireturn, 1) := by decide +kernel
theorem dX16_close_132 : decode cX16_close 132 = .ok (.aload_n 0, 1) := by decide +kernel
theorem dX16_close_133 : decode cX16_close 133 = .ok (.invokevirtual 140, 3) := by decide +kernel
theorem dX16_close_136 : decode cX16_close 136 = .ok (.astore 7, 2) := by decide +kernel
theorem dX16_close_138 : decode cX16_close 138 = .ok (.aload 7, 2) := by decide +kernel
theorem dX16_close_140 : decode cX16_close 140 = .ok (.iconst 1, 1) := by decide +kernel
theorem dX16_close_141 : decode cX16_close 141 = .ok (.invokevirtual 158, 3) := by decide +kernel
theorem dX16_close_144 : decode cX16_close 144 = .ok (.aload_n 0, 1) := by decide +kernel
theorem dX16_close_145 : decode cX16_close 145 = .ok (.getfield 499, 3) := by decide +kernel
theorem dX16_close_148 : decode cX16_close 148 = .ok (.iconst 0, 1) := by decide +kernel
theorem dX16_close_149 : decode cX16_close 149 = .ok (.aload 7, 2) := by decide +kernel
theorem dX16_close_151 : decode cX16_close 151 = .ok (.aastore, 1) := by decide +kernel
theorem dX16_close_152 : decode cX16_close 152 = .ok (.aload_n 0, 1) := by decide +kernel
theorem dX16_close_153 : decode cX16_close 153 = .ok (.iload 6, 2) := by decide +kernel
theorem dX16_close_155 : decode cX16_close 155 = .ok (.aload_n 0, 1) := by decide +kernel
theorem dX16_close_156 : decode cX16_close 156 = .ok (.getfield 499, 3) := by decide +kernel
theorem dX16_close_159 : decode cX16_close 159 = .ok (.iconst 1, 1) := by decide +kernel
theorem dX16_close_160 : decode cX16_close 160 = .ok (.invokevirtual 731, 3) := by decide +kernel
theorem dX16_close_163 : decode cX16_close 163 = .ok (.istore 8, 2) := by decide +kernel
theorem dX16_close_165 : decode cX16_close 165 = .ok (.aload_n 0, 1) := by decide +kernel
theorem dX16_close_166 : decode cX16_close 166 = .ok (.iload 8, 2) := by decide +kernel
theorem dX16_close_168 : decode cX16_close 168 = .ok (.invokevirtual 735, 3) := by decide +kernel
theorem dX16_close_171 : decode cX16_close 171 = .ok (.astore 9, 2) := by decide +kernel
theorem dX16_close_173 : decode cX16_close 173 = .ok (.aload_n 0, 1) := by decide +kernel
theorem dX16_close_174 : decode cX16_close 174 = .ok (.getfield 493, 3) := by decide +kernel
theorem dX16_close_177 : decode cX16_close 177 = .ok (.iload 8, 2) := by decide +kernel
theorem dX16_close_179 : decode cX16_close 179 = .ok (.iconst 1, 1) := by decide +kernel
theorem dX16_close_180 : decode cX16_close 180 = .ok (.isub, 1) := by decide +kernel
theorem dX16_close_181 : decode cX16_close 181 = .ok (.baload, 1) := by decide +kernel
theorem dX16_close_182 : decode cX16_close 182 = .ok (.ifCond .eq 5, 3) := by decide +kernel
theorem dX16_close_185 : decode cX16_close 185 = .ok (.iconst (-1), 1) := by decide +kernel
theorem dX16_close_186 : decode cX16_close 186 = .ok (.ireturn, 1) := by decide +kernel
theorem dX16_close_187 : decode cX16_close 187 = .ok (.aload_n 0, 1) := by decide +kernel
theorem dX16_close_188 : decode cX16_close 188 = .ok (.iload 8, 2) := by decide +kernel
theorem dX16_close_190 : decode cX16_close 190 = .ok (.iconst 1, 1) := by decide +kernel
theorem dX16_close_191 : decode cX16_close 191 = .ok (.isub, 1) := by decide +kernel
theorem dX16_close_192 : decode cX16_close 192 = .ok (.iload 8, 2) := by decide +kernel
theorem dX16_close_194 : decode cX16_close 194 = .ok (.aload 9, 2) := by decide +kernel
theorem dX16_close_196 : decode cX16_close 196 = .ok (.invokevirtual 739, 3) := by decide +kernel
theorem dX16_close_199 : decode cX16_close 199 = .ok (.aload_n 0, 1) := by decide +kernel
theorem dX16_close_200 : decode cX16_close 200 = .ok (.aload 4, 2) := by decide +kernel
theorem dX16_close_202 : decode cX16_close 202 = .ok (.aload 5, 2) := by decide +kernel
theorem dX16_close_204 : decode cX16_close 204 = .ok (.iload 6, 2) := by decide +kernel
theorem dX16_close_206 : decode cX16_close 206 = .ok (.aload_n 0, 1) := by decide +kernel
theorem dX16_close_207 : decode cX16_close 207 = .ok (.getfield 709, 3) := by decide +kernel
theorem dX16_close_210 : decode cX16_close 210 = .ok (.aload_n 0, 1) := by decide +kernel
theorem dX16_close_211 : decode cX16_close 211 = .ok (.getfield 490, 3) := by decide +kernel
theorem dX16_close_214 : decode cX16_close 214 = .ok (.iload 8, 2) := by decide +kernel
theorem dX16_close_216 : decode cX16_close 216 = .ok (.iconst 1, 1) := by decide +kernel
theorem dX16_close_217 : decode cX16_close 217 = .ok (.isub, 1) := by decide +kernel
theorem dX16_close_218 : decode cX16_close 218 = .ok (.aaload, 1) := by decide +kernel
theorem dX16_close_219 : decode cX16_close 219 = .ok (.aload 7, 2) := by decide +kernel
theorem dX16_close_221 : decode cX16_close 221 = .ok (.invokevirtual 743, 3) := by decide +kernel
theorem dX16_close_224 : decode cX16_close 224 = .ok (.ifCond .ne 6, 3) := by decide +kernel
theorem dX16_close_227 : decode cX16_close 227 = .ok (.bipush (-2), 2) := by decide +kernel
theorem dX16_close_229 : decode cX16_close 229 = .ok (.ireturn, 1) := by decide +kernel
theorem dX16_close_230 : decode cX16_close 230 = .ok (.aload_n 0, 1) := by decide +kernel
theorem dX16_close_231 : decode cX16_close 231 = .ok (.getfield 453, 3) := by decide +kernel
theorem dX16_close_234 : decode cX16_close 234 = .ok (.invokestatic 257, 3) := by decide +kernel
theorem dX16_close_237 : decode cX16_close 237 = .ok (.aload_n 0, 1) := by decide +kernel
theorem dX16_close_238 : decode cX16_close 238 = .ok (.getfield 453, 3) := by decide +kernel
theorem dX16_close_241 : decode cX16_close 241 = .ok (.aload 4, 2) := by decide +kernel
theorem dX16_close_243 : decode cX16_close 243 = .ok (.aload 5, 2) := by decide +kernel
theorem dX16_close_245 : decode cX16_close 245 = .ok (.invokestatic 261, 3) := by decide +kernel
theorem dX16_close_248 : decode cX16_close 248 = .ok (.istore 10, 2) := by decide +kernel
theorem dX16_close_250 : decode cX16_close 250 = .ok (.aload_n 0, 1) := by decide +kernel
theorem dX16_close_251 : decode cX16_close 251 = .ok (.iload_n 2, 1) := by decide +kernel
theorem dX16_close_252 : decode cX16_close 252 = .ok (.invokevirtual 558, 3) := by decide +kernel
theorem dX16_close_255 : decode cX16_close 255 = .ok (.ireturn, 1) := by decide +kernel
theorem dX16_recur_0 : decode cX16_recur 0 = .ok (.iload_n 1, 1) := by decide +kernel
theorem dX16_recur_1 : decode cX16_recur 1 = .ok (.invokestatic 551, 3) := by decide +kernel
theorem dX16_recur_4 : decode cX16_recur 4 = .ok (.ifCond .eq 10, 3) := by decide +kernel
theorem dX16_recur_7 : decode cX16_recur 7 = .ok (.iload_n 3, 1) := by decide +kernel
theorem dX16_recur_8 : decode cX16_recur 8 = .ok (.invokestatic 551, 3) := by decide +kernel
theorem dX16_recur_11 : decode cX16_recur 11 = .ok (.ifCond .ne 5, 3) := by decide +kernel
theorem dX16_recur_14 : decode cX16_recur 14 = .ok (.iconst (-1), 1) := by decide +kernel
theorem dX16_recur_15 : decode cX16_recur 15 = .ok (.ireturn, 1) := by decide +kernel
theorem dX16_recur_16 : decode cX16_recur 16 = .ok (.aload_n 0, 1) := by decide +kernel
theorem dX16_recur_17 : decode cX16_recur 17 = .ok (.getfield 450, 3) := by decide +kernel
theorem dX16_recur_20 : decode cX16_recur 20 = .ok (.iload_n 1, 1) := by decide +kernel
theorem dX16_recur_21 : decode cX16_recur 21 = .ok (.aaload, 1) := by decide +kernel
theorem dX16_recur_22 : decode cX16_recur 22 = .ok (.astore 4, 2) := by decide +kernel
theorem dX16_recur_24 : decode cX16_recur 24 = .ok (.aload 4, 2) := by decide +kernel
theorem dX16_recur_26 : decode cX16_recur 26 = .ok (.getfield 202, 3) := by decide +kernel
theorem dX16_recur_29 : decode cX16_recur 29 = .ok (.iconst 1, 1) := by decide +kernel
theorem dX16_recur_30 : decode cX16_recur 30 = .ok (.if_icmp .eq 15, 3) := by decide +kernel
theorem dX16_recur_33 : decode cX16_recur 33 = .ok (.aload 4, 2) := by decide +kernel
theorem dX16_recur_35 : decode cX16_recur 35 = .ok (.getfield 202, 3) := by decide +kernel
theorem dX16_recur_38 : decode cX16_recur 38 = .ok (.iconst 2, 1) := by decide +kernel
theorem dX16_recur_39 : decode cX16_recur 39 = .ok (.if_icmp .eq 6, 3) := by decide +kernel
theorem dX16_recur_42 : decode cX16_recur 42 = .ok (.bipush (-3), 2) := by decide +kernel
theorem dX16_recur_44 : decode cX16_recur 44 = .ok (.ireturn, 1) := by decide +kernel
theorem dX16_recur_45 : decode cX16_recur 45 = .ok (.iload_n 2, 1) := by decide +kernel
theorem dX16_recur_46 : decode cX16_recur 46 = .ok (.ifCond .lt 16, 3) := by decide +kernel
theorem dX16_recur_49 : decode cX16_recur 49 = .ok (.iload_n 2, 1) := by decide +kernel
theorem dX16_recur_50 : decode cX16_recur 50 = .ok (.iconst 3, 1) := by decide +kernel
theorem dX16_recur_51 : decode cX16_recur 51 = .ok (.if_icmp .gt 11, 3) := by decide +kernel
theorem dX16_recur_54 : decode cX16_recur 54 = .ok (.aload 4, 2) := by decide +kernel
theorem dX16_recur_56 : decode cX16_recur 56 = .ok (.invokestatic 288, 3) := by decide +kernel
theorem dX16_recur_59 : decode cX16_recur 59 = .ok (.ifCond .eq 5, 3) := by decide +kernel
theorem dX16_recur_62 : decode cX16_recur 62 = .ok (.iconst (-1), 1) := by decide +kernel
theorem dX16_recur_63 : decode cX16_recur 63 = .ok (.ireturn, 1) := by decide +kernel
theorem dX16_recur_64 : decode cX16_recur 64 = .ok (.aload_n 0, 1) := by decide +kernel
theorem dX16_recur_65 : decode cX16_recur 65 = .ok (.invokevirtual 555, 3) := by decide +kernel
theorem dX16_recur_68 : decode cX16_recur 68 = .ok (.aload_n 0, 1) := by decide +kernel
theorem dX16_recur_69 : decode cX16_recur 69 = .ok (.invokevirtual 140, 3) := by decide +kernel
theorem dX16_recur_72 : decode cX16_recur 72 = .ok (.astore 5, 2) := by decide +kernel
theorem dX16_recur_74 : decode cX16_recur 74 = .ok (.aload_n 0, 1) := by decide +kernel
theorem dX16_recur_75 : decode cX16_recur 75 = .ok (.invokevirtual 140, 3) := by decide +kernel
theorem dX16_recur_78 : decode cX16_recur 78 = .ok (.astore 6, 2) := by decide +kernel
theorem dX16_recur_80 : decode cX16_recur 80 = .ok (.iconst 0, 1) := by decide +kernel
theorem dX16_recur_81 : decode cX16_recur 81 = .ok (.istore 7, 2) := by decide +kernel
theorem dX16_recur_83 : decode cX16_recur 83 = .ok (.iload 7, 2) := by decide +kernel
theorem dX16_recur_85 : decode cX16_recur 85 = .ok (.iload_n 2, 1) := by decide +kernel
theorem dX16_recur_86 : decode cX16_recur 86 = .ok (.if_icmp .gt 52, 3) := by decide +kernel
theorem dX16_recur_89 : decode cX16_recur 89 = .ok (.aload_n 0, 1) := by decide +kernel
theorem dX16_recur_90 : decode cX16_recur 90 = .ok (.aload 5, 2) := by decide +kernel
theorem dX16_recur_92 : decode cX16_recur 92 = .ok (.aload 6, 2) := by decide +kernel
theorem dX16_recur_94 : decode cX16_recur 94 = .ok (.aload 4, 2) := by decide +kernel
theorem dX16_recur_96 : decode cX16_recur 96 = .ok (.iload 7, 2) := by decide +kernel
theorem dX16_recur_98 : decode cX16_recur 98 = .ok (.iconst 0, 1) := by decide +kernel
theorem dX16_recur_99 : decode cX16_recur 99 = .ok (.invokevirtual 633, 3) := by decide +kernel
theorem dX16_recur_102 : decode cX16_recur 102 = .ok (.ifCond .ne 6, 3) := by decide +kernel
theorem dX16_recur_105 : decode cX16_recur 105 = .ok (.bipush (-2), 2) := by decide +kernel
theorem dX16_recur_107 : decode cX16_recur 107 = .ok (.ireturn, 1) := by decide +kernel
theorem dX16_recur_108 : decode cX16_recur 108 = .ok (.aload_n 0, 1) := by decide +kernel
theorem dX16_recur_109 : decode cX16_recur 109 = .ok (.getfield 505, 3) := by decide +kernel
theorem dX16_recur_112 : decode cX16_recur 112 = .ok (.iload 7, 2) := by decide +kernel
theorem dX16_recur_114 : decode cX16_recur 114 = .ok (.aaload, 1) := by decide +kernel
theorem dX16_recur_115 : decode cX16_recur 115 = .ok (.aload 5, 2) := by decide +kernel
theorem dX16_recur_117 : decode cX16_recur 117 = .ok (.invokestatic 253, 3) := by decide +kernel
theorem dX16_recur_120 : decode cX16_recur 120 = .ok (.aload_n 0, 1) := by decide +kernel
theorem dX16_recur_121 : decode cX16_recur 121 = .ok (.getfield 508, 3) := by decide +kernel
theorem dX16_recur_124 : decode cX16_recur 124 = .ok (.iload 7, 2) := by decide +kernel
theorem dX16_recur_126 : decode cX16_recur 126 = .ok (.aaload, 1) := by decide +kernel
theorem dX16_recur_127 : decode cX16_recur 127 = .ok (.aload 6, 2) := by decide +kernel
theorem dX16_recur_129 : decode cX16_recur 129 = .ok (.invokestatic 253, 3) := by decide +kernel
theorem dX16_recur_132 : decode cX16_recur 132 = .ok (.iinc 7 1, 3) := by decide +kernel
theorem dX16_recur_135 : decode cX16_recur 135 = .ok (.goto (-52), 3) := by decide +kernel
theorem dX16_recur_138 : decode cX16_recur 138 = .ok (.aload_n 0, 1) := by decide +kernel
theorem dX16_recur_139 : decode cX16_recur 139 = .ok (.invokevirtual 140, 3) := by decide +kernel
theorem dX16_recur_142 : decode cX16_recur 142 = .ok (.astore 7, 2) := by decide +kernel
theorem dX16_recur_144 : decode cX16_recur 144 = .ok (.aload_n 0, 1) := by decide +kernel
theorem dX16_recur_145 : decode cX16_recur 145 = .ok (.invokevirtual 140, 3) := by decide +kernel
theorem dX16_recur_148 : decode cX16_recur 148 = .ok (.astore 8, 2) := by decide +kernel
theorem dX16_recur_150 : decode cX16_recur 150 = .ok (.aload_n 0, 1) := by decide +kernel
theorem dX16_recur_151 : decode cX16_recur 151 = .ok (.aload 7, 2) := by decide +kernel
theorem dX16_recur_153 : decode cX16_recur 153 = .ok (.aload 8, 2) := by decide +kernel
theorem dX16_recur_155 : decode cX16_recur 155 = .ok (.aload 4, 2) := by decide +kernel
theorem dX16_recur_157 : decode cX16_recur 157 = .ok (.iconst 0, 1) := by decide +kernel
theorem dX16_recur_158 : decode cX16_recur 158 = .ok (.iconst 1, 1) := by decide +kernel
theorem dX16_recur_159 : decode cX16_recur 159 = .ok (.invokevirtual 633, 3) := by decide +kernel
theorem dX16_recur_162 : decode cX16_recur 162 = .ok (.ifCond .ne 6, 3) := by decide +kernel
theorem dX16_recur_165 : decode cX16_recur 165 = .ok (.bipush (-2), 2) := by decide +kernel
theorem dX16_recur_167 : decode cX16_recur 167 = .ok (.ireturn, 1) := by decide +kernel
theorem dX16_recur_168 : decode cX16_recur 168 = .ok (.aload_n 0, 1) := by decide +kernel
theorem dX16_recur_169 : decode cX16_recur 169 = .ok (.invokevirtual 140, 3) := by decide +kernel
theorem dX16_recur_172 : decode cX16_recur 172 = .ok (.astore 9, 2) := by decide +kernel
theorem dX16_recur_174 : decode cX16_recur 174 = .ok (.aload 9, 2) := by decide +kernel
theorem dX16_recur_176 : decode cX16_recur 176 = .ok (.iconst 1, 1) := by decide +kernel
theorem dX16_recur_177 : decode cX16_recur 177 = .ok (.invokevirtual 158, 3) := by decide +kernel
theorem dX16_recur_180 : decode cX16_recur 180 = .ok (.aload_n 0, 1) := by decide +kernel
theorem dX16_recur_181 : decode cX16_recur 181 = .ok (.getfield 90, 3) := by decide +kernel
theorem dX16_recur_184 : decode cX16_recur 184 = .ok (.istore 10, 2) := by decide +kernel
theorem dX16_recur_186 : decode cX16_recur 186 = .ok (.aload_n 0, 1) := by decide +kernel
theorem dX16_recur_187 : decode cX16_recur 187 = .ok (.getfield 21, 3) := by decide +kernel
theorem dX16_recur_190 : decode cX16_recur 190 = .ok (.istore 11, 2) := by decide +kernel
theorem dX16_recur_192 : decode cX16_recur 192 = .ok (.iconst 0, 1) := by decide +kernel
theorem dX16_recur_193 : decode cX16_recur 193 = .ok (.istore 12, 2) := by decide +kernel
theorem dX16_recur_195 : decode cX16_recur 195 = .ok (.iload 12, 2) := by decide +kernel
theorem dX16_recur_197 : decode cX16_recur 197 = .ok (.iload_n 2, 1) := by decide +kernel
theorem dX16_recur_198 : decode cX16_recur 198 = .ok (.if_icmp .gt 59, 3) := by decide +kernel
theorem dX16_recur_201 : decode cX16_recur 201 = .ok (.aload_n 0, 1) := by decide +kernel
theorem dX16_recur_202 : decode cX16_recur 202 = .ok (.iload 10, 2) := by decide +kernel
theorem dX16_recur_204 : decode cX16_recur 204 = .ok (.putfield 90, 3) := by decide +kernel
theorem dX16_recur_207 : decode cX16_recur 207 = .ok (.aload_n 0, 1) := by decide +kernel
theorem dX16_recur_208 : decode cX16_recur 208 = .ok (.iload 11, 2) := by decide +kernel
theorem dX16_recur_210 : decode cX16_recur 210 = .ok (.putfield 21, 3) := by decide +kernel
theorem dX16_recur_213 : decode cX16_recur 213 = .ok (.aload_n 0, 1) := by decide +kernel
theorem dX16_recur_214 : decode cX16_recur 214 = .ok (.iload 12, 2) := by decide +kernel
theorem dX16_recur_216 : decode cX16_recur 216 = .ok (.aload 9, 2) := by decide +kernel
theorem dX16_recur_218 : decode cX16_recur 218 = .ok (.aload 7, 2) := by decide +kernel
theorem dX16_recur_220 : decode cX16_recur 220 = .ok (.aload 8, 2) := by decide +kernel
theorem dX16_recur_222 : decode cX16_recur 222 = .ok (.invokevirtual 747, 3) := by decide +kernel
theorem dX16_recur_225 : decode cX16_recur 225 = .ok (.istore 13, 2) := by decide +kernel
theorem dX16_recur_227 : decode cX16_recur 227 = .ok (.iload 13, 2) := by decide +kernel
theorem dX16_recur_229 : decode cX16_recur 229 = .ok (.iconst (-1), 1) := by decide +kernel
theorem dX16_recur_230 : decode cX16_recur 230 = .ok (.if_icmp .eq 21, 3) := by decide +kernel
theorem dX16_recur_233 : decode cX16_recur 233 = .ok (.iload 13, 2) := by decide +kernel
theorem dX16_recur_235 : decode cX16_recur 235 = .ok (.bipush (-2), 2) := by decide +kernel
theorem dX16_recur_237 : decode cX16_recur 237 = .ok (.if_icmp .ne 8, 3) := by decide +kernel
theorem dX16_recur_240 : decode cX16_recur 240 = .ok (.bipush (-2), 2) := by decide +kernel
theorem dX16_recur_242 : decode cX16_recur 242 = .ok (.goto 8, 3) := by decide +kernel
theorem dX16_recur_245 : decode cX16_recur 245 = .ok (.aload_n 0, 1) := by decide +kernel
theorem dX16_recur_246 : decode cX16_recur 246 = .ok (.iload_n 3, 1) := by decide +kernel
theorem dX16_recur_247 : decode cX16_recur 247 = .ok (.invokevirtual 751, 3) := by decide +kernel
theorem dX16_recur_250 : decode cX16_recur 250 = .ok (.ireturn, 1) := by decide +kernel
theorem dX16_recur_251 : decode cX16_recur 251 = .ok (.iinc 12 1, 3) := by decide +kernel
theorem dX16_recur_254 : decode cX16_recur 254 = .ok (.goto (-59), 3) := by decide +kernel
theorem dX16_recur_257 : decode cX16_recur 257 = .ok (.iconst (-1), 1) := by decide +kernel
theorem dX16_recur_258 : decode cX16_recur 258 = .ok (.ireturn, 1) := by decide +kernel
theorem dX16_part__0 : decode cX16_part_ 0 = .ok (.iload_n 1, 1) := by decide +kernel
theorem dX16_part__1 : decode cX16_part_ 1 = .ok (.invokestatic 551, 3) := by decide +kernel
theorem dX16_part__4 : decode cX16_part_ 4 = .ok (.ifCond .eq 10, 3) := by decide +kernel
theorem dX16_part__7 : decode cX16_part_ 7 = .ok (.iload_n 3, 1) := by decide +kernel
theorem dX16_part__8 : decode cX16_part_ 8 = .ok (.invokestatic 551, 3) := by decide +kernel
theorem dX16_part__11 : decode cX16_part_ 11 = .ok (.ifCond .ne 5, 3) := by decide +kernel
theorem dX16_part__14 : decode cX16_part_ 14 = .ok (.iconst (-1), 1) := by decide +kernel
theorem dX16_part__15 : decode cX16_part_ 15 = .ok (.ireturn, 1) := by decide +kernel
theorem dX16_part__16 : decode cX16_part_ 16 = .ok (.aload_n 0, 1) := by decide +kernel
theorem dX16_part__17 : decode cX16_part_ 17 = .ok (.getfield 450, 3) := by decide +kernel
theorem dX16_part__20 : decode cX16_part_ 20 = .ok (.iload_n 1, 1) := by decide +kernel
theorem dX16_part__21 : decode cX16_part_ 21 = .ok (.aaload, 1) := by decide +kernel
theorem dX16_part__22 : decode cX16_part_ 22 = .ok (.astore 4, 2) := by decide +kernel
theorem dX16_part__24 : decode cX16_part_ 24 = .ok (.aload 4, 2) := by decide +kernel
theorem dX16_part__26 : decode cX16_part_ 26 = .ok (.getfield 202, 3) := by decide +kernel
theorem dX16_part__29 : decode cX16_part_ 29 = .ok (.iconst 3, 1) := by decide +kernel
theorem dX16_part__30 : decode cX16_part_ 30 = .ok (.if_icmp .eq 15, 3) := by decide +kernel
theorem dX16_part__33 : decode cX16_part_ 33 = .ok (.aload 4, 2) := by decide +kernel
theorem dX16_part__35 : decode cX16_part_ 35 = .ok (.getfield 202, 3) := by decide +kernel
theorem dX16_part__38 : decode cX16_part_ 38 = .ok (.iconst 4, 1) := by decide +kernel
theorem dX16_part__39 : decode cX16_part_ 39 = .ok (.if_icmp .eq 6, 3) := by decide +kernel
theorem dX16_part__42 : decode cX16_part_ 42 = .ok (.bipush (-3), 2) := by decide +kernel
theorem dX16_part__44 : decode cX16_part_ 44 = .ok (.ireturn, 1) := by decide +kernel
theorem dX16_part__45 : decode cX16_part_ 45 = .ok (.iload_n 2, 1) := by decide +kernel
theorem dX16_part__46 : decode cX16_part_ 46 = .ok (.aload 4, 2) := by decide +kernel
theorem dX16_part__48 : decode cX16_part_ 48 = .ok (.getfield 202, 3) := by decide +kernel
theorem dX16_part__51 : decode cX16_part_ 51 = .ok (.iconst 3, 1) := by decide +kernel
theorem dX16_part__52 : decode cX16_part_ 52 = .ok (.if_icmp .ne 7, 3) := by decide +kernel
theorem dX16_part__55 : decode cX16_part_ 55 = .ok (.iconst (-1), 1) := by decide +kernel
theorem dX16_part__56 : decode cX16_part_ 56 = .ok (.goto 4, 3) := by decide +kernel
theorem dX16_part__59 : decode cX16_part_ 59 = .ok (.iconst 0, 1) := by decide +kernel
theorem dX16_part__60 : decode cX16_part_ 60 = .ok (.if_icmp .lt 12, 3) := by decide +kernel
theorem dX16_part__63 : decode cX16_part_ 63 = .ok (.iload_n 2, 1) := by decide +kernel
theorem dX16_part__64 : decode cX16_part_ 64 = .ok (.aload 4, 2) := by decide +kernel
theorem dX16_part__66 : decode cX16_part_ 66 = .ok (.getfield 234, 3) := by decide +kernel
theorem dX16_part__69 : decode cX16_part_ 69 = .ok (.if_icmp .le 5, 3) := by decide +kernel
theorem dX16_part__72 : decode cX16_part_ 72 = .ok (.iconst (-1), 1) := by decide +kernel
theorem dX16_part__73 : decode cX16_part_ 73 = .ok (.ireturn, 1) := by decide +kernel
theorem dX16_part__74 : decode cX16_part_ 74 = .ok (.iload_n 2, 1) := by decide +kernel
theorem dX16_part__75 : decode cX16_part_ 75 = .ok (.iconst (-1), 1) := by decide +kernel
theorem dX16_part__76 : decode cX16_part_ 76 = .ok (.if_icmp .ne 25, 3) := by decide +kernel
theorem dX16_part__79 : decode cX16_part_ 79 = .ok (.aload_n 0, 1) := by decide +kernel
theorem dX16_part__80 : decode cX16_part_ 80 = .ok (.getfield 453, 3) := by decide +kernel
theorem dX16_part__83 : decode cX16_part_ 83 = .ok (.aload 4, 2) := by decide +kernel
theorem dX16_part__85 : decode cX16_part_ 85 = .ok (.invokestatic 547, 3) := by decide +kernel
theorem dX16_part__88 : decode cX16_part_ 88 = .ok (.aload_n 0, 1) := by decide +kernel
theorem dX16_part__89 : decode cX16_part_ 89 = .ok (.getfield 453, 3) := by decide +kernel
theorem dX16_part__92 : decode cX16_part_ 92 = .ok (.invokestatic 257, 3) := by decide +kernel
theorem dX16_part__95 : decode cX16_part_ 95 = .ok (.aload_n 0, 1) := by decide +kernel
theorem dX16_part__96 : decode cX16_part_ 96 = .ok (.iload_n 3, 1) := by decide +kernel
theorem dX16_part__97 : decode cX16_part_ 97 = .ok (.invokevirtual 558, 3) := by decide +kernel
theorem dX16_part__100 : decode cX16_part_ 100 = .ok (.ireturn, 1) := by decide +kernel
theorem dX16_part__101 : decode cX16_part_ 101 = .ok (.aload_n 0, 1) := by decide +kernel
theorem dX16_part__102 : decode cX16_part_ 102 = .ok (.invokevirtual 555, 3) := by decide +kernel
theorem dX16_part__105 : decode cX16_part_ 105 = .ok (.aload_n 0, 1) := by decide +kernel
theorem dX16_part__106 : decode cX16_part_ 106 = .ok (.aload_n 0, 1) := by decide +kernel
theorem dX16_part__107 : decode cX16_part_ 107 = .ok (.getfield 453, 3) := by decide +kernel
theorem dX16_part__110 : decode cX16_part_ 110 = .ok (.iconst 0, 1) := by decide +kernel
theorem dX16_part__111 : decode cX16_part_ 111 = .ok (.invokevirtual 292, 3) := by decide +kernel
theorem dX16_part__114 : decode cX16_part_ 114 = .ok (.aload 4, 2) := by decide +kernel
theorem dX16_part__116 : decode cX16_part_ 116 = .ok (.getfield 237, 3) := by decide +kernel
theorem dX16_part__119 : decode cX16_part_ 119 = .ok (.bipush 25, 2) := by decide +kernel
theorem dX16_part__121 : decode cX16_part_ 121 = .ok (.iload_n 2, 1) := by decide +kernel
theorem dX16_part__122 : decode cX16_part_ 122 = .ok (.imul, 1) := by decide +kernel
theorem dX16_part__123 : decode cX16_part_ 123 = .ok (.aload_n 0, 1) := by decide +kernel
theorem dX16_part__124 : decode cX16_part_ 124 = .ok (.getfield 453, 3) := by decide +kernel
theorem dX16_part__127 : decode cX16_part_ 127 = .ok (.getfield 207, 3) := by decide +kernel
theorem dX16_part__130 : decode cX16_part_ 130 = .ok (.iconst 0, 1) := by decide +kernel
theorem dX16_part__131 : decode cX16_part_ 131 = .ok (.bipush 25, 2) := by decide +kernel
theorem dX16_part__133 : decode cX16_part_ 133 = .ok (.invokestatic 34, 3) := by decide +kernel
theorem dX16_part__136 : decode cX16_part_ 136 = .ok (.aload_n 0, 1) := by decide +kernel
theorem dX16_part__137 : decode cX16_part_ 137 = .ok (.iload_n 3, 1) := by decide +kernel
theorem dX16_part__138 : decode cX16_part_ 138 = .ok (.invokevirtual 558, 3) := by decide +kernel
theorem dX16_part__141 : decode cX16_part_ 141 = .ok (.ireturn, 1) := by decide +kernel
theorem dX16_check_0 : decode cX16_check 0 = .ok (.iload_n 1, 1) := by decide +kernel
theorem dX16_check_1 : decode cX16_check 1 = .ok (.invokestatic 551, 3) := by decide +kernel
theorem dX16_check_4 : decode cX16_check 4 = .ok (.ifCond .eq 10, 3) := by decide +kernel
theorem dX16_check_7 : decode cX16_check 7 = .ok (.iload_n 2, 1) := by decide +kernel
theorem dX16_check_8 : decode cX16_check 8 = .ok (.invokestatic 551, 3) := by decide +kernel
theorem dX16_check_11 : decode cX16_check 11 = .ok (.ifCond .ne 5, 3) := by decide +kernel
theorem dX16_check_14 : decode cX16_check 14 = .ok (.iconst (-1), 1) := by decide +kernel
theorem dX16_check_15 : decode cX16_check 15 = .ok (.ireturn, 1) := by decide +kernel
theorem dX16_check_16 : decode cX16_check 16 = .ok (.aload_n 0, 1) := by decide +kernel
theorem dX16_check_17 : decode cX16_check 17 = .ok (.getfield 450, 3) := by decide +kernel
theorem dX16_check_20 : decode cX16_check 20 = .ok (.iload_n 1, 1) := by decide +kernel
theorem dX16_check_21 : decode cX16_check 21 = .ok (.aaload, 1) := by decide +kernel
theorem dX16_check_22 : decode cX16_check 22 = .ok (.astore_n 3, 1) := by decide +kernel
theorem dX16_check_23 : decode cX16_check 23 = .ok (.aload_n 0, 1) := by decide +kernel
theorem dX16_check_24 : decode cX16_check 24 = .ok (.getfield 450, 3) := by decide +kernel
theorem dX16_check_27 : decode cX16_check 27 = .ok (.iload_n 2, 1) := by decide +kernel
theorem dX16_check_28 : decode cX16_check 28 = .ok (.aaload, 1) := by decide +kernel
theorem dX16_check_29 : decode cX16_check 29 = .ok (.astore 4, 2) := by decide +kernel
theorem dX16_check_31 : decode cX16_check 31 = .ok (.aload_n 3, 1) := by decide +kernel
theorem dX16_check_32 : decode cX16_check 32 = .ok (.getfield 202, 3) := by decide +kernel
theorem dX16_check_35 : decode cX16_check 35 = .ok (.iconst 3, 1) := by decide +kernel
theorem dX16_check_36 : decode cX16_check 36 = .ok (.if_icmp .ne 21, 3) := by decide +kernel
theorem dX16_check_39 : decode cX16_check 39 = .ok (.aload 4, 2) := by decide +kernel
theorem dX16_check_41 : decode cX16_check 41 = .ok (.getfield 202, 3) := by decide +kernel
theorem dX16_check_44 : decode cX16_check 44 = .ok (.iconst 1, 1) := by decide +kernel
theorem dX16_check_45 : decode cX16_check 45 = .ok (.if_icmp .eq 15, 3) := by decide +kernel
theorem dX16_check_48 : decode cX16_check 48 = .ok (.aload 4, 2) := by decide +kernel
theorem dX16_check_50 : decode cX16_check 50 = .ok (.getfield 202, 3) := by decide +kernel
theorem dX16_check_53 : decode cX16_check 53 = .ok (.iconst 2, 1) := by decide +kernel
theorem dX16_check_54 : decode cX16_check 54 = .ok (.if_icmp .eq 6, 3) := by decide +kernel
theorem dX16_check_57 : decode cX16_check 57 = .ok (.bipush (-3), 2) := by decide +kernel
theorem dX16_check_59 : decode cX16_check 59 = .ok (.ireturn, 1) := by decide +kernel
theorem dX16_check_60 : decode cX16_check 60 = .ok (.aload 4, 2) := by decide +kernel
theorem dX16_check_62 : decode cX16_check 62 = .ok (.invokestatic 288, 3) := by decide +kernel
theorem dX16_check_65 : decode cX16_check 65 = .ok (.ifCond .eq 5, 3) := by decide +kernel
theorem dX16_check_68 : decode cX16_check 68 = .ok (.iconst (-1), 1) := by decide +kernel
theorem dX16_check_69 : decode cX16_check 69 = .ok (.ireturn, 1) := by decide +kernel
theorem dX16_check_70 : decode cX16_check 70 = .ok (.aload_n 0, 1) := by decide +kernel
theorem dX16_check_71 : decode cX16_check 71 = .ok (.invokevirtual 555, 3) := by decide +kernel
theorem dX16_check_74 : decode cX16_check 74 = .ok (.bipush 24, 2) := by decide +kernel
theorem dX16_check_76 : decode cX16_check 76 = .ok (.istore 5, 2) := by decide +kernel
theorem dX16_check_78 : decode cX16_check 78 = .ok (.iconst 0, 1) := by decide +kernel
theorem dX16_check_79 : decode cX16_check 79 = .ok (.istore 6, 2) := by decide +kernel
theorem dX16_check_81 : decode cX16_check 81 = .ok (.iconst 0, 1) := by decide +kernel
theorem dX16_check_82 : decode cX16_check 82 = .ok (.istore 7, 2) := by decide +kernel
theorem dX16_check_84 : decode cX16_check 84 = .ok (.iload 7, 2) := by decide +kernel
theorem dX16_check_86 : decode cX16_check 86 = .ok (.aload_n 3, 1) := by decide +kernel
theorem dX16_check_87 : decode cX16_check 87 = .ok (.getfield 234, 3) := by decide +kernel
theorem dX16_check_90 : decode cX16_check 90 = .ok (.if_icmp .gt 116, 3) := by decide +kernel
theorem dX16_check_93 : decode cX16_check 93 = .ok (.aload_n 0, 1) := by decide +kernel
theorem dX16_check_94 : decode cX16_check 94 = .ok (.getfield 511, 3) := by decide +kernel
theorem dX16_check_97 : decode cX16_check 97 = .ok (.iload 7, 2) := by decide +kernel
theorem dX16_check_99 : decode cX16_check 99 = .ok (.aload_n 0, 1) := by decide +kernel
theorem dX16_check_100 : decode cX16_check 100 = .ok (.invokevirtual 140, 3) := by decide +kernel
theorem dX16_check_103 : decode cX16_check 103 = .ok (.aastore, 1) := by decide +kernel
theorem dX16_check_104 : decode cX16_check 104 = .ok (.aload_n 0, 1) := by decide +kernel
theorem dX16_check_105 : decode cX16_check 105 = .ok (.getfield 514, 3) := by decide +kernel
theorem dX16_check_108 : decode cX16_check 108 = .ok (.iload 7, 2) := by decide +kernel
theorem dX16_check_110 : decode cX16_check 110 = .ok (.aload_n 0, 1) := by decide +kernel
theorem dX16_check_111 : decode cX16_check 111 = .ok (.invokevirtual 140, 3) := by decide +kernel
theorem dX16_check_114 : decode cX16_check 114 = .ok (.aastore, 1) := by decide +kernel
theorem dX16_check_115 : decode cX16_check 115 = .ok (.aload_n 0, 1) := by decide +kernel
theorem dX16_check_116 : decode cX16_check 116 = .ok (.aload_n 0, 1) := by decide +kernel
theorem dX16_check_117 : decode cX16_check 117 = .ok (.getfield 511, 3) := by decide +kernel
theorem dX16_check_120 : decode cX16_check 120 = .ok (.iload 7, 2) := by decide +kernel
theorem dX16_check_122 : decode cX16_check 122 = .ok (.aaload, 1) := by decide +kernel
theorem dX16_check_123 : decode cX16_check 123 = .ok (.aload_n 0, 1) := by decide +kernel
theorem dX16_check_124 : decode cX16_check 124 = .ok (.getfield 514, 3) := by decide +kernel
theorem dX16_check_127 : decode cX16_check 127 = .ok (.iload 7, 2) := by decide +kernel
theorem dX16_check_129 : decode cX16_check 129 = .ok (.aaload, 1) := by decide +kernel
theorem dX16_check_130 : decode cX16_check 130 = .ok (.aload 4, 2) := by decide +kernel
theorem dX16_check_132 : decode cX16_check 132 = .ok (.iload 7, 2) := by decide +kernel
theorem dX16_check_134 : decode cX16_check 134 = .ok (.iconst 0, 1) := by decide +kernel
theorem dX16_check_135 : decode cX16_check 135 = .ok (.invokevirtual 633, 3) := by decide +kernel
theorem dX16_check_138 : decode cX16_check 138 = .ok (.ifCond .ne 6, 3) := by decide +kernel
theorem dX16_check_141 : decode cX16_check 141 = .ok (.bipush (-2), 2) := by decide +kernel
theorem dX16_check_143 : decode cX16_check 143 = .ok (.ireturn, 1) := by decide +kernel
theorem dX16_check_144 : decode cX16_check 144 = .ok (.iload 5, 2) := by decide +kernel
theorem dX16_check_146 : decode cX16_check 146 = .ok (.aload_n 0, 1) := by decide +kernel
theorem dX16_check_147 : decode cX16_check 147 = .ok (.getfield 511, 3) := by decide +kernel
theorem dX16_check_150 : decode cX16_check 150 = .ok (.iload 7, 2) := by decide +kernel
theorem dX16_check_152 : decode cX16_check 152 = .ok (.aaload, 1) := by decide +kernel
theorem dX16_check_153 : decode cX16_check 153 = .ok (.invokevirtual 119, 3) := by decide +kernel
theorem dX16_check_156 : decode cX16_check 156 = .ok (.aload_n 0, 1) := by decide +kernel
theorem dX16_check_157 : decode cX16_check 157 = .ok (.getfield 514, 3) := by decide +kernel
theorem dX16_check_160 : decode cX16_check 160 = .ok (.iload 7, 2) := by decide +kernel
theorem dX16_check_162 : decode cX16_check 162 = .ok (.aaload, 1) := by decide +kernel
theorem dX16_check_163 : decode cX16_check 163 = .ok (.invokevirtual 119, 3) := by decide +kernel
theorem dX16_check_166 : decode cX16_check 166 = .ok (.invokestatic 40, 3) := by decide +kernel
theorem dX16_check_169 : decode cX16_check 169 = .ok (.iadd, 1) := by decide +kernel
theorem dX16_check_170 : decode cX16_check 170 = .ok (.istore 5, 2) := by decide +kernel
theorem dX16_check_172 : decode cX16_check 172 = .ok (.iload 6, 2) := by decide +kernel
theorem dX16_check_174 : decode cX16_check 174 = .ok (.aload_n 0, 1) := by decide +kernel
theorem dX16_check_175 : decode cX16_check 175 = .ok (.getfield 511, 3) := by decide +kernel
theorem dX16_check_178 : decode cX16_check 178 = .ok (.iload 7, 2) := by decide +kernel
theorem dX16_check_180 : decode cX16_check 180 = .ok (.aaload, 1) := by decide +kernel
theorem dX16_check_181 : decode cX16_check 181 = .ok (.invokevirtual 314, 3) := by decide +kernel
theorem dX16_check_184 : decode cX16_check 184 = .ok (.aload_n 0, 1) := by decide +kernel
theorem dX16_check_185 : decode cX16_check 185 = .ok (.getfield 514, 3) := by decide +kernel
theorem dX16_check_188 : decode cX16_check 188 = .ok (.iload 7, 2) := by decide +kernel
theorem dX16_check_190 : decode cX16_check 190 = .ok (.aaload, 1) := by decide +kernel
theorem dX16_check_191 : decode cX16_check 191 = .ok (.invokevirtual 314, 3) := by decide +kernel
theorem dX16_check_194 : decode cX16_check 194 = .ok (.invokestatic 40, 3) := by decide +kernel
theorem dX16_check_197 : decode cX16_check 197 = .ok (.iadd, 1) := by decide +kernel
theorem dX16_check_198 : decode cX16_check 198 = .ok (.istore 6, 2) := by decide +kernel
theorem dX16_check_200 : decode cX16_check 200 = .ok (.iinc 7 1, 3) := by decide +kernel
theorem dX16_check_203 : decode cX16_check 203 = .ok (.goto (-119), 3) := by decide +kernel
theorem dX16_check_206 : decode cX16_check 206 = .ok (.aload_n 0, 1) := by decide +kernel
theorem dX16_check_207 : decode cX16_check 207 = .ok (.invokevirtual 140, 3) := by decide +kernel
theorem dX16_check_210 : decode cX16_check 210 = .ok (.astore 7, 2) := by decide +kernel
theorem dX16_check_212 : decode cX16_check 212 = .ok (.aload_n 0, 1) := by decide +kernel
theorem dX16_check_213 : decode cX16_check 213 = .ok (.invokevirtual 140, 3) := by decide +kernel
theorem dX16_check_216 : decode cX16_check 216 = .ok (.astore 8, 2) := by decide +kernel
theorem dX16_check_218 : decode cX16_check 218 = .ok (.aload_n 0, 1) := by decide +kernel
theorem dX16_check_219 : decode cX16_check 219 = .ok (.aload 7, 2) := by decide +kernel
theorem dX16_check_221 : decode cX16_check 221 = .ok (.aload 8, 2) := by decide +kernel
theorem dX16_check_223 : decode cX16_check 223 = .ok (.aload 4, 2) := by decide +kernel
theorem dX16_check_225 : decode cX16_check 225 = .ok (.iconst 0, 1) := by decide +kernel
theorem dX16_check_226 : decode cX16_check 226 = .ok (.iconst 1, 1) := by decide +kernel
theorem dX16_check_227 : decode cX16_check 227 = .ok (.invokevirtual 633, 3) := by decide +kernel
theorem dX16_check_230 : decode cX16_check 230 = .ok (.ifCond .ne 6, 3) := by decide +kernel
theorem dX16_check_233 : decode cX16_check 233 = .ok (.bipush (-2), 2) := by decide +kernel
theorem dX16_check_235 : decode cX16_check 235 = .ok (.ireturn, 1) := by decide +kernel
theorem dX16_check_236 : decode cX16_check 236 = .ok (.aload_n 0, 1) := by decide +kernel
theorem dX16_check_237 : decode cX16_check 237 = .ok (.invokevirtual 140, 3) := by decide +kernel
theorem dX16_check_240 : decode cX16_check 240 = .ok (.astore 9, 2) := by decide +kernel
theorem dX16_check_242 : decode cX16_check 242 = .ok (.aload_n 0, 1) := by decide +kernel
theorem dX16_check_243 : decode cX16_check 243 = .ok (.invokevirtual 140, 3) := by decide +kernel
theorem dX16_check_246 : decode cX16_check 246 = .ok (.astore 10, 2) := by decide +kernel
theorem dX16_check_248 : decode cX16_check 248 = .ok (.aload 9, 2) := by decide +kernel
theorem dX16_check_250 : decode cX16_check 250 = .ok (.aload_n 3, 1) := by decide +kernel
theorem dX16_check_251 : decode cX16_check 251 = .ok (.getfield 207, 3) := by decide +kernel
theorem dX16_check_254 : decode cX16_check 254 = .ok (.invokestatic 295, 3) := by decide +kernel
theorem dX16_check_257 : decode cX16_check 257 = .ok (.aload 10, 2) := by decide +kernel
theorem dX16_check_259 : decode cX16_check 259 = .ok (.aload_n 3, 1) := by decide +kernel
theorem dX16_check_260 : decode cX16_check 260 = .ok (.getfield 210, 3) := by decide +kernel
theorem dX16_check_263 : decode cX16_check 263 = .ok (.invokestatic 295, 3) := by decide +kernel
theorem dX16_check_266 : decode cX16_check 266 = .ok (.iload 5, 2) := by decide +kernel
theorem dX16_check_268 : decode cX16_check 268 = .ok (.aload 7, 2) := by decide +kernel
theorem dX16_check_270 : decode cX16_check 270 = .ok (.invokevirtual 119, 3) := by decide +kernel
theorem dX16_check_273 : decode cX16_check 273 = .ok (.aload 8, 2) := by decide +kernel
theorem dX16_check_275 : decode cX16_check 275 = .ok (.invokevirtual 119, 3) := by decide +kernel
theorem dX16_check_278 : decode cX16_check 278 = .ok (.invokestatic 40, 3) := by decide +kernel
theorem dX16_check_281 : decode cX16_check 281 = .ok (.iconst 2, 1) := by decide +kernel
theorem dX16_check_282 : decode cX16_check 282 = .ok (.aload 9, 2) := by decide +kernel
theorem dX16_check_284 : decode cX16_check 284 = .ok (.invokevirtual 119, 3) := by decide +kernel
theorem dX16_check_287 : decode cX16_check 287 = .ok (.aload 10, 2) := by decide +kernel
theorem dX16_check_289 : decode cX16_check 289 = .ok (.invokevirtual 119, 3) := by decide +kernel
theorem dX16_check_292 : decode cX16_check 292 = .ok (.invokestatic 40, 3) := by decide +kernel
theorem dX16_check_295 : decode cX16_check 295 = .ok (.imul, 1) := by decide +kernel
theorem dX16_check_296 : decode cX16_check 296 = .ok (.iadd, 1) := by decide +kernel
theorem dX16_check_297 : decode cX16_check 297 = .ok (.iadd, 1) := by decide +kernel
theorem dX16_check_298 : decode cX16_check 298 = .ok (.istore 5, 2) := by decide +kernel
theorem dX16_check_300 : decode cX16_check 300 = .ok (.iload 6, 2) := by decide +kernel
theorem dX16_check_302 : decode cX16_check 302 = .ok (.aload 7, 2) := by decide +kernel
theorem dX16_check_304 : decode cX16_check 304 = .ok (.invokevirtual 314, 3) := by decide +kernel
theorem dX16_check_307 : decode cX16_check 307 = .ok (.aload 8, 2) := by decide +kernel
theorem dX16_check_309 : decode cX16_check 309 = .ok (.invokevirtual 314, 3) := by decide +kernel
theorem dX16_check_312 : decode cX16_check 312 = .ok (.invokestatic 40, 3) := by decide +kernel
theorem dX16_check_315 : decode cX16_check 315 = .ok (.iconst 2, 1) := by decide +kernel
theorem dX16_check_316 : decode cX16_check 316 = .ok (.aload 9, 2) := by decide +kernel
theorem dX16_check_318 : decode cX16_check 318 = .ok (.invokevirtual 314, 3) := by decide +kernel
theorem dX16_check_321 : decode cX16_check 321 = .ok (.aload 10, 2) := by decide +kernel
theorem dX16_check_323 : decode cX16_check 323 = .ok (.invokevirtual 314, 3) := by decide +kernel
theorem dX16_check_326 : decode cX16_check 326 = .ok (.invokestatic 40, 3) := by decide +kernel
theorem dX16_check_329 : decode cX16_check 329 = .ok (.imul, 1) := by decide +kernel
theorem dX16_check_330 : decode cX16_check 330 = .ok (.iadd, 1) := by decide +kernel
theorem dX16_check_331 : decode cX16_check 331 = .ok (.iadd, 1) := by decide +kernel
theorem dX16_check_332 : decode cX16_check 332 = .ok (.istore 6, 2) := by decide +kernel
theorem dX16_check_334 : decode cX16_check 334 = .ok (.iconst 0, 1) := by decide +kernel
theorem dX16_check_335 : decode cX16_check 335 = .ok (.istore 11, 2) := by decide +kernel
theorem dX16_check_337 : decode cX16_check 337 = .ok (.iload 11, 2) := by decide +kernel
theorem dX16_check_339 : decode cX16_check 339 = .ok (.iload 5, 2) := by decide +kernel
theorem dX16_check_341 : decode cX16_check 341 = .ok (.if_icmp .gt 47, 3) := by decide +kernel
theorem dX16_check_344 : decode cX16_check 344 = .ok (.iconst 0, 1) := by decide +kernel
theorem dX16_check_345 : decode cX16_check 345 = .ok (.istore 12, 2) := by decide +kernel
theorem dX16_check_347 : decode cX16_check 347 = .ok (.iload 12, 2) := by decide +kernel
theorem dX16_check_349 : decode cX16_check 349 = .ok (.iload 6, 2) := by decide +kernel
theorem dX16_check_351 : decode cX16_check 351 = .ok (.if_icmp .gt 31, 3) := by decide +kernel
theorem dX16_check_354 : decode cX16_check 354 = .ok (.aload_n 0, 1) := by decide +kernel
theorem dX16_check_355 : decode cX16_check 355 = .ok (.aload_n 3, 1) := by decide +kernel
theorem dX16_check_356 : decode cX16_check 356 = .ok (.iload 11, 2) := by decide +kernel
theorem dX16_check_358 : decode cX16_check 358 = .ok (.iload 12, 2) := by decide +kernel
theorem dX16_check_360 : decode cX16_check 360 = .ok (.aload 7, 2) := by decide +kernel
theorem dX16_check_362 : decode cX16_check 362 = .ok (.aload 8, 2) := by decide +kernel
theorem dX16_check_364 : decode cX16_check 364 = .ok (.aload 9, 2) := by decide +kernel
theorem dX16_check_366 : decode cX16_check 366 = .ok (.aload 10, 2) := by decide +kernel
theorem dX16_check_368 : decode cX16_check 368 = .ok (.invokevirtual 765, 3) := by decide +kernel
theorem dX16_check_371 : decode cX16_check 371 = .ok (.ifCond .ne 5, 3) := by decide +kernel
theorem dX16_check_374 : decode cX16_check 374 = .ok (.iconst 0, 1) := by decide +kernel
theorem dX16_check_375 : decode cX16_check 375 = .ok (.ireturn, 1) := by decide +kernel
theorem dX16_check_376 : decode cX16_check 376 = .ok (.iinc 12 1, 3) := by decide +kernel
theorem dX16_check_379 : decode cX16_check 379 = .ok (.goto (-32), 3) := by decide +kernel
theorem dX16_check_382 : decode cX16_check 382 = .ok (.iinc 11 1, 3) := by decide +kernel
theorem dX16_check_385 : decode cX16_check 385 = .ok (.goto (-48), 3) := by decide +kernel
theorem dX16_check_388 : decode cX16_check 388 = .ok (.iconst 1, 1) := by decide +kernel
theorem dX16_check_389 : decode cX16_check 389 = .ok (.ireturn, 1) := by decide +kernel
theorem dX16_poke_0 : decode cX16_poke 0 = .ok (.iload_n 1, 1) := by decide +kernel
theorem dX16_poke_1 : decode cX16_poke 1 = .ok (.invokestatic 551, 3) := by decide +kernel
theorem dX16_poke_4 : decode cX16_poke 4 = .ok (.ifCond .ne 5, 3) := by decide +kernel
theorem dX16_poke_7 : decode cX16_poke 7 = .ok (.iconst (-1), 1) := by decide +kernel
theorem dX16_poke_8 : decode cX16_poke 8 = .ok (.ireturn, 1) := by decide +kernel
theorem dX16_poke_9 : decode cX16_poke 9 = .ok (.aload_n 0, 1) := by decide +kernel
theorem dX16_poke_10 : decode cX16_poke 10 = .ok (.getfield 450, 3) := by decide +kernel
theorem dX16_poke_13 : decode cX16_poke 13 = .ok (.iload_n 1, 1) := by decide +kernel
theorem dX16_poke_14 : decode cX16_poke 14 = .ok (.aaload, 1) := by decide +kernel
theorem dX16_poke_15 : decode cX16_poke 15 = .ok (.astore 6, 2) := by decide +kernel
theorem dX16_poke_17 : decode cX16_poke 17 = .ok (.aload 6, 2) := by decide +kernel
theorem dX16_poke_19 : decode cX16_poke 19 = .ok (.getfield 202, 3) := by decide +kernel
theorem dX16_poke_22 : decode cX16_poke 22 = .ok (.iconst 3, 1) := by decide +kernel
theorem dX16_poke_23 : decode cX16_poke 23 = .ok (.if_icmp .eq 6, 3) := by decide +kernel
theorem dX16_poke_26 : decode cX16_poke 26 = .ok (.bipush (-3), 2) := by decide +kernel
theorem dX16_poke_28 : decode cX16_poke 28 = .ok (.ireturn, 1) := by decide +kernel
theorem dX16_poke_29 : decode cX16_poke 29 = .ok (.iload_n 2, 1) := by decide +kernel
theorem dX16_poke_30 : decode cX16_poke 30 = .ok (.iconst (-1), 1) := by decide +kernel
theorem dX16_poke_31 : decode cX16_poke 31 = .ok (.if_icmp .lt 42, 3) := by decide +kernel
theorem dX16_poke_34 : decode cX16_poke 34 = .ok (.iload_n 2, 1) := by decide +kernel
theorem dX16_poke_35 : decode cX16_poke 35 = .ok (.aload 6, 2) := by decide +kernel
theorem dX16_poke_37 : decode cX16_poke 37 = .ok (.getfield 234, 3) := by decide +kernel
theorem dX16_poke_40 : decode cX16_poke 40 = .ok (.if_icmp .gt 33, 3) := by decide +kernel
theorem dX16_poke_43 : decode cX16_poke 43 = .ok (.iload_n 3, 1) := by decide +kernel
theorem dX16_poke_44 : decode cX16_poke 44 = .ok (.ifCond .lt 29, 3) := by decide +kernel
theorem dX16_poke_47 : decode cX16_poke 47 = .ok (.iload_n 3, 1) := by decide +kernel
theorem dX16_poke_48 : decode cX16_poke 48 = .ok (.bipush 24, 2) := by decide +kernel
theorem dX16_poke_50 : decode cX16_poke 50 = .ok (.if_icmp .gt 23, 3) := by decide +kernel
theorem dX16_poke_53 : decode cX16_poke 53 = .ok (.iload 4, 2) := by decide +kernel
theorem dX16_poke_55 : decode cX16_poke 55 = .ok (.ifCond .lt 18, 3) := by decide +kernel
theorem dX16_poke_58 : decode cX16_poke 58 = .ok (.iload 4, 2) := by decide +kernel
theorem dX16_poke_60 : decode cX16_poke 60 = .ok (.iload_n 2, 1) := by decide +kernel
theorem dX16_poke_61 : decode cX16_poke 61 = .ok (.ifCond .ge 8, 3) := by decide +kernel
theorem dX16_poke_64 : decode cX16_poke 64 = .ok (.bipush 12, 2) := by decide +kernel
theorem dX16_poke_66 : decode cX16_poke 66 = .ok (.goto 4, 3) := by decide +kernel
theorem dX16_poke_69 : decode cX16_poke 69 = .ok (.iconst 0, 1) := by decide +kernel
theorem dX16_poke_70 : decode cX16_poke 70 = .ok (.if_icmp .le 5, 3) := by decide +kernel
theorem dX16_poke_73 : decode cX16_poke 73 = .ok (.iconst (-1), 1) := by decide +kernel
theorem dX16_poke_74 : decode cX16_poke 74 = .ok (.ireturn, 1) := by decide +kernel
theorem dX16_poke_75 : decode cX16_poke 75 = .ok (.iload_n 2, 1) := by decide +kernel
theorem dX16_poke_76 : decode cX16_poke 76 = .ok (.ifCond .ge 11, 3) := by decide +kernel
theorem dX16_poke_79 : decode cX16_poke 79 = .ok (.aload 6, 2) := by decide +kernel
theorem dX16_poke_81 : decode cX16_poke 81 = .ok (.getfield 207, 3) := by decide +kernel
theorem dX16_poke_84 : decode cX16_poke 84 = .ok (.goto 8, 3) := by decide +kernel
theorem dX16_poke_87 : decode cX16_poke 87 = .ok (.aload 6, 2) := by decide +kernel
theorem dX16_poke_89 : decode cX16_poke 89 = .ok (.getfield 237, 3) := by decide +kernel
theorem dX16_poke_92 : decode cX16_poke 92 = .ok (.astore 7, 2) := by decide +kernel
theorem dX16_poke_94 : decode cX16_poke 94 = .ok (.iload_n 2, 1) := by decide +kernel
theorem dX16_poke_95 : decode cX16_poke 95 = .ok (.ifCond .ge 13, 3) := by decide +kernel
theorem dX16_poke_98 : decode cX16_poke 98 = .ok (.bipush 25, 2) := by decide +kernel
theorem dX16_poke_100 : decode cX16_poke 100 = .ok (.iload 4, 2) := by decide +kernel
theorem dX16_poke_102 : decode cX16_poke 102 = .ok (.imul, 1) := by decide +kernel
theorem dX16_poke_103 : decode cX16_poke 103 = .ok (.iload_n 3, 1) := by decide +kernel
theorem dX16_poke_104 : decode cX16_poke 104 = .ok (.iadd, 1) := by decide +kernel
theorem dX16_poke_105 : decode cX16_poke 105 = .ok (.goto 9, 3) := by decide +kernel
theorem dX16_poke_108 : decode cX16_poke 108 = .ok (.bipush 25, 2) := by decide +kernel
theorem dX16_poke_110 : decode cX16_poke 110 = .ok (.iload_n 2, 1) := by decide +kernel
theorem dX16_poke_111 : decode cX16_poke 111 = .ok (.imul, 1) := by decide +kernel
theorem dX16_poke_112 : decode cX16_poke 112 = .ok (.iload_n 3, 1) := by decide +kernel
theorem dX16_poke_113 : decode cX16_poke 113 = .ok (.iadd, 1) := by decide +kernel
theorem dX16_poke_114 : decode cX16_poke 114 = .ok (.istore 8, 2) := by decide +kernel
theorem dX16_poke_116 : decode cX16_poke 116 = .ok (.aload 7, 2) := by decide +kernel
theorem dX16_poke_118 : decode cX16_poke 118 = .ok (.iload 8, 2) := by decide +kernel
theorem dX16_poke_120 : decode cX16_poke 120 = .ok (.iaload, 1) := by decide +kernel
theorem dX16_poke_121 : decode cX16_poke 121 = .ok (.istore 9, 2) := by decide +kernel
theorem dX16_poke_123 : decode cX16_poke 123 = .ok (.aload 7, 2) := by decide +kernel
theorem dX16_poke_125 : decode cX16_poke 125 = .ok (.iload 8, 2) := by decide +kernel
theorem dX16_poke_127 : decode cX16_poke 127 = .ok (.iload 5, 2) := by decide +kernel
theorem dX16_poke_129 : decode cX16_poke 129 = .ok (.invokestatic 600, 3) := by decide +kernel
theorem dX16_poke_132 : decode cX16_poke 132 = .ok (.iastore, 1) := by decide +kernel
theorem dX16_poke_133 : decode cX16_poke 133 = .ok (.iload_n 2, 1) := by decide +kernel
theorem dX16_poke_134 : decode cX16_poke 134 = .ok (.ifCond .ge 58, 3) := by decide +kernel
theorem dX16_poke_137 : decode cX16_poke 137 = .ok (.aload_n 0, 1) := by decide +kernel
theorem dX16_poke_138 : decode cX16_poke 138 = .ok (.invokevirtual 555, 3) := by decide +kernel
theorem dX16_poke_141 : decode cX16_poke 141 = .ok (.aload_n 0, 1) := by decide +kernel
theorem dX16_poke_142 : decode cX16_poke 142 = .ok (.invokevirtual 140, 3) := by decide +kernel
theorem dX16_poke_145 : decode cX16_poke 145 = .ok (.astore 10, 2) := by decide +kernel
theorem dX16_poke_147 : decode cX16_poke 147 = .ok (.aload_n 0, 1) := by decide +kernel
theorem dX16_poke_148 : decode cX16_poke 148 = .ok (.invokevirtual 140, 3) := by decide +kernel
theorem dX16_poke_151 : decode cX16_poke 151 = .ok (.astore 11, 2) := by decide +kernel
theorem dX16_poke_153 : decode cX16_poke 153 = .ok (.aload 10, 2) := by decide +kernel
theorem dX16_poke_155 : decode cX16_poke 155 = .ok (.aload 6, 2) := by decide +kernel
theorem dX16_poke_157 : decode cX16_poke 157 = .ok (.getfield 207, 3) := by decide +kernel
theorem dX16_poke_160 : decode cX16_poke 160 = .ok (.invokestatic 295, 3) := by decide +kernel
theorem dX16_poke_163 : decode cX16_poke 163 = .ok (.aload 11, 2) := by decide +kernel
theorem dX16_poke_165 : decode cX16_poke 165 = .ok (.aload 6, 2) := by decide +kernel
theorem dX16_poke_167 : decode cX16_poke 167 = .ok (.getfield 210, 3) := by decide +kernel
theorem dX16_poke_170 : decode cX16_poke 170 = .ok (.invokestatic 295, 3) := by decide +kernel
theorem dX16_poke_173 : decode cX16_poke 173 = .ok (.aload_n 0, 1) := by decide +kernel
theorem dX16_poke_174 : decode cX16_poke 174 = .ok (.aload 10, 2) := by decide +kernel
theorem dX16_poke_176 : decode cX16_poke 176 = .ok (.aload 11, 2) := by decide +kernel
theorem dX16_poke_178 : decode cX16_poke 178 = .ok (.invokevirtual 659, 3) := by decide +kernel
theorem dX16_poke_181 : decode cX16_poke 181 = .ok (.aload 6, 2) := by decide +kernel
theorem dX16_poke_183 : decode cX16_poke 183 = .ok (.aload 10, 2) := by decide +kernel
theorem dX16_poke_185 : decode cX16_poke 185 = .ok (.aload 11, 2) := by decide +kernel
theorem dX16_poke_187 : decode cX16_poke 187 = .ok (.invokestatic 261, 3) := by decide +kernel
theorem dX16_poke_190 : decode cX16_poke 190 = .ok (.istore 12, 2) := by decide +kernel
theorem dX16_poke_192 : decode cX16_poke 192 = .ok (.iload 9, 2) := by decide +kernel
theorem dX16_poke_194 : decode cX16_poke 194 = .ok (.ireturn, 1) := by decide +kernel
theorem dX16_holds_0 : decode cX16_holds 0 = .ok (.iload_n 1, 1) := by decide +kernel
theorem dX16_holds_1 : decode cX16_holds 1 = .ok (.invokestatic 551, 3) := by decide +kernel
theorem dX16_holds_4 : decode cX16_holds 4 = .ok (.ifCond .eq 10, 3) := by decide +kernel
theorem dX16_holds_7 : decode cX16_holds 7 = .ok (.iload_n 2, 1) := by decide +kernel
theorem dX16_holds_8 : decode cX16_holds 8 = .ok (.invokestatic 551, 3) := by decide +kernel
theorem dX16_holds_11 : decode cX16_holds 11 = .ok (.ifCond .ne 5, 3) := by decide +kernel
theorem dX16_holds_14 : decode cX16_holds 14 = .ok (.iconst (-1), 1) := by decide +kernel
theorem dX16_holds_15 : decode cX16_holds 15 = .ok (.ireturn, 1) := by decide +kernel
theorem dX16_holds_16 : decode cX16_holds 16 = .ok (.aload_n 0, 1) := by decide +kernel
theorem dX16_holds_17 : decode cX16_holds 17 = .ok (.getfield 450, 3) := by decide +kernel
theorem dX16_holds_20 : decode cX16_holds 20 = .ok (.iload_n 1, 1) := by decide +kernel
theorem dX16_holds_21 : decode cX16_holds 21 = .ok (.aaload, 1) := by decide +kernel
theorem dX16_holds_22 : decode cX16_holds 22 = .ok (.astore 6, 2) := by decide +kernel
theorem dX16_holds_24 : decode cX16_holds 24 = .ok (.aload_n 0, 1) := by decide +kernel
theorem dX16_holds_25 : decode cX16_holds 25 = .ok (.getfield 450, 3) := by decide +kernel
theorem dX16_holds_28 : decode cX16_holds 28 = .ok (.iload_n 2, 1) := by decide +kernel
theorem dX16_holds_29 : decode cX16_holds 29 = .ok (.aaload, 1) := by decide +kernel
theorem dX16_holds_30 : decode cX16_holds 30 = .ok (.astore 7, 2) := by decide +kernel
theorem dX16_holds_32 : decode cX16_holds 32 = .ok (.aload 6, 2) := by decide +kernel
theorem dX16_holds_34 : decode cX16_holds 34 = .ok (.getfield 202, 3) := by decide +kernel
theorem dX16_holds_37 : decode cX16_holds 37 = .ok (.iconst 3, 1) := by decide +kernel
theorem dX16_holds_38 : decode cX16_holds 38 = .ok (.if_icmp .ne 21, 3) := by decide +kernel
theorem dX16_holds_41 : decode cX16_holds 41 = .ok (.aload 7, 2) := by decide +kernel
theorem dX16_holds_43 : decode cX16_holds 43 = .ok (.getfield 202, 3) := by decide +kernel
theorem dX16_holds_46 : decode cX16_holds 46 = .ok (.iconst 1, 1) := by decide +kernel
theorem dX16_holds_47 : decode cX16_holds 47 = .ok (.if_icmp .eq 15, 3) := by decide +kernel
theorem dX16_holds_50 : decode cX16_holds 50 = .ok (.aload 7, 2) := by decide +kernel
theorem dX16_holds_52 : decode cX16_holds 52 = .ok (.getfield 202, 3) := by decide +kernel
theorem dX16_holds_55 : decode cX16_holds 55 = .ok (.iconst 2, 1) := by decide +kernel
theorem dX16_holds_56 : decode cX16_holds 56 = .ok (.if_icmp .eq 6, 3) := by decide +kernel
theorem dX16_holds_59 : decode cX16_holds 59 = .ok (.bipush (-3), 2) := by decide +kernel
theorem dX16_holds_61 : decode cX16_holds 61 = .ok (.ireturn, 1) := by decide +kernel
theorem dX16_holds_62 : decode cX16_holds 62 = .ok (.iload_n 3, 1) := by decide +kernel
theorem dX16_holds_63 : decode cX16_holds 63 = .ok (.invokestatic 682, 3) := by decide +kernel
theorem dX16_holds_66 : decode cX16_holds 66 = .ok (.ifCond .eq 42, 3) := by decide +kernel
theorem dX16_holds_69 : decode cX16_holds 69 = .ok (.iload 4, 2) := by decide +kernel
theorem dX16_holds_71 : decode cX16_holds 71 = .ok (.invokestatic 682, 3) := by decide +kernel
theorem dX16_holds_74 : decode cX16_holds 74 = .ok (.ifCond .eq 34, 3) := by decide +kernel
theorem dX16_holds_77 : decode cX16_holds 77 = .ok (.iload 5, 2) := by decide +kernel
theorem dX16_holds_79 : decode cX16_holds 79 = .ok (.invokestatic 682, 3) := by decide +kernel
theorem dX16_holds_82 : decode cX16_holds 82 = .ok (.ifCond .eq 26, 3) := by decide +kernel
theorem dX16_holds_85 : decode cX16_holds 85 = .ok (.iload_n 3, 1) := by decide +kernel
theorem dX16_holds_86 : decode cX16_holds 86 = .ok (.aload 6, 2) := by decide +kernel
theorem dX16_holds_88 : decode cX16_holds 88 = .ok (.getfield 234, 3) := by decide +kernel
theorem dX16_holds_91 : decode cX16_holds 91 = .ok (.iadd, 1) := by decide +kernel
theorem dX16_holds_92 : decode cX16_holds 92 = .ok (.sipush 500, 3) := by decide +kernel
theorem dX16_holds_95 : decode cX16_holds 95 = .ok (.if_icmp .gt 13, 3) := by decide +kernel
theorem dX16_holds_98 : decode cX16_holds 98 = .ok (.iload 5, 2) := by decide +kernel
theorem dX16_holds_100 : decode cX16_holds 100 = .ok (.iconst 1, 1) := by decide +kernel
theorem dX16_holds_101 : decode cX16_holds 101 = .ok (.iadd, 1) := by decide +kernel
theorem dX16_holds_102 : decode cX16_holds 102 = .ok (.sipush 500, 3) := by decide +kernel
theorem dX16_holds_105 : decode cX16_holds 105 = .ok (.if_icmp .le 5, 3) := by decide +kernel
theorem dX16_holds_108 : decode cX16_holds 108 = .ok (.iconst (-1), 1) := by decide +kernel
theorem dX16_holds_109 : decode cX16_holds 109 = .ok (.ireturn, 1) := by decide +kernel
theorem dX16_holds_110 : decode cX16_holds 110 = .ok (.iconst 0, 1) := by decide +kernel
theorem dX16_holds_111 : decode cX16_holds 111 = .ok (.istore 8, 2) := by decide +kernel
theorem dX16_holds_113 : decode cX16_holds 113 = .ok (.iconst 0, 1) := by decide +kernel
theorem dX16_holds_114 : decode cX16_holds 114 = .ok (.istore 9, 2) := by decide +kernel
theorem dX16_holds_116 : decode cX16_holds 116 = .ok (.iload 9, 2) := by decide +kernel
theorem dX16_holds_118 : decode cX16_holds 118 = .ok (.aload 6, 2) := by decide +kernel
theorem dX16_holds_120 : decode cX16_holds 120 = .ok (.getfield 234, 3) := by decide +kernel
theorem dX16_holds_123 : decode cX16_holds 123 = .ok (.if_icmp .gt 59, 3) := by decide +kernel
theorem dX16_holds_126 : decode cX16_holds 126 = .ok (.aload_n 0, 1) := by decide +kernel
theorem dX16_holds_127 : decode cX16_holds 127 = .ok (.aload 7, 2) := by decide +kernel
theorem dX16_holds_129 : decode cX16_holds 129 = .ok (.iload_n 3, 1) := by decide +kernel
theorem dX16_holds_130 : decode cX16_holds 130 = .ok (.iload 9, 2) := by decide +kernel
theorem dX16_holds_132 : decode cX16_holds 132 = .ok (.iadd, 1) := by decide +kernel
theorem dX16_holds_133 : decode cX16_holds 133 = .ok (.iload 4, 2) := by decide +kernel
theorem dX16_holds_135 : decode cX16_holds 135 = .ok (.iload 5, 2) := by decide +kernel
theorem dX16_holds_137 : decode cX16_holds 137 = .ok (.invokevirtual 691, 3) := by decide +kernel
theorem dX16_holds_140 : decode cX16_holds 140 = .ok (.istore 10, 2) := by decide +kernel
theorem dX16_holds_142 : decode cX16_holds 142 = .ok (.iload 10, 2) := by decide +kernel
theorem dX16_holds_144 : decode cX16_holds 144 = .ok (.iconst (-1), 1) := by decide +kernel
theorem dX16_holds_145 : decode cX16_holds 145 = .ok (.if_icmp .ne 5, 3) := by decide +kernel
theorem dX16_holds_148 : decode cX16_holds 148 = .ok (.iconst (-1), 1) := by decide +kernel
theorem dX16_holds_149 : decode cX16_holds 149 = .ok (.ireturn, 1) := by decide +kernel
theorem dX16_holds_150 : decode cX16_holds 150 = .ok (.iload 8, 2) := by decide +kernel
theorem dX16_holds_152 : decode cX16_holds 152 = .ok (.aload 6, 2) := by decide +kernel
theorem dX16_holds_154 : decode cX16_holds 154 = .ok (.getfield 237, 3) := by decide +kernel
theorem dX16_holds_157 : decode cX16_holds 157 = .ok (.bipush 25, 2) := by decide +kernel
theorem dX16_holds_159 : decode cX16_holds 159 = .ok (.iload 9, 2) := by decide +kernel
theorem dX16_holds_161 : decode cX16_holds 161 = .ok (.imul, 1) := by decide +kernel
theorem dX16_holds_162 : decode cX16_holds 162 = .ok (.iload_n 3, 1) := by decide +kernel
theorem dX16_holds_163 : decode cX16_holds 163 = .ok (.invokestatic 772, 3) := by decide +kernel
theorem dX16_holds_166 : decode cX16_holds 166 = .ok (.iload 10, 2) := by decide +kernel
theorem dX16_holds_168 : decode cX16_holds 168 = .ok (.invokestatic 56, 3) := by decide +kernel
theorem dX16_holds_171 : decode cX16_holds 171 = .ok (.invokestatic 49, 3) := by decide +kernel
theorem dX16_holds_174 : decode cX16_holds 174 = .ok (.istore 8, 2) := by decide +kernel
theorem dX16_holds_176 : decode cX16_holds 176 = .ok (.iinc 9 1, 3) := by decide +kernel
theorem dX16_holds_179 : decode cX16_holds 179 = .ok (.goto (-63), 3) := by decide +kernel
theorem dX16_holds_182 : decode cX16_holds 182 = .ok (.aload_n 0, 1) := by decide +kernel
theorem dX16_holds_183 : decode cX16_holds 183 = .ok (.aload 7, 2) := by decide +kernel
theorem dX16_holds_185 : decode cX16_holds 185 = .ok (.iload_n 3, 1) := by decide +kernel
theorem dX16_holds_186 : decode cX16_holds 186 = .ok (.iload 5, 2) := by decide +kernel
theorem dX16_holds_188 : decode cX16_holds 188 = .ok (.iconst 1, 1) := by decide +kernel
theorem dX16_holds_189 : decode cX16_holds 189 = .ok (.iadd, 1) := by decide +kernel
theorem dX16_holds_190 : decode cX16_holds 190 = .ok (.invokevirtual 688, 3) := by decide +kernel
theorem dX16_holds_193 : decode cX16_holds 193 = .ok (.istore 9, 2) := by decide +kernel
theorem dX16_holds_195 : decode cX16_holds 195 = .ok (.aload_n 0, 1) := by decide +kernel
theorem dX16_holds_196 : decode cX16_holds 196 = .ok (.aload 7, 2) := by decide +kernel
theorem dX16_holds_198 : decode cX16_holds 198 = .ok (.iload_n 3, 1) := by decide +kernel
theorem dX16_holds_199 : decode cX16_holds 199 = .ok (.iload 4, 2) := by decide +kernel
theorem dX16_holds_201 : decode cX16_holds 201 = .ok (.invokevirtual 688, 3) := by decide +kernel
theorem dX16_holds_204 : decode cX16_holds 204 = .ok (.istore 10, 2) := by decide +kernel
theorem dX16_holds_206 : decode cX16_holds 206 = .ok (.aload_n 0, 1) := by decide +kernel
theorem dX16_holds_207 : decode cX16_holds 207 = .ok (.aload 6, 2) := by decide +kernel
theorem dX16_holds_209 : decode cX16_holds 209 = .ok (.iload_n 3, 1) := by decide +kernel
theorem dX16_holds_210 : decode cX16_holds 210 = .ok (.iload 5, 2) := by decide +kernel
theorem dX16_holds_212 : decode cX16_holds 212 = .ok (.iconst 1, 1) := by decide +kernel
theorem dX16_holds_213 : decode cX16_holds 213 = .ok (.iadd, 1) := by decide +kernel
theorem dX16_holds_214 : decode cX16_holds 214 = .ok (.invokevirtual 678, 3) := by decide +kernel
theorem dX16_holds_217 : decode cX16_holds 217 = .ok (.istore 11, 2) := by decide +kernel
theorem dX16_holds_219 : decode cX16_holds 219 = .ok (.aload_n 0, 1) := by decide +kernel
theorem dX16_holds_220 : decode cX16_holds 220 = .ok (.aload 6, 2) := by decide +kernel
theorem dX16_holds_222 : decode cX16_holds 222 = .ok (.iload_n 3, 1) := by decide +kernel
theorem dX16_holds_223 : decode cX16_holds 223 = .ok (.iload 4, 2) := by decide +kernel
theorem dX16_holds_225 : decode cX16_holds 225 = .ok (.invokevirtual 678, 3) := by decide +kernel
theorem dX16_holds_228 : decode cX16_holds 228 = .ok (.istore 12, 2) := by decide +kernel
theorem dX16_holds_230 : decode cX16_holds 230 = .ok (.iload 9, 2) := by decide +kernel
theorem dX16_holds_232 : decode cX16_holds 232 = .ok (.iconst (-1), 1) := by decide +kernel
theorem dX16_holds_233 : decode cX16_holds 233 = .ok (.if_icmp .eq 21, 3) := by decide +kernel
theorem dX16_holds_236 : decode cX16_holds 236 = .ok (.iload 10, 2) := by decide +kernel
theorem dX16_holds_238 : decode cX16_holds 238 = .ok (.iconst (-1), 1) := by decide +kernel
theorem dX16_holds_239 : decode cX16_holds 239 = .ok (.if_icmp .eq 15, 3) := by decide +kernel
theorem dX16_holds_242 : decode cX16_holds 242 = .ok (.iload 11, 2) := by decide +kernel
theorem dX16_holds_244 : decode cX16_holds 244 = .ok (.iconst (-1), 1) := by decide +kernel
theorem dX16_holds_245 : decode cX16_holds 245 = .ok (.if_icmp .eq 9, 3) := by decide +kernel
theorem dX16_holds_248 : decode cX16_holds 248 = .ok (.iload 12, 2) := by decide +kernel
theorem dX16_holds_250 : decode cX16_holds 250 = .ok (.iconst (-1), 1) := by decide +kernel
theorem dX16_holds_251 : decode cX16_holds 251 = .ok (.if_icmp .ne 5, 3) := by decide +kernel
theorem dX16_holds_254 : decode cX16_holds 254 = .ok (.iconst (-1), 1) := by decide +kernel
theorem dX16_holds_255 : decode cX16_holds 255 = .ok (.ireturn, 1) := by decide +kernel
theorem dX16_holds_256 : decode cX16_holds 256 = .ok (.iload 8, 2) := by decide +kernel
theorem dX16_holds_258 : decode cX16_holds 258 = .ok (.iload 11, 2) := by decide +kernel
theorem dX16_holds_260 : decode cX16_holds 260 = .ok (.iload 9, 2) := by decide +kernel
theorem dX16_holds_262 : decode cX16_holds 262 = .ok (.invokestatic 56, 3) := by decide +kernel
theorem dX16_holds_265 : decode cX16_holds 265 = .ok (.iload 12, 2) := by decide +kernel
theorem dX16_holds_267 : decode cX16_holds 267 = .ok (.iload 10, 2) := by decide +kernel
theorem dX16_holds_269 : decode cX16_holds 269 = .ok (.invokestatic 56, 3) := by decide +kernel
theorem dX16_holds_272 : decode cX16_holds 272 = .ok (.invokestatic 46, 3) := by decide +kernel
theorem dX16_holds_275 : decode cX16_holds 275 = .ok (.if_icmp .ne 7, 3) := by decide +kernel
theorem dX16_holds_278 : decode cX16_holds 278 = .ok (.iconst 1, 1) := by decide +kernel
theorem dX16_holds_279 : decode cX16_holds 279 = .ok (.goto 4, 3) := by decide +kernel
theorem dX16_holds_282 : decode cX16_holds 282 = .ok (.iconst 0, 1) := by decide +kernel
theorem dX16_holds_283 : decode cX16_holds 283 = .ok (.ireturn, 1) := by decide +kernel
theorem dX16_row_0 : decode cX16_row 0 = .ok (.iload_n 1, 1) := by decide +kernel
theorem dX16_row_1 : decode cX16_row 1 = .ok (.invokestatic 551, 3) := by decide +kernel
theorem dX16_row_4 : decode cX16_row 4 = .ok (.ifCond .eq 10, 3) := by decide +kernel
theorem dX16_row_7 : decode cX16_row 7 = .ok (.iload_n 2, 1) := by decide +kernel
theorem dX16_row_8 : decode cX16_row 8 = .ok (.invokestatic 551, 3) := by decide +kernel
theorem dX16_row_11 : decode cX16_row 11 = .ok (.ifCond .ne 5, 3) := by decide +kernel
theorem dX16_row_14 : decode cX16_row 14 = .ok (.iconst (-1), 1) := by decide +kernel
theorem dX16_row_15 : decode cX16_row 15 = .ok (.ireturn, 1) := by decide +kernel
theorem dX16_row_16 : decode cX16_row 16 = .ok (.aload_n 0, 1) := by decide +kernel
theorem dX16_row_17 : decode cX16_row 17 = .ok (.getfield 450, 3) := by decide +kernel
theorem dX16_row_20 : decode cX16_row 20 = .ok (.iload_n 1, 1) := by decide +kernel
theorem dX16_row_21 : decode cX16_row 21 = .ok (.aaload, 1) := by decide +kernel
theorem dX16_row_22 : decode cX16_row 22 = .ok (.astore_n 3, 1) := by decide +kernel
theorem dX16_row_23 : decode cX16_row 23 = .ok (.aload_n 3, 1) := by decide +kernel
theorem dX16_row_24 : decode cX16_row 24 = .ok (.getfield 202, 3) := by decide +kernel
theorem dX16_row_27 : decode cX16_row 27 = .ok (.iconst 3, 1) := by decide +kernel
theorem dX16_row_28 : decode cX16_row 28 = .ok (.if_icmp .eq 6, 3) := by decide +kernel
theorem dX16_row_31 : decode cX16_row 31 = .ok (.bipush (-3), 2) := by decide +kernel
theorem dX16_row_33 : decode cX16_row 33 = .ok (.ireturn, 1) := by decide +kernel
theorem dX16_row_34 : decode cX16_row 34 = .ok (.aload_n 0, 1) := by decide +kernel
theorem dX16_row_35 : decode cX16_row 35 = .ok (.invokevirtual 555, 3) := by decide +kernel
theorem dX16_row_38 : decode cX16_row 38 = .ok (.iconst 0, 1) := by decide +kernel
theorem dX16_row_39 : decode cX16_row 39 = .ok (.istore 4, 2) := by decide +kernel
theorem dX16_row_41 : decode cX16_row 41 = .ok (.iload 4, 2) := by decide +kernel
theorem dX16_row_43 : decode cX16_row 43 = .ok (.aload_n 3, 1) := by decide +kernel
theorem dX16_row_44 : decode cX16_row 44 = .ok (.getfield 234, 3) := by decide +kernel
theorem dX16_row_47 : decode cX16_row 47 = .ok (.if_icmp .gt 39, 3) := by decide +kernel
theorem dX16_row_50 : decode cX16_row 50 = .ok (.aload_n 0, 1) := by decide +kernel
theorem dX16_row_51 : decode cX16_row 51 = .ok (.getfield 517, 3) := by decide +kernel
theorem dX16_row_54 : decode cX16_row 54 = .ok (.iload 4, 2) := by decide +kernel
theorem dX16_row_56 : decode cX16_row 56 = .ok (.aload_n 0, 1) := by decide +kernel
theorem dX16_row_57 : decode cX16_row 57 = .ok (.invokevirtual 74, 3) := by decide +kernel
theorem dX16_row_60 : decode cX16_row 60 = .ok (.aastore, 1) := by decide +kernel
theorem dX16_row_61 : decode cX16_row 61 = .ok (.aload_n 0, 1) := by decide +kernel
theorem dX16_row_62 : decode cX16_row 62 = .ok (.getfield 517, 3) := by decide +kernel
theorem dX16_row_65 : decode cX16_row 65 = .ok (.iload 4, 2) := by decide +kernel
theorem dX16_row_67 : decode cX16_row 67 = .ok (.aaload, 1) := by decide +kernel
theorem dX16_row_68 : decode cX16_row 68 = .ok (.aload_n 3, 1) := by decide +kernel
theorem dX16_row_69 : decode cX16_row 69 = .ok (.getfield 237, 3) := by decide +kernel
theorem dX16_row_72 : decode cX16_row 72 = .ok (.bipush 25, 2) := by decide +kernel
theorem dX16_row_74 : decode cX16_row 74 = .ok (.iload 4, 2) := by decide +kernel
theorem dX16_row_76 : decode cX16_row 76 = .ok (.imul, 1) := by decide +kernel
theorem dX16_row_77 : decode cX16_row 77 = .ok (.invokestatic 775, 3) := by decide +kernel
theorem dX16_row_80 : decode cX16_row 80 = .ok (.iinc 4 1, 3) := by decide +kernel
theorem dX16_row_83 : decode cX16_row 83 = .ok (.goto (-42), 3) := by decide +kernel
theorem dX16_row_86 : decode cX16_row 86 = .ok (.aload_n 3, 1) := by decide +kernel
theorem dX16_row_87 : decode cX16_row 87 = .ok (.getfield 234, 3) := by decide +kernel
theorem dX16_row_90 : decode cX16_row 90 = .ok (.iconst 1, 1) := by decide +kernel
theorem dX16_row_91 : decode cX16_row 91 = .ok (.if_icmp .lt 18, 3) := by decide +kernel
theorem dX16_row_94 : decode cX16_row 94 = .ok (.aload_n 0, 1) := by decide +kernel
theorem dX16_row_95 : decode cX16_row 95 = .ok (.getfield 517, 3) := by decide +kernel
theorem dX16_row_98 : decode cX16_row 98 = .ok (.aload_n 3, 1) := by decide +kernel
theorem dX16_row_99 : decode cX16_row 99 = .ok (.getfield 234, 3) := by decide +kernel
theorem dX16_row_102 : decode cX16_row 102 = .ok (.aaload, 1) := by decide +kernel
theorem dX16_row_103 : decode cX16_row 103 = .ok (.getfield 25, 3) := by decide +kernel
theorem dX16_row_106 : decode cX16_row 106 = .ok (.ifCond .ne 5, 3) := by decide +kernel
theorem dX16_row_109 : decode cX16_row 109 = .ok (.iconst (-1), 1) := by decide +kernel
theorem dX16_row_110 : decode cX16_row 110 = .ok (.ireturn, 1) := by decide +kernel
theorem dX16_row_111 : decode cX16_row 111 = .ok (.aload_n 0, 1) := by decide +kernel
theorem dX16_row_112 : decode cX16_row 112 = .ok (.aload_n 0, 1) := by decide +kernel
theorem dX16_row_113 : decode cX16_row 113 = .ok (.getfield 517, 3) := by decide +kernel
theorem dX16_row_116 : decode cX16_row 116 = .ok (.aload_n 3, 1) := by decide +kernel
theorem dX16_row_117 : decode cX16_row 117 = .ok (.getfield 234, 3) := by decide +kernel
theorem dX16_row_120 : decode cX16_row 120 = .ok (.invokevirtual 777, 3) := by decide +kernel
theorem dX16_row_123 : decode cX16_row 123 = .ok (.istore 4, 2) := by decide +kernel
theorem dX16_row_125 : decode cX16_row 125 = .ok (.aload_n 0, 1) := by decide +kernel
theorem dX16_row_126 : decode cX16_row 126 = .ok (.getfield 453, 3) := by decide +kernel
theorem dX16_row_129 : decode cX16_row 129 = .ok (.aload_n 0, 1) := by decide +kernel
theorem dX16_row_130 : decode cX16_row 130 = .ok (.getfield 453, 3) := by decide +kernel
theorem dX16_row_133 : decode cX16_row 133 = .ok (.getfield 237, 3) := by decide +kernel
theorem dX16_row_136 : decode cX16_row 136 = .ok (.aload_n 0, 1) := by decide +kernel
theorem dX16_row_137 : decode cX16_row 137 = .ok (.getfield 453, 3) := by decide +kernel
theorem dX16_row_140 : decode cX16_row 140 = .ok (.getfield 234, 3) := by decide +kernel
theorem dX16_row_143 : decode cX16_row 143 = .ok (.iconst 0, 1) := by decide +kernel
theorem dX16_row_144 : decode cX16_row 144 = .ok (.invokestatic 781, 3) := by decide +kernel
theorem dX16_row_147 : decode cX16_row 147 = .ok (.putfield 240, 3) := by decide +kernel
theorem dX16_row_150 : decode cX16_row 150 = .ok (.aload_n 0, 1) := by decide +kernel
theorem dX16_row_151 : decode cX16_row 151 = .ok (.getfield 453, 3) := by decide +kernel
theorem dX16_row_154 : decode cX16_row 154 = .ok (.getfield 240, 3) := by decide +kernel
theorem dX16_row_157 : decode cX16_row 157 = .ok (.bipush 60, 2) := by decide +kernel
theorem dX16_row_159 : decode cX16_row 159 = .ok (.if_icmp .le 6, 3) := by decide +kernel
theorem dX16_row_162 : decode cX16_row 162 = .ok (.bipush (-2), 2) := by decide +kernel
theorem dX16_row_164 : decode cX16_row 164 = .ok (.ireturn, 1) := by decide +kernel
theorem dX16_row_165 : decode cX16_row 165 = .ok (.aload_n 0, 1) := by decide +kernel
theorem dX16_row_166 : decode cX16_row 166 = .ok (.getfield 450, 3) := by decide +kernel
theorem dX16_row_169 : decode cX16_row 169 = .ok (.iload_n 2, 1) := by decide +kernel
theorem dX16_row_170 : decode cX16_row 170 = .ok (.aaload, 1) := by decide +kernel
theorem dX16_row_171 : decode cX16_row 171 = .ok (.aload_n 0, 1) := by decide +kernel
theorem dX16_row_172 : decode cX16_row 172 = .ok (.getfield 453, 3) := by decide +kernel
theorem dX16_row_175 : decode cX16_row 175 = .ok (.invokestatic 547, 3) := by decide +kernel
theorem dX16_row_178 : decode cX16_row 178 = .ok (.aload_n 0, 1) := by decide +kernel
theorem dX16_row_179 : decode cX16_row 179 = .ok (.getfield 453, 3) := by decide +kernel
theorem dX16_row_182 : decode cX16_row 182 = .ok (.getfield 240, 3) := by decide +kernel
theorem dX16_row_185 : decode cX16_row 185 = .ok (.ireturn, 1) := by decide +kernel
theorem dX16_first_0 : decode cX16_first 0 = .ok (.iload_n 1, 1) := by decide +kernel
theorem dX16_first_1 : decode cX16_first 1 = .ok (.invokestatic 551, 3) := by decide +kernel
theorem dX16_first_4 : decode cX16_first 4 = .ok (.ifCond .ne 5, 3) := by decide +kernel
theorem dX16_first_7 : decode cX16_first 7 = .ok (.iconst (-1), 1) := by decide +kernel
theorem dX16_first_8 : decode cX16_first 8 = .ok (.ireturn, 1) := by decide +kernel
theorem dX16_first_9 : decode cX16_first 9 = .ok (.aload_n 0, 1) := by decide +kernel
theorem dX16_first_10 : decode cX16_first 10 = .ok (.getfield 450, 3) := by decide +kernel
theorem dX16_first_13 : decode cX16_first 13 = .ok (.iload_n 1, 1) := by decide +kernel
theorem dX16_first_14 : decode cX16_first 14 = .ok (.aaload, 1) := by decide +kernel
theorem dX16_first_15 : decode cX16_first 15 = .ok (.astore_n 3, 1) := by decide +kernel
theorem dX16_first_16 : decode cX16_first 16 = .ok (.aload_n 3, 1) := by decide +kernel
theorem dX16_first_17 : decode cX16_first 17 = .ok (.getfield 202, 3) := by decide +kernel
theorem dX16_first_20 : decode cX16_first 20 = .ok (.iconst 4, 1) := by decide +kernel
theorem dX16_first_21 : decode cX16_first 21 = .ok (.if_icmp .eq 6, 3) := by decide +kernel
theorem dX16_first_24 : decode cX16_first 24 = .ok (.bipush (-3), 2) := by decide +kernel
theorem dX16_first_26 : decode cX16_first 26 = .ok (.ireturn, 1) := by decide +kernel
theorem dX16_first_27 : decode cX16_first 27 = .ok (.aload_n 3, 1) := by decide +kernel
theorem dX16_first_28 : decode cX16_first 28 = .ok (.getfield 243, 3) := by decide +kernel
theorem dX16_first_31 : decode cX16_first 31 = .ok (.aload_n 3, 1) := by decide +kernel
theorem dX16_first_32 : decode cX16_first 32 = .ok (.getfield 240, 3) := by decide +kernel
theorem dX16_first_35 : decode cX16_first 35 = .ok (.if_icmp .ne 5, 3) := by decide +kernel
theorem dX16_first_38 : decode cX16_first 38 = .ok (.iconst (-1), 1) := by decide +kernel
theorem dX16_first_39 : decode cX16_first 39 = .ok (.ireturn, 1) := by decide +kernel
theorem dX16_first_40 : decode cX16_first 40 = .ok (.aload_n 3, 1) := by decide +kernel
theorem dX16_first_41 : decode cX16_first 41 = .ok (.getfield 246, 3) := by decide +kernel
theorem dX16_first_44 : decode cX16_first 44 = .ok (.aload_n 3, 1) := by decide +kernel
theorem dX16_first_45 : decode cX16_first 45 = .ok (.dup, 1) := by decide +kernel
theorem dX16_first_46 : decode cX16_first 46 = .ok (.getfield 243, 3) := by decide +kernel
theorem dX16_first_49 : decode cX16_first 49 = .ok (.dup_x1, 1) := by decide +kernel
theorem dX16_first_50 : decode cX16_first 50 = .ok (.iconst 1, 1) := by decide +kernel
theorem dX16_first_51 : decode cX16_first 51 = .ok (.iadd, 1) := by decide +kernel
theorem dX16_first_52 : decode cX16_first 52 = .ok (.putfield 243, 3) := by decide +kernel
theorem dX16_first_55 : decode cX16_first 55 = .ok (.iload_n 2, 1) := by decide +kernel
theorem dX16_first_56 : decode cX16_first 56 = .ok (.invokestatic 600, 3) := by decide +kernel
theorem dX16_first_59 : decode cX16_first 59 = .ok (.iastore, 1) := by decide +kernel
theorem dX16_first_60 : decode cX16_first 60 = .ok (.aload_n 3, 1) := by decide +kernel
theorem dX16_first_61 : decode cX16_first 61 = .ok (.invokestatic 784, 3) := by decide +kernel
theorem dX16_first_64 : decode cX16_first 64 = .ok (.aload_n 3, 1) := by decide +kernel
theorem dX16_first_65 : decode cX16_first 65 = .ok (.getfield 243, 3) := by decide +kernel
theorem dX16_first_68 : decode cX16_first 68 = .ok (.ireturn, 1) := by decide +kernel
theorem dX16_at_0 : decode cX16_at 0 = .ok (.iload_n 1, 1) := by decide +kernel
theorem dX16_at_1 : decode cX16_at 1 = .ok (.invokestatic 551, 3) := by decide +kernel
theorem dX16_at_4 : decode cX16_at 4 = .ok (.ifCond .ne 5, 3) := by decide +kernel
theorem dX16_at_7 : decode cX16_at 7 = .ok (.iconst (-1), 1) := by decide +kernel
theorem dX16_at_8 : decode cX16_at 8 = .ok (.ireturn, 1) := by decide +kernel
theorem dX16_at_9 : decode cX16_at 9 = .ok (.aload_n 0, 1) := by decide +kernel
theorem dX16_at_10 : decode cX16_at 10 = .ok (.getfield 450, 3) := by decide +kernel
theorem dX16_at_13 : decode cX16_at 13 = .ok (.iload_n 1, 1) := by decide +kernel
theorem dX16_at_14 : decode cX16_at 14 = .ok (.aaload, 1) := by decide +kernel
theorem dX16_at_15 : decode cX16_at 15 = .ok (.astore_n 3, 1) := by decide +kernel
theorem dX16_at_16 : decode cX16_at 16 = .ok (.aload_n 3, 1) := by decide +kernel
theorem dX16_at_17 : decode cX16_at 17 = .ok (.getfield 202, 3) := by decide +kernel
theorem dX16_at_20 : decode cX16_at 20 = .ok (.iconst 4, 1) := by decide +kernel
theorem dX16_at_21 : decode cX16_at 21 = .ok (.if_icmp .eq 6, 3) := by decide +kernel
theorem dX16_at_24 : decode cX16_at 24 = .ok (.bipush (-3), 2) := by decide +kernel
theorem dX16_at_26 : decode cX16_at 26 = .ok (.ireturn, 1) := by decide +kernel
theorem dX16_at_27 : decode cX16_at 27 = .ok (.iload_n 2, 1) := by decide +kernel
theorem dX16_at_28 : decode cX16_at 28 = .ok (.ifCond .lt 21, 3) := by decide +kernel
theorem dX16_at_31 : decode cX16_at 31 = .ok (.iload_n 2, 1) := by decide +kernel
theorem dX16_at_32 : decode cX16_at 32 = .ok (.sipush 300, 3) := by decide +kernel
theorem dX16_at_35 : decode cX16_at 35 = .ok (.if_icmp .gt 14, 3) := by decide +kernel
theorem dX16_at_38 : decode cX16_at 38 = .ok (.aload_n 3, 1) := by decide +kernel
theorem dX16_at_39 : decode cX16_at 39 = .ok (.getfield 243, 3) := by decide +kernel
theorem dX16_at_42 : decode cX16_at 42 = .ok (.aload_n 3, 1) := by decide +kernel
theorem dX16_at_43 : decode cX16_at 43 = .ok (.getfield 240, 3) := by decide +kernel
theorem dX16_at_46 : decode cX16_at 46 = .ok (.if_icmp .ge 7, 3) := by decide +kernel
theorem dX16_at_49 : decode cX16_at 49 = .ok (.iconst (-1), 1) := by decide +kernel
theorem dX16_at_50 : decode cX16_at 50 = .ok (.goto 9, 3) := by decide +kernel
theorem dX16_at_53 : decode cX16_at 53 = .ok (.aload_n 3, 1) := by decide +kernel
theorem dX16_at_54 : decode cX16_at 54 = .ok (.getfield 246, 3) := by decide +kernel
theorem dX16_at_57 : decode cX16_at 57 = .ok (.iload_n 2, 1) := by decide +kernel
theorem dX16_at_58 : decode cX16_at 58 = .ok (.iaload, 1) := by decide +kernel
theorem dX16_at_59 : decode cX16_at 59 = .ok (.ireturn, 1) := by decide +kernel
theorem dX16_join_0 : decode cX16_join 0 = .ok (.iload_n 1, 1) := by decide +kernel
theorem dX16_join_1 : decode cX16_join 1 = .ok (.ifCond .lt 8, 3) := by decide +kernel
theorem dX16_join_4 : decode cX16_join 4 = .ok (.iload_n 1, 1) := by decide +kernel
theorem dX16_join_5 : decode cX16_join 5 = .ok (.iconst 2, 1) := by decide +kernel
theorem dX16_join_6 : decode cX16_join 6 = .ok (.if_icmp .le 8, 3) := by decide +kernel
theorem dX16_join_9 : decode cX16_join 9 = .ok (.iload_n 1, 1) := by decide +kernel
theorem dX16_join_10 : decode cX16_join 10 = .ok (.iconst 5, 1) := by decide +kernel
theorem dX16_join_11 : decode cX16_join 11 = .ok (.if_icmp .ne 7, 3) := by decide +kernel
theorem dX16_join_14 : decode cX16_join 14 = .ok (.iconst 1, 1) := by decide +kernel
theorem dX16_join_15 : decode cX16_join 15 = .ok (.goto 4, 3) := by decide +kernel
theorem dX16_join_18 : decode cX16_join 18 = .ok (.iconst 0, 1) := by decide +kernel
theorem dX16_join_19 : decode cX16_join 19 = .ok (.istore 5, 2) := by decide +kernel
theorem dX16_join_21 : decode cX16_join 21 = .ok (.iload_n 2, 1) := by decide +kernel
theorem dX16_join_22 : decode cX16_join 22 = .ok (.invokestatic 551, 3) := by decide +kernel
theorem dX16_join_25 : decode cX16_join 25 = .ok (.ifCond .eq 23, 3) := by decide +kernel
theorem dX16_join_28 : decode cX16_join 28 = .ok (.iload 5, 2) := by decide +kernel
theorem dX16_join_30 : decode cX16_join 30 = .ok (.ifCond .eq 10, 3) := by decide +kernel
theorem dX16_join_33 : decode cX16_join 33 = .ok (.iload_n 3, 1) := by decide +kernel
theorem dX16_join_34 : decode cX16_join 34 = .ok (.invokestatic 551, 3) := by decide +kernel
theorem dX16_join_37 : decode cX16_join 37 = .ok (.ifCond .eq 11, 3) := by decide +kernel
theorem dX16_join_40 : decode cX16_join 40 = .ok (.iload 4, 2) := by decide +kernel
theorem dX16_join_42 : decode cX16_join 42 = .ok (.invokestatic 551, 3) := by decide +kernel
theorem dX16_join_45 : decode cX16_join 45 = .ok (.ifCond .ne 5, 3) := by decide +kernel
theorem dX16_join_48 : decode cX16_join 48 = .ok (.iconst (-1), 1) := by decide +kernel
theorem dX16_join_49 : decode cX16_join 49 = .ok (.ireturn, 1) := by decide +kernel
theorem dX16_join_50 : decode cX16_join 50 = .ok (.aload_n 0, 1) := by decide +kernel
theorem dX16_join_51 : decode cX16_join 51 = .ok (.getfield 450, 3) := by decide +kernel
theorem dX16_join_54 : decode cX16_join 54 = .ok (.iload_n 2, 1) := by decide +kernel
theorem dX16_join_55 : decode cX16_join 55 = .ok (.aaload, 1) := by decide +kernel
theorem dX16_join_56 : decode cX16_join 56 = .ok (.astore 6, 2) := by decide +kernel
theorem dX16_join_58 : decode cX16_join 58 = .ok (.aload 6, 2) := by decide +kernel
theorem dX16_join_60 : decode cX16_join 60 = .ok (.getfield 202, 3) := by decide +kernel
theorem dX16_join_63 : decode cX16_join 63 = .ok (.iconst 4, 1) := by decide +kernel
theorem dX16_join_64 : decode cX16_join 64 = .ok (.if_icmp .eq 6, 3) := by decide +kernel
theorem dX16_join_67 : decode cX16_join 67 = .ok (.bipush (-3), 2) := by decide +kernel
theorem dX16_join_69 : decode cX16_join 69 = .ok (.ireturn, 1) := by decide +kernel
theorem dX16_join_70 : decode cX16_join 70 = .ok (.iload 5, 2) := by decide +kernel
theorem dX16_join_72 : decode cX16_join 72 = .ok (.ifCond .eq 12, 3) := by decide +kernel
theorem dX16_join_75 : decode cX16_join 75 = .ok (.aload_n 0, 1) := by decide +kernel
theorem dX16_join_76 : decode cX16_join 76 = .ok (.getfield 450, 3) := by decide +kernel
theorem dX16_join_79 : decode cX16_join 79 = .ok (.iload_n 3, 1) := by decide +kernel
theorem dX16_join_80 : decode cX16_join 80 = .ok (.aaload, 1) := by decide +kernel
theorem dX16_join_81 : decode cX16_join 81 = .ok (.goto 5, 3) := by decide +kernel
theorem dX16_join_84 : decode cX16_join 84 = .ok (.aload 6, 2) := by decide +kernel
theorem dX16_join_86 : decode cX16_join 86 = .ok (.astore 7, 2) := by decide +kernel
theorem dX16_join_88 : decode cX16_join 88 = .ok (.iload_n 1, 1) := by decide +kernel
theorem dX16_join_89 : decode cX16_join 89 = .ok (.ifCond .lt 20, 3) := by decide +kernel
theorem dX16_join_92 : decode cX16_join 92 = .ok (.iload_n 1, 1) := by decide +kernel
theorem dX16_join_93 : decode cX16_join 93 = .ok (.iconst 2, 1) := by decide +kernel
theorem dX16_join_94 : decode cX16_join 94 = .ok (.if_icmp .gt 15, 3) := by decide +kernel
theorem dX16_join_97 : decode cX16_join 97 = .ok (.aload 7, 2) := by decide +kernel
theorem dX16_join_99 : decode cX16_join 99 = .ok (.getfield 202, 3) := by decide +kernel
theorem dX16_join_102 : decode cX16_join 102 = .ok (.iconst 4, 1) := by decide +kernel
theorem dX16_join_103 : decode cX16_join 103 = .ok (.if_icmp .eq 6, 3) := by decide +kernel
theorem dX16_join_106 : decode cX16_join 106 = .ok (.bipush (-3), 2) := by decide +kernel
theorem dX16_join_108 : decode cX16_join 108 = .ok (.ireturn, 1) := by decide +kernel
theorem dX16_join_109 : decode cX16_join 109 = .ok (.iload_n 1, 1) := by decide +kernel
theorem dX16_join_110 : decode cX16_join 110 = .ok (.iconst 5, 1) := by decide +kernel
theorem dX16_join_111 : decode cX16_join 111 = .ok (.if_icmp .ne 34, 3) := by decide +kernel
theorem dX16_join_114 : decode cX16_join 114 = .ok (.aload 7, 2) := by decide +kernel
theorem dX16_join_116 : decode cX16_join 116 = .ok (.invokestatic 637, 3) := by decide +kernel
theorem dX16_join_119 : decode cX16_join 119 = .ok (.ifCond .eq 23, 3) := by decide +kernel
theorem dX16_join_122 : decode cX16_join 122 = .ok (.aload 7, 2) := by decide +kernel
theorem dX16_join_124 : decode cX16_join 124 = .ok (.invokestatic 288, 3) := by decide +kernel
theorem dX16_join_127 : decode cX16_join 127 = .ok (.ifCond .ne 15, 3) := by decide +kernel
theorem dX16_join_130 : decode cX16_join 130 = .ok (.aload 7, 2) := by decide +kernel
theorem dX16_join_132 : decode cX16_join 132 = .ok (.getfield 207, 3) := by decide +kernel
theorem dX16_join_135 : decode cX16_join 135 = .ok (.iconst 1, 1) := by decide +kernel
theorem dX16_join_136 : decode cX16_join 136 = .ok (.invokestatic 603, 3) := by decide +kernel
theorem dX16_join_139 : decode cX16_join 139 = .ok (.ifCond .le 6, 3) := by decide +kernel
theorem dX16_join_142 : decode cX16_join 142 = .ok (.bipush (-3), 2) := by decide +kernel
theorem dX16_join_144 : decode cX16_join 144 = .ok (.ireturn, 1) := by decide +kernel
theorem dX16_join_145 : decode cX16_join 145 = .ok (.iload_n 1, 1) := by decide +kernel
theorem dX16_join_146 : decode cX16_join 146 = .ok (.ifCond .lt 39, 3) := by decide +kernel
theorem dX16_join_149 : decode cX16_join 149 = .ok (.iload_n 1, 1) := by decide +kernel
theorem dX16_join_150 : decode cX16_join 150 = .ok (.iconst 5, 1) := by decide +kernel
theorem dX16_join_151 : decode cX16_join 151 = .ok (.if_icmp .gt 34, 3) := by decide +kernel
theorem dX16_join_154 : decode cX16_join 154 = .ok (.aload 6, 2) := by decide +kernel
theorem dX16_join_156 : decode cX16_join 156 = .ok (.getfield 243, 3) := by decide +kernel
theorem dX16_join_159 : decode cX16_join 159 = .ok (.aload 6, 2) := by decide +kernel
theorem dX16_join_161 : decode cX16_join 161 = .ok (.getfield 240, 3) := by decide +kernel
theorem dX16_join_164 : decode cX16_join 164 = .ok (.if_icmp .lt 21, 3) := by decide +kernel
theorem dX16_join_167 : decode cX16_join 167 = .ok (.iload_n 1, 1) := by decide +kernel
theorem dX16_join_168 : decode cX16_join 168 = .ok (.iconst 2, 1) := by decide +kernel
theorem dX16_join_169 : decode cX16_join 169 = .ok (.if_icmp .gt 18, 3) := by decide +kernel
theorem dX16_join_172 : decode cX16_join 172 = .ok (.aload 7, 2) := by decide +kernel
theorem dX16_join_174 : decode cX16_join 174 = .ok (.getfield 243, 3) := by decide +kernel
theorem dX16_join_177 : decode cX16_join 177 = .ok (.aload 7, 2) := by decide +kernel
theorem dX16_join_179 : decode cX16_join 179 = .ok (.getfield 240, 3) := by decide +kernel
theorem dX16_join_182 : decode cX16_join 182 = .ok (.if_icmp .ge 5, 3) := by decide +kernel
theorem dX16_join_185 : decode cX16_join 185 = .ok (.iconst (-1), 1) := by decide +kernel
theorem dX16_join_186 : decode cX16_join 186 = .ok (.ireturn, 1) := by decide +kernel
theorem dX16_join_187 : decode cX16_join 187 = .ok (.aload_n 0, 1) := by decide +kernel
theorem dX16_join_188 : decode cX16_join 188 = .ok (.invokevirtual 555, 3) := by decide +kernel
theorem dX16_join_191 : decode cX16_join 191 = .ok (.iload_n 1, 1) := by decide +kernel
theorem dX16_join_192 : decode cX16_join 192 = .ok (.iconst 5, 1) := by decide +kernel
theorem dX16_join_193 : decode cX16_join 193 = .ok (.if_icmp .ne 7, 3) := by decide +kernel
theorem dX16_join_196 : decode cX16_join 196 = .ok (.iconst 1, 1) := by decide +kernel
theorem dX16_join_197 : decode cX16_join 197 = .ok (.goto 8, 3) := by decide +kernel
theorem dX16_join_200 : decode cX16_join 200 = .ok (.aload 7, 2) := by decide +kernel
theorem dX16_join_202 : decode cX16_join 202 = .ok (.getfield 234, 3) := by decide +kernel
theorem dX16_join_205 : decode cX16_join 205 = .ok (.istore 8, 2) := by decide +kernel
theorem dX16_join_207 : decode cX16_join 207 = .ok (.iload_n 1, 1) := by decide +kernel
theorem dX16_join_208 : decode cX16_join 208 = .ok (.iconst 2, 1) := by decide +kernel
theorem dX16_join_209 : decode cX16_join 209 = .ok (.if_icmp .ne 14, 3) := by decide +kernel
theorem dX16_join_212 : decode cX16_join 212 = .ok (.aload 6, 2) := by decide +kernel
theorem dX16_join_214 : decode cX16_join 214 = .ok (.getfield 234, 3) := by decide +kernel
theorem dX16_join_217 : decode cX16_join 217 = .ok (.iload 8, 2) := by decide +kernel
theorem dX16_join_219 : decode cX16_join 219 = .ok (.imul, 1) := by decide +kernel
theorem dX16_join_220 : decode cX16_join 220 = .ok (.goto 24, 3) := by decide +kernel
theorem dX16_join_223 : decode cX16_join 223 = .ok (.iload_n 1, 1) := by decide +kernel
theorem dX16_join_224 : decode cX16_join 224 = .ok (.iconst 2, 1) := by decide +kernel
theorem dX16_join_225 : decode cX16_join 225 = .ok (.if_icmp .ge 14, 3) := by decide +kernel
theorem dX16_join_228 : decode cX16_join 228 = .ok (.aload 6, 2) := by decide +kernel
theorem dX16_join_230 : decode cX16_join 230 = .ok (.getfield 234, 3) := by decide +kernel
theorem dX16_join_233 : decode cX16_join 233 = .ok (.iload 8, 2) := by decide +kernel
theorem dX16_join_235 : decode cX16_join 235 = .ok (.iadd, 1) := by decide +kernel
theorem dX16_join_236 : decode cX16_join 236 = .ok (.goto 8, 3) := by decide +kernel
theorem dX16_join_239 : decode cX16_join 239 = .ok (.aload 6, 2) := by decide +kernel
theorem dX16_join_241 : decode cX16_join 241 = .ok (.getfield 234, 3) := by decide +kernel
theorem dX16_join_244 : decode cX16_join 244 = .ok (.istore 9, 2) := by decide +kernel
theorem dX16_join_246 : decode cX16_join 246 = .ok (.iload_n 1, 1) := by decide +kernel
theorem dX16_join_247 : decode cX16_join 247 = .ok (.iconst 3, 1) := by decide +kernel
theorem dX16_join_248 : decode cX16_join 248 = .ok (.if_icmp .eq 8, 3) := by decide +kernel
theorem dX16_join_251 : decode cX16_join 251 = .ok (.iload_n 1, 1) := by decide +kernel
theorem dX16_join_252 : decode cX16_join 252 = .ok (.iconst 4, 1) := by decide +kernel
theorem dX16_join_253 : decode cX16_join 253 = .ok (.if_icmp .ne 54, 3) := by decide +kernel
theorem dX16_join_256 : decode cX16_join 256 = .ok (.iload_n 1, 1) := by decide +kernel
theorem dX16_join_257 : decode cX16_join 257 = .ok (.iconst 3, 1) := by decide +kernel
theorem dX16_join_258 : decode cX16_join 258 = .ok (.if_icmp .ne 13, 3) := by decide +kernel
theorem dX16_join_261 : decode cX16_join 261 = .ok (.aload 6, 2) := by decide +kernel
theorem dX16_join_263 : decode cX16_join 263 = .ok (.getfield 234, 3) := by decide +kernel
theorem dX16_join_266 : decode cX16_join 266 = .ok (.iconst 1, 1) := by decide +kernel
theorem dX16_join_267 : decode cX16_join 267 = .ok (.iadd, 1) := by decide +kernel
theorem dX16_join_268 : decode cX16_join 268 = .ok (.goto 8, 3) := by decide +kernel
theorem dX16_join_271 : decode cX16_join 271 = .ok (.aload 6, 2) := by decide +kernel
theorem dX16_join_273 : decode cX16_join 273 = .ok (.getfield 234, 3) := by decide +kernel
theorem dX16_join_276 : decode cX16_join 276 = .ok (.istore 10, 2) := by decide +kernel
theorem dX16_join_278 : decode cX16_join 278 = .ok (.iload 10, 2) := by decide +kernel
theorem dX16_join_280 : decode cX16_join 280 = .ok (.bipush 6, 2) := by decide +kernel
theorem dX16_join_282 : decode cX16_join 282 = .ok (.if_icmp .le 6, 3) := by decide +kernel
theorem dX16_join_285 : decode cX16_join 285 = .ok (.bipush (-2), 2) := by decide +kernel
theorem dX16_join_287 : decode cX16_join 287 = .ok (.ireturn, 1) := by decide +kernel
theorem dX16_join_288 : decode cX16_join 288 = .ok (.aload_n 0, 1) := by decide +kernel
theorem dX16_join_289 : decode cX16_join 289 = .ok (.aload 6, 2) := by decide +kernel
theorem dX16_join_291 : decode cX16_join 291 = .ok (.iload_n 1, 1) := by decide +kernel
theorem dX16_join_292 : decode cX16_join 292 = .ok (.iconst 3, 1) := by decide +kernel
theorem dX16_join_293 : decode cX16_join 293 = .ok (.if_icmp .ne 7, 3) := by decide +kernel
theorem dX16_join_296 : decode cX16_join 296 = .ok (.iconst 1, 1) := by decide +kernel
theorem dX16_join_297 : decode cX16_join 297 = .ok (.goto 4, 3) := by decide +kernel
theorem dX16_join_300 : decode cX16_join 300 = .ok (.iconst 0, 1) := by decide +kernel
theorem dX16_join_301 : decode cX16_join 301 = .ok (.invokevirtual 791, 3) := by decide +kernel
theorem dX16_join_304 : decode cX16_join 304 = .ok (.goto 67, 3) := by decide +kernel
theorem dX16_join_307 : decode cX16_join 307 = .ok (.iload_n 1, 1) := by decide +kernel
theorem dX16_join_308 : decode cX16_join 308 = .ok (.iconst 5, 1) := by decide +kernel
theorem dX16_join_309 : decode cX16_join 309 = .ok (.if_icmp .ne 15, 3) := by decide +kernel
theorem dX16_join_312 : decode cX16_join 312 = .ok (.aload 7, 2) := by decide +kernel
theorem dX16_join_314 : decode cX16_join 314 = .ok (.getfield 207, 3) := by decide +kernel
theorem dX16_join_317 : decode cX16_join 317 = .ok (.iconst 0, 1) := by decide +kernel
theorem dX16_join_318 : decode cX16_join 318 = .ok (.invokestatic 603, 3) := by decide +kernel
theorem dX16_join_321 : decode cX16_join 321 = .ok (.goto 8, 3) := by decide +kernel
theorem dX16_join_324 : decode cX16_join 324 = .ok (.aload 7, 2) := by decide +kernel
theorem dX16_join_326 : decode cX16_join 326 = .ok (.invokestatic 795, 3) := by decide +kernel
theorem dX16_join_329 : decode cX16_join 329 = .ok (.istore 11, 2) := by decide +kernel
theorem dX16_join_331 : decode cX16_join 331 = .ok (.iload 9, 2) := by decide +kernel
theorem dX16_join_333 : decode cX16_join 333 = .ok (.bipush 6, 2) := by decide +kernel
theorem dX16_join_335 : decode cX16_join 335 = .ok (.if_icmp .gt 20, 3) := by decide +kernel
theorem dX16_join_338 : decode cX16_join 338 = .ok (.aload 6, 2) := by decide +kernel
theorem dX16_join_340 : decode cX16_join 340 = .ok (.invokestatic 795, 3) := by decide +kernel
theorem dX16_join_343 : decode cX16_join 343 = .ok (.bipush 6, 2) := by decide +kernel
theorem dX16_join_345 : decode cX16_join 345 = .ok (.if_icmp .gt 10, 3) := by decide +kernel
theorem dX16_join_348 : decode cX16_join 348 = .ok (.iload 11, 2) := by decide +kernel
theorem dX16_join_350 : decode cX16_join 350 = .ok (.bipush 6, 2) := by decide +kernel
theorem dX16_join_352 : decode cX16_join 352 = .ok (.if_icmp .le 6, 3) := by decide +kernel
theorem dX16_join_355 : decode cX16_join 355 = .ok (.bipush (-2), 2) := by decide +kernel
theorem dX16_join_357 : decode cX16_join 357 = .ok (.ireturn, 1) := by decide +kernel
theorem dX16_join_358 : decode cX16_join 358 = .ok (.aload_n 0, 1) := by decide +kernel
theorem dX16_join_359 : decode cX16_join 359 = .ok (.iload_n 1, 1) := by decide +kernel
theorem dX16_join_360 : decode cX16_join 360 = .ok (.aload 6, 2) := by decide +kernel
theorem dX16_join_362 : decode cX16_join 362 = .ok (.aload 7, 2) := by decide +kernel
theorem dX16_join_364 : decode cX16_join 364 = .ok (.iload 9, 2) := by decide +kernel
theorem dX16_join_366 : decode cX16_join 366 = .ok (.invokevirtual 798, 3) := by decide +kernel
theorem dX16_join_369 : decode cX16_join 369 = .ok (.istore 10, 2) := by decide +kernel
theorem dX16_join_371 : decode cX16_join 371 = .ok (.aload_n 0, 1) := by decide +kernel
theorem dX16_join_372 : decode cX16_join 372 = .ok (.aload_n 0, 1) := by decide +kernel
theorem dX16_join_373 : decode cX16_join 373 = .ok (.getfield 517, 3) := by decide +kernel
theorem dX16_join_376 : decode cX16_join 376 = .ok (.iload 10, 2) := by decide +kernel
theorem dX16_join_378 : decode cX16_join 378 = .ok (.invokevirtual 777, 3) := by decide +kernel
theorem dX16_join_381 : decode cX16_join 381 = .ok (.ifCond .ne 6, 3) := by decide +kernel
theorem dX16_join_384 : decode cX16_join 384 = .ok (.bipush (-2), 2) := by decide +kernel
theorem dX16_join_386 : decode cX16_join 386 = .ok (.ireturn, 1) := by decide +kernel
theorem dX16_join_387 : decode cX16_join 387 = .ok (.aload 6, 2) := by decide +kernel
theorem dX16_join_389 : decode cX16_join 389 = .ok (.getfield 240, 3) := by decide +kernel
theorem dX16_join_392 : decode cX16_join 392 = .ok (.iload_n 1, 1) := by decide +kernel
theorem dX16_join_393 : decode cX16_join 393 = .ok (.iconst 2, 1) := by decide +kernel
theorem dX16_join_394 : decode cX16_join 394 = .ok (.if_icmp .gt 11, 3) := by decide +kernel
theorem dX16_join_397 : decode cX16_join 397 = .ok (.aload 7, 2) := by decide +kernel
theorem dX16_join_399 : decode cX16_join 399 = .ok (.getfield 240, 3) := by decide +kernel
theorem dX16_join_402 : decode cX16_join 402 = .ok (.goto 4, 3) := by decide +kernel
theorem dX16_join_405 : decode cX16_join 405 = .ok (.iconst 0, 1) := by decide +kernel
theorem dX16_join_406 : decode cX16_join 406 = .ok (.invokestatic 40, 3) := by decide +kernel
theorem dX16_join_409 : decode cX16_join 409 = .ok (.iload 10, 2) := by decide +kernel
theorem dX16_join_411 : decode cX16_join 411 = .ok (.iadd, 1) := by decide +kernel
theorem dX16_join_412 : decode cX16_join 412 = .ok (.istore 11, 2) := by decide +kernel
theorem dX16_join_414 : decode cX16_join 414 = .ok (.aload_n 0, 1) := by decide +kernel
theorem dX16_join_415 : decode cX16_join 415 = .ok (.getfield 453, 3) := by decide +kernel
theorem dX16_join_418 : decode cX16_join 418 = .ok (.aload_n 0, 1) := by decide +kernel
theorem dX16_join_419 : decode cX16_join 419 = .ok (.getfield 453, 3) := by decide +kernel
theorem dX16_join_422 : decode cX16_join 422 = .ok (.getfield 237, 3) := by decide +kernel
theorem dX16_join_425 : decode cX16_join 425 = .ok (.iload 10, 2) := by decide +kernel
theorem dX16_join_427 : decode cX16_join 427 = .ok (.iload 11, 2) := by decide +kernel
theorem dX16_join_429 : decode cX16_join 429 = .ok (.invokestatic 781, 3) := by decide +kernel
theorem dX16_join_432 : decode cX16_join 432 = .ok (.putfield 240, 3) := by decide +kernel
theorem dX16_join_435 : decode cX16_join 435 = .ok (.aload_n 0, 1) := by decide +kernel
theorem dX16_join_436 : decode cX16_join 436 = .ok (.getfield 453, 3) := by decide +kernel
theorem dX16_join_439 : decode cX16_join 439 = .ok (.getfield 240, 3) := by decide +kernel
theorem dX16_join_442 : decode cX16_join 442 = .ok (.bipush 60, 2) := by decide +kernel
theorem dX16_join_444 : decode cX16_join 444 = .ok (.if_icmp .le 6, 3) := by decide +kernel
theorem dX16_join_447 : decode cX16_join 447 = .ok (.bipush (-2), 2) := by decide +kernel
theorem dX16_join_449 : decode cX16_join 449 = .ok (.ireturn, 1) := by decide +kernel
theorem dX16_join_450 : decode cX16_join 450 = .ok (.iconst 0, 1) := by decide +kernel
theorem dX16_join_451 : decode cX16_join 451 = .ok (.istore 12, 2) := by decide +kernel
theorem dX16_join_453 : decode cX16_join 453 = .ok (.iconst 0, 1) := by decide +kernel
theorem dX16_join_454 : decode cX16_join 454 = .ok (.istore 13, 2) := by decide +kernel
theorem dX16_join_456 : decode cX16_join 456 = .ok (.iload 13, 2) := by decide +kernel
theorem dX16_join_458 : decode cX16_join 458 = .ok (.aload_n 0, 1) := by decide +kernel
theorem dX16_join_459 : decode cX16_join 459 = .ok (.getfield 453, 3) := by decide +kernel
theorem dX16_join_462 : decode cX16_join 462 = .ok (.getfield 240, 3) := by decide +kernel
theorem dX16_join_465 : decode cX16_join 465 = .ok (.if_icmp .ge 165, 3) := by decide +kernel
theorem dX16_join_468 : decode cX16_join 468 = .ok (.iload 12, 2) := by decide +kernel
theorem dX16_join_470 : decode cX16_join 470 = .ok (.aload 6, 2) := by decide +kernel
theorem dX16_join_472 : decode cX16_join 472 = .ok (.getfield 246, 3) := by decide +kernel
theorem dX16_join_475 : decode cX16_join 475 = .ok (.iload 13, 2) := by decide +kernel
theorem dX16_join_477 : decode cX16_join 477 = .ok (.iaload, 1) := by decide +kernel
theorem dX16_join_478 : decode cX16_join 478 = .ok (.invokestatic 49, 3) := by decide +kernel
theorem dX16_join_481 : decode cX16_join 481 = .ok (.istore 12, 2) := by decide +kernel
theorem dX16_join_483 : decode cX16_join 483 = .ok (.aload_n 0, 1) := by decide +kernel
theorem dX16_join_484 : decode cX16_join 484 = .ok (.getfield 453, 3) := by decide +kernel
theorem dX16_join_487 : decode cX16_join 487 = .ok (.getfield 246, 3) := by decide +kernel
theorem dX16_join_490 : decode cX16_join 490 = .ok (.iload 13, 2) := by decide +kernel
theorem dX16_join_492 : decode cX16_join 492 = .ok (.iload_n 1, 1) := by decide +kernel
theorem dX16_join_493 : decode cX16_join 493 = .ok (.ifCond .ne 25, 3) := by decide +kernel
theorem dX16_join_496 : decode cX16_join 496 = .ok (.aload 6, 2) := by decide +kernel
theorem dX16_join_498 : decode cX16_join 498 = .ok (.getfield 246, 3) := by decide +kernel
theorem dX16_join_501 : decode cX16_join 501 = .ok (.iload 13, 2) := by decide +kernel
theorem dX16_join_503 : decode cX16_join 503 = .ok (.iaload, 1) := by decide +kernel
theorem dX16_join_504 : decode cX16_join 504 = .ok (.aload 7, 2) := by decide +kernel
theorem dX16_join_506 : decode cX16_join 506 = .ok (.getfield 246, 3) := by decide +kernel
theorem dX16_join_509 : decode cX16_join 509 = .ok (.iload 13, 2) := by decide +kernel
theorem dX16_join_511 : decode cX16_join 511 = .ok (.iaload, 1) := by decide +kernel
theorem dX16_join_512 : decode cX16_join 512 = .ok (.invokestatic 49, 3) := by decide +kernel
theorem dX16_join_515 : decode cX16_join 515 = .ok (.goto 108, 3) := by decide +kernel
theorem dX16_join_518 : decode cX16_join 518 = .ok (.iload_n 1, 1) := by decide +kernel
theorem dX16_join_519 : decode cX16_join 519 = .ok (.iconst 1, 1) := by decide +kernel
theorem dX16_join_520 : decode cX16_join 520 = .ok (.if_icmp .ne 25, 3) := by decide +kernel
theorem dX16_join_523 : decode cX16_join 523 = .ok (.aload 6, 2) := by decide +kernel
theorem dX16_join_525 : decode cX16_join 525 = .ok (.getfield 246, 3) := by decide +kernel
theorem dX16_join_528 : decode cX16_join 528 = .ok (.iload 13, 2) := by decide +kernel
theorem dX16_join_530 : decode cX16_join 530 = .ok (.iaload, 1) := by decide +kernel
theorem dX16_join_531 : decode cX16_join 531 = .ok (.aload 7, 2) := by decide +kernel
theorem dX16_join_533 : decode cX16_join 533 = .ok (.getfield 246, 3) := by decide +kernel
theorem dX16_join_536 : decode cX16_join 536 = .ok (.iload 13, 2) := by decide +kernel
theorem dX16_join_538 : decode cX16_join 538 = .ok (.iaload, 1) := by decide +kernel
theorem dX16_join_539 : decode cX16_join 539 = .ok (.invokestatic 46, 3) := by decide +kernel
theorem dX16_join_542 : decode cX16_join 542 = .ok (.goto 81, 3) := by decide +kernel
theorem dX16_join_545 : decode cX16_join 545 = .ok (.iload_n 1, 1) := by decide +kernel
theorem dX16_join_546 : decode cX16_join 546 = .ok (.iconst 2, 1) := by decide +kernel
theorem dX16_join_547 : decode cX16_join 547 = .ok (.if_icmp .ne 25, 3) := by decide +kernel
theorem dX16_join_550 : decode cX16_join 550 = .ok (.aload 6, 2) := by decide +kernel
theorem dX16_join_552 : decode cX16_join 552 = .ok (.getfield 246, 3) := by decide +kernel
theorem dX16_join_555 : decode cX16_join 555 = .ok (.iload 13, 2) := by decide +kernel
theorem dX16_join_557 : decode cX16_join 557 = .ok (.iaload, 1) := by decide +kernel
theorem dX16_join_558 : decode cX16_join 558 = .ok (.aload 7, 2) := by decide +kernel
theorem dX16_join_560 : decode cX16_join 560 = .ok (.getfield 246, 3) := by decide +kernel
theorem dX16_join_563 : decode cX16_join 563 = .ok (.iload 13, 2) := by decide +kernel
theorem dX16_join_565 : decode cX16_join 565 = .ok (.iaload, 1) := by decide +kernel
theorem dX16_join_566 : decode cX16_join 566 = .ok (.invokestatic 56, 3) := by decide +kernel
theorem dX16_join_569 : decode cX16_join 569 = .ok (.goto 54, 3) := by decide +kernel
theorem dX16_join_572 : decode cX16_join 572 = .ok (.iload_n 1, 1) := by decide +kernel
theorem dX16_join_573 : decode cX16_join 573 = .ok (.iconst 3, 1) := by decide +kernel
theorem dX16_join_574 : decode cX16_join 574 = .ok (.if_icmp .ne 8, 3) := by decide +kernel
theorem dX16_join_577 : decode cX16_join 577 = .ok (.iload 12, 2) := by decide +kernel
theorem dX16_join_579 : decode cX16_join 579 = .ok (.goto 44, 3) := by decide +kernel
theorem dX16_join_582 : decode cX16_join 582 = .ok (.iload_n 1, 1) := by decide +kernel
theorem dX16_join_583 : decode cX16_join 583 = .ok (.iconst 4, 1) := by decide +kernel
theorem dX16_join_584 : decode cX16_join 584 = .ok (.if_icmp .ne 16, 3) := by decide +kernel
theorem dX16_join_587 : decode cX16_join 587 = .ok (.aload 6, 2) := by decide +kernel
theorem dX16_join_589 : decode cX16_join 589 = .ok (.getfield 246, 3) := by decide +kernel
theorem dX16_join_592 : decode cX16_join 592 = .ok (.iload 13, 2) := by decide +kernel
theorem dX16_join_594 : decode cX16_join 594 = .ok (.iconst 1, 1) := by decide +kernel
theorem dX16_join_595 : decode cX16_join 595 = .ok (.iadd, 1) := by decide +kernel
theorem dX16_join_596 : decode cX16_join 596 = .ok (.iaload, 1) := by decide +kernel
theorem dX16_join_597 : decode cX16_join 597 = .ok (.goto 26, 3) := by decide +kernel
theorem dX16_join_600 : decode cX16_join 600 = .ok (.aload_n 0, 1) := by decide +kernel
theorem dX16_join_601 : decode cX16_join 601 = .ok (.aload 7, 2) := by decide +kernel
theorem dX16_join_603 : decode cX16_join 603 = .ok (.getfield 207, 3) := by decide +kernel
theorem dX16_join_606 : decode cX16_join 606 = .ok (.iload 13, 2) := by decide +kernel
theorem dX16_join_608 : decode cX16_join 608 = .ok (.iconst 0, 1) := by decide +kernel
theorem dX16_join_609 : decode cX16_join 609 = .ok (.invokevirtual 674, 3) := by decide +kernel
theorem dX16_join_612 : decode cX16_join 612 = .ok (.aload 6, 2) := by decide +kernel
theorem dX16_join_614 : decode cX16_join 614 = .ok (.getfield 246, 3) := by decide +kernel
theorem dX16_join_617 : decode cX16_join 617 = .ok (.iload 13, 2) := by decide +kernel
theorem dX16_join_619 : decode cX16_join 619 = .ok (.iaload, 1) := by decide +kernel
theorem dX16_join_620 : decode cX16_join 620 = .ok (.invokestatic 56, 3) := by decide +kernel
theorem dX16_join_623 : decode cX16_join 623 = .ok (.iastore, 1) := by decide +kernel
theorem dX16_join_624 : decode cX16_join 624 = .ok (.iinc 13 1, 3) := by decide +kernel
theorem dX16_join_627 : decode cX16_join 627 = .ok (.goto (-171), 3) := by decide +kernel
theorem dX16_join_630 : decode cX16_join 630 = .ok (.aload_n 0, 1) := by decide +kernel
theorem dX16_join_631 : decode cX16_join 631 = .ok (.getfield 453, 3) := by decide +kernel
theorem dX16_join_634 : decode cX16_join 634 = .ok (.aload_n 0, 1) := by decide +kernel
theorem dX16_join_635 : decode cX16_join 635 = .ok (.getfield 453, 3) := by decide +kernel
theorem dX16_join_638 : decode cX16_join 638 = .ok (.getfield 240, 3) := by decide +kernel
theorem dX16_join_641 : decode cX16_join 641 = .ok (.putfield 243, 3) := by decide +kernel
theorem dX16_join_644 : decode cX16_join 644 = .ok (.aload_n 0, 1) := by decide +kernel
theorem dX16_join_645 : decode cX16_join 645 = .ok (.getfield 453, 3) := by decide +kernel
theorem dX16_join_648 : decode cX16_join 648 = .ok (.invokestatic 784, 3) := by decide +kernel
theorem dX16_join_651 : decode cX16_join 651 = .ok (.aload_n 0, 1) := by decide +kernel
theorem dX16_join_652 : decode cX16_join 652 = .ok (.getfield 450, 3) := by decide +kernel
theorem dX16_join_655 : decode cX16_join 655 = .ok (.iload 4, 2) := by decide +kernel
theorem dX16_join_657 : decode cX16_join 657 = .ok (.aaload, 1) := by decide +kernel
theorem dX16_join_658 : decode cX16_join 658 = .ok (.aload_n 0, 1) := by decide +kernel
theorem dX16_join_659 : decode cX16_join 659 = .ok (.getfield 453, 3) := by decide +kernel
theorem dX16_join_662 : decode cX16_join 662 = .ok (.invokestatic 547, 3) := by decide +kernel
theorem dX16_join_665 : decode cX16_join 665 = .ok (.iload 10, 2) := by decide +kernel
theorem dX16_join_667 : decode cX16_join 667 = .ok (.ireturn, 1) := by decide +kernel
theorem dX16_feed_0 : decode cX16_feed 0 = .ok (.aload_n 0, 1) := by decide +kernel
theorem dX16_feed_1 : decode cX16_feed 1 = .ok (.getfield 607, 3) := by decide +kernel
theorem dX16_feed_4 : decode cX16_feed 4 = .ok (.bipush 60, 2) := by decide +kernel
theorem dX16_feed_6 : decode cX16_feed 6 = .ok (.if_icmp .ne 6, 3) := by decide +kernel
theorem dX16_feed_9 : decode cX16_feed 9 = .ok (.bipush (-2), 2) := by decide +kernel
theorem dX16_feed_11 : decode cX16_feed 11 = .ok (.ireturn, 1) := by decide +kernel
theorem dX16_feed_12 : decode cX16_feed 12 = .ok (.aload_n 0, 1) := by decide +kernel
theorem dX16_feed_13 : decode cX16_feed 13 = .ok (.getfield 465, 3) := by decide +kernel
theorem dX16_feed_16 : decode cX16_feed 16 = .ok (.aload_n 0, 1) := by decide +kernel
theorem dX16_feed_17 : decode cX16_feed 17 = .ok (.dup, 1) := by decide +kernel
theorem dX16_feed_18 : decode cX16_feed 18 = .ok (.getfield 607, 3) := by decide +kernel
theorem dX16_feed_21 : decode cX16_feed 21 = .ok (.dup_x1, 1) := by decide +kernel
theorem dX16_feed_22 : decode cX16_feed 22 = .ok (.iconst 1, 1) := by decide +kernel
theorem dX16_feed_23 : decode cX16_feed 23 = .ok (.iadd, 1) := by decide +kernel
theorem dX16_feed_24 : decode cX16_feed 24 = .ok (.putfield 607, 3) := by decide +kernel
theorem dX16_feed_27 : decode cX16_feed 27 = .ok (.iload_n 1, 1) := by decide +kernel
theorem dX16_feed_28 : decode cX16_feed 28 = .ok (.invokestatic 600, 3) := by decide +kernel
theorem dX16_feed_31 : decode cX16_feed 31 = .ok (.iastore, 1) := by decide +kernel
theorem dX16_feed_32 : decode cX16_feed 32 = .ok (.aload_n 0, 1) := by decide +kernel
theorem dX16_feed_33 : decode cX16_feed 33 = .ok (.getfield 607, 3) := by decide +kernel
theorem dX16_feed_36 : decode cX16_feed 36 = .ok (.ireturn, 1) := by decide +kernel
theorem dX16_clear__0 : decode cX16_clear_ 0 = .ok (.aload_n 0, 1) := by decide +kernel
theorem dX16_clear__1 : decode cX16_clear_ 1 = .ok (.getfield 607, 3) := by decide +kernel
theorem dX16_clear__4 : decode cX16_clear_ 4 = .ok (.istore_n 1, 1) := by decide +kernel
theorem dX16_clear__5 : decode cX16_clear_ 5 = .ok (.aload_n 0, 1) := by decide +kernel
theorem dX16_clear__6 : decode cX16_clear_ 6 = .ok (.iconst 0, 1) := by decide +kernel
theorem dX16_clear__7 : decode cX16_clear_ 7 = .ok (.putfield 607, 3) := by decide +kernel
theorem dX16_clear__10 : decode cX16_clear_ 10 = .ok (.iload_n 1, 1) := by decide +kernel
theorem dX16_clear__11 : decode cX16_clear_ 11 = .ok (.ireturn, 1) := by decide +kernel
theorem dX16_guess_0 : decode cX16_guess 0 = .ok (.iload_n 1, 1) := by decide +kernel
theorem dX16_guess_1 : decode cX16_guess 1 = .ok (.invokestatic 551, 3) := by decide +kernel
theorem dX16_guess_4 : decode cX16_guess 4 = .ok (.ifCond .ne 5, 3) := by decide +kernel
theorem dX16_guess_7 : decode cX16_guess 7 = .ok (.iconst (-1), 1) := by decide +kernel
theorem dX16_guess_8 : decode cX16_guess 8 = .ok (.ireturn, 1) := by decide +kernel
theorem dX16_guess_9 : decode cX16_guess 9 = .ok (.aload_n 0, 1) := by decide +kernel
theorem dX16_guess_10 : decode cX16_guess 10 = .ok (.invokevirtual 555, 3) := by decide +kernel
theorem dX16_guess_13 : decode cX16_guess 13 = .ok (.iconst 1, 1) := by decide +kernel
theorem dX16_guess_14 : decode cX16_guess 14 = .ok (.istore_n 2, 1) := by decide +kernel
theorem dX16_guess_15 : decode cX16_guess 15 = .ok (.iload_n 2, 1) := by decide +kernel
theorem dX16_guess_16 : decode cX16_guess 16 = .ok (.iconst 4, 1) := by decide +kernel
theorem dX16_guess_17 : decode cX16_guess 17 = .ok (.if_icmp .gt 58, 3) := by decide +kernel
theorem dX16_guess_20 : decode cX16_guess 20 = .ok (.iconst 0, 1) := by decide +kernel
theorem dX16_guess_21 : decode cX16_guess 21 = .ok (.istore_n 3, 1) := by decide +kernel
theorem dX16_guess_22 : decode cX16_guess 22 = .ok (.iload_n 3, 1) := by decide +kernel
theorem dX16_guess_23 : decode cX16_guess 23 = .ok (.bipush 8, 2) := by decide +kernel
theorem dX16_guess_25 : decode cX16_guess 25 = .ok (.if_icmp .gt 44, 3) := by decide +kernel
theorem dX16_guess_28 : decode cX16_guess 28 = .ok (.iload_n 2, 1) := by decide +kernel
theorem dX16_guess_29 : decode cX16_guess 29 = .ok (.iconst 1, 1) := by decide +kernel
theorem dX16_guess_30 : decode cX16_guess 30 = .ok (.iadd, 1) := by decide +kernel
theorem dX16_guess_31 : decode cX16_guess 31 = .ok (.iload_n 3, 1) := by decide +kernel
theorem dX16_guess_32 : decode cX16_guess 32 = .ok (.iconst 1, 1) := by decide +kernel
theorem dX16_guess_33 : decode cX16_guess 33 = .ok (.iadd, 1) := by decide +kernel
theorem dX16_guess_34 : decode cX16_guess 34 = .ok (.imul, 1) := by decide +kernel
theorem dX16_guess_35 : decode cX16_guess 35 = .ok (.iconst 4, 1) := by decide +kernel
theorem dX16_guess_36 : decode cX16_guess 36 = .ok (.iadd, 1) := by decide +kernel
theorem dX16_guess_37 : decode cX16_guess 37 = .ok (.aload_n 0, 1) := by decide +kernel
theorem dX16_guess_38 : decode cX16_guess 38 = .ok (.getfield 607, 3) := by decide +kernel
theorem dX16_guess_41 : decode cX16_guess 41 = .ok (.iload_n 2, 1) := by decide +kernel
theorem dX16_guess_42 : decode cX16_guess 42 = .ok (.isub, 1) := by decide +kernel
theorem dX16_guess_43 : decode cX16_guess 43 = .ok (.if_icmp .gt 26, 3) := by decide +kernel
theorem dX16_guess_46 : decode cX16_guess 46 = .ok (.aload_n 0, 1) := by decide +kernel
theorem dX16_guess_47 : decode cX16_guess 47 = .ok (.iload_n 2, 1) := by decide +kernel
theorem dX16_guess_48 : decode cX16_guess 48 = .ok (.iload_n 3, 1) := by decide +kernel
theorem dX16_guess_49 : decode cX16_guess 49 = .ok (.invokevirtual 806, 3) := by decide +kernel
theorem dX16_guess_52 : decode cX16_guess 52 = .ok (.ifCond .eq 11, 3) := by decide +kernel
theorem dX16_guess_55 : decode cX16_guess 55 = .ok (.aload_n 0, 1) := by decide +kernel
theorem dX16_guess_56 : decode cX16_guess 56 = .ok (.iload_n 2, 1) := by decide +kernel
theorem dX16_guess_57 : decode cX16_guess 57 = .ok (.iload_n 3, 1) := by decide +kernel
theorem dX16_guess_58 : decode cX16_guess 58 = .ok (.iload_n 1, 1) := by decide +kernel
theorem dX16_guess_59 : decode cX16_guess 59 = .ok (.invokevirtual 810, 3) := by decide +kernel
theorem dX16_guess_62 : decode cX16_guess 62 = .ok (.ireturn, 1) := by decide +kernel
theorem dX16_guess_63 : decode cX16_guess 63 = .ok (.iinc 3 1, 3) := by decide +kernel
theorem dX16_guess_66 : decode cX16_guess 66 = .ok (.goto (-44), 3) := by decide +kernel
theorem dX16_guess_69 : decode cX16_guess 69 = .ok (.iinc 2 1, 3) := by decide +kernel
theorem dX16_guess_72 : decode cX16_guess 72 = .ok (.goto (-57), 3) := by decide +kernel
theorem dX16_guess_75 : decode cX16_guess 75 = .ok (.iconst (-1), 1) := by decide +kernel
theorem dX16_guess_76 : decode cX16_guess 76 = .ok (.ireturn, 1) := by decide +kernel
theorem dX16_roots_0 : decode cX16_roots 0 = .ok (.iload_n 1, 1) := by decide +kernel
theorem dX16_roots_1 : decode cX16_roots 1 = .ok (.invokestatic 551, 3) := by decide +kernel
theorem dX16_roots_4 : decode cX16_roots 4 = .ok (.ifCond .ne 5, 3) := by decide +kernel
theorem dX16_roots_7 : decode cX16_roots 7 = .ok (.iconst (-1), 1) := by decide +kernel
theorem dX16_roots_8 : decode cX16_roots 8 = .ok (.ireturn, 1) := by decide +kernel
theorem dX16_roots_9 : decode cX16_roots 9 = .ok (.aload_n 0, 1) := by decide +kernel
theorem dX16_roots_10 : decode cX16_roots 10 = .ok (.getfield 450, 3) := by decide +kernel
theorem dX16_roots_13 : decode cX16_roots 13 = .ok (.iload_n 1, 1) := by decide +kernel
theorem dX16_roots_14 : decode cX16_roots 14 = .ok (.aaload, 1) := by decide +kernel
theorem dX16_roots_15 : decode cX16_roots 15 = .ok (.astore_n 2, 1) := by decide +kernel
theorem dX16_roots_16 : decode cX16_roots 16 = .ok (.aload_n 2, 1) := by decide +kernel
theorem dX16_roots_17 : decode cX16_roots 17 = .ok (.invokestatic 637, 3) := by decide +kernel
theorem dX16_roots_20 : decode cX16_roots 20 = .ok (.ifCond .eq 21, 3) := by decide +kernel
theorem dX16_roots_23 : decode cX16_roots 23 = .ok (.aload_n 2, 1) := by decide +kernel
theorem dX16_roots_24 : decode cX16_roots 24 = .ok (.invokestatic 288, 3) := by decide +kernel
theorem dX16_roots_27 : decode cX16_roots 27 = .ok (.ifCond .ne 14, 3) := by decide +kernel
theorem dX16_roots_30 : decode cX16_roots 30 = .ok (.aload_n 2, 1) := by decide +kernel
theorem dX16_roots_31 : decode cX16_roots 31 = .ok (.getfield 207, 3) := by decide +kernel
theorem dX16_roots_34 : decode cX16_roots 34 = .ok (.iconst 1, 1) := by decide +kernel
theorem dX16_roots_35 : decode cX16_roots 35 = .ok (.invokestatic 603, 3) := by decide +kernel
theorem dX16_roots_38 : decode cX16_roots 38 = .ok (.ifCond .le 6, 3) := by decide +kernel
theorem dX16_roots_41 : decode cX16_roots 41 = .ok (.bipush (-3), 2) := by decide +kernel
theorem dX16_roots_43 : decode cX16_roots 43 = .ok (.ireturn, 1) := by decide +kernel
theorem dX16_roots_44 : decode cX16_roots 44 = .ok (.aload_n 0, 1) := by decide +kernel
theorem dX16_roots_45 : decode cX16_roots 45 = .ok (.invokevirtual 555, 3) := by decide +kernel
theorem dX16_roots_48 : decode cX16_roots 48 = .ok (.aload_n 0, 1) := by decide +kernel
theorem dX16_roots_49 : decode cX16_roots 49 = .ok (.invokevirtual 74, 3) := by decide +kernel
theorem dX16_roots_52 : decode cX16_roots 52 = .ok (.astore_n 3, 1) := by decide +kernel
theorem dX16_roots_53 : decode cX16_roots 53 = .ok (.aload_n 0, 1) := by decide +kernel
theorem dX16_roots_54 : decode cX16_roots 54 = .ok (.invokevirtual 74, 3) := by decide +kernel
theorem dX16_roots_57 : decode cX16_roots 57 = .ok (.astore 4, 2) := by decide +kernel
theorem dX16_roots_59 : decode cX16_roots 59 = .ok (.aload_n 0, 1) := by decide +kernel
theorem dX16_roots_60 : decode cX16_roots 60 = .ok (.invokevirtual 74, 3) := by decide +kernel
theorem dX16_roots_63 : decode cX16_roots 63 = .ok (.astore 5, 2) := by decide +kernel
theorem dX16_roots_65 : decode cX16_roots 65 = .ok (.aload_n 0, 1) := by decide +kernel
theorem dX16_roots_66 : decode cX16_roots 66 = .ok (.invokevirtual 74, 3) := by decide +kernel
theorem dX16_roots_69 : decode cX16_roots 69 = .ok (.astore 6, 2) := by decide +kernel
theorem dX16_roots_71 : decode cX16_roots 71 = .ok (.aload_n 0, 1) := by decide +kernel
theorem dX16_roots_72 : decode cX16_roots 72 = .ok (.invokevirtual 74, 3) := by decide +kernel
theorem dX16_roots_75 : decode cX16_roots 75 = .ok (.astore 7, 2) := by decide +kernel
theorem dX16_roots_77 : decode cX16_roots 77 = .ok (.aload_n 3, 1) := by decide +kernel
theorem dX16_roots_78 : decode cX16_roots 78 = .ok (.aload_n 2, 1) := by decide +kernel
theorem dX16_roots_79 : decode cX16_roots 79 = .ok (.getfield 207, 3) := by decide +kernel
theorem dX16_roots_82 : decode cX16_roots 82 = .ok (.iconst 0, 1) := by decide +kernel
theorem dX16_roots_83 : decode cX16_roots 83 = .ok (.invokestatic 775, 3) := by decide +kernel
theorem dX16_roots_86 : decode cX16_roots 86 = .ok (.aload_n 0, 1) := by decide +kernel
theorem dX16_roots_87 : decode cX16_roots 87 = .ok (.iconst 0, 1) := by decide +kernel
theorem dX16_roots_88 : decode cX16_roots 88 = .ok (.putfield 814, 3) := by decide +kernel
theorem dX16_roots_91 : decode cX16_roots 91 = .ok (.aload_n 0, 1) := by decide +kernel
theorem dX16_roots_92 : decode cX16_roots 92 = .ok (.iconst 0, 1) := by decide +kernel
theorem dX16_roots_93 : decode cX16_roots 93 = .ok (.putfield 610, 3) := by decide +kernel
theorem dX16_roots_96 : decode cX16_roots 96 = .ok (.aload_n 3, 1) := by decide +kernel
theorem dX16_roots_97 : decode cX16_roots 97 = .ok (.getfield 25, 3) := by decide +kernel
theorem dX16_roots_100 : decode cX16_roots 100 = .ok (.iconst 1, 1) := by decide +kernel
theorem dX16_roots_101 : decode cX16_roots 101 = .ok (.if_icmp .le 63, 3) := by decide +kernel
theorem dX16_roots_104 : decode cX16_roots 104 = .ok (.aload 5, 2) := by decide +kernel
theorem dX16_roots_106 : decode cX16_roots 106 = .ok (.getfield 30, 3) := by decide +kernel
theorem dX16_roots_109 : decode cX16_roots 109 = .ok (.iconst 0, 1) := by decide +kernel
theorem dX16_roots_110 : decode cX16_roots 110 = .ok (.iconst 0, 1) := by decide +kernel
theorem dX16_roots_111 : decode cX16_roots 111 = .ok (.iastore, 1) := by decide +kernel
theorem dX16_roots_112 : decode cX16_roots 112 = .ok (.aload 5, 2) := by decide +kernel
theorem dX16_roots_114 : decode cX16_roots 114 = .ok (.getfield 30, 3) := by decide +kernel
theorem dX16_roots_117 : decode cX16_roots 117 = .ok (.iconst 1, 1) := by decide +kernel
theorem dX16_roots_118 : decode cX16_roots 118 = .ok (.iconst 1, 1) := by decide +kernel
theorem dX16_roots_119 : decode cX16_roots 119 = .ok (.iastore, 1) := by decide +kernel
theorem dX16_roots_120 : decode cX16_roots 120 = .ok (.aload 5, 2) := by decide +kernel
theorem dX16_roots_122 : decode cX16_roots 122 = .ok (.iconst 2, 1) := by decide +kernel
theorem dX16_roots_123 : decode cX16_roots 123 = .ok (.putfield 25, 3) := by decide +kernel
theorem dX16_roots_126 : decode cX16_roots 126 = .ok (.aload_n 0, 1) := by decide +kernel
theorem dX16_roots_127 : decode cX16_roots 127 = .ok (.aload 4, 2) := by decide +kernel
theorem dX16_roots_129 : decode cX16_roots 129 = .ok (.aload 5, 2) := by decide +kernel
theorem dX16_roots_131 : decode cX16_roots 131 = .ok (.ldc2_w 3, 3) := by decide +kernel
theorem dX16_roots_134 : decode cX16_roots 134 = .ok (.aload_n 3, 1) := by decide +kernel
theorem dX16_roots_135 : decode cX16_roots 135 = .ok (.invokevirtual 819, 3) := by decide +kernel
theorem dX16_roots_138 : decode cX16_roots 138 = .ok (.aload 4, 2) := by decide +kernel
theorem dX16_roots_140 : decode cX16_roots 140 = .ok (.aload 4, 2) := by decide +kernel
theorem dX16_roots_142 : decode cX16_roots 142 = .ok (.aload 5, 2) := by decide +kernel
theorem dX16_roots_144 : decode cX16_roots 144 = .ok (.iconst 1, 1) := by decide +kernel
theorem dX16_roots_145 : decode cX16_roots 145 = .ok (.invokestatic 101, 3) := by decide +kernel
theorem dX16_roots_148 : decode cX16_roots 148 = .ok (.aload_n 0, 1) := by decide +kernel
theorem dX16_roots_149 : decode cX16_roots 149 = .ok (.aload 4, 2) := by decide +kernel
theorem dX16_roots_151 : decode cX16_roots 151 = .ok (.aload 4, 2) := by decide +kernel
theorem dX16_roots_153 : decode cX16_roots 153 = .ok (.aload_n 3, 1) := by decide +kernel
theorem dX16_roots_154 : decode cX16_roots 154 = .ok (.invokevirtual 125, 3) := by decide +kernel
theorem dX16_roots_157 : decode cX16_roots 157 = .ok (.aload_n 0, 1) := by decide +kernel
theorem dX16_roots_158 : decode cX16_roots 158 = .ok (.aload 4, 2) := by decide +kernel
theorem dX16_roots_160 : decode cX16_roots 160 = .ok (.iconst 0, 1) := by decide +kernel
theorem dX16_roots_161 : decode cX16_roots 161 = .ok (.invokevirtual 823, 3) := by decide +kernel
theorem dX16_roots_164 : decode cX16_roots 164 = .ok (.iconst 0, 1) := by decide +kernel
theorem dX16_roots_165 : decode cX16_roots 165 = .ok (.istore 8, 2) := by decide +kernel
theorem dX16_roots_167 : decode cX16_roots 167 = .ok (.iload 8, 2) := by decide +kernel
theorem dX16_roots_169 : decode cX16_roots 169 = .ok (.aload_n 0, 1) := by decide +kernel
theorem dX16_roots_170 : decode cX16_roots 170 = .ok (.getfield 814, 3) := by decide +kernel
theorem dX16_roots_173 : decode cX16_roots 173 = .ok (.if_icmp .ge 72, 3) := by decide +kernel
theorem dX16_roots_176 : decode cX16_roots 176 = .ok (.iload 8, 2) := by decide +kernel
theorem dX16_roots_178 : decode cX16_roots 178 = .ok (.istore 9, 2) := by decide +kernel
theorem dX16_roots_180 : decode cX16_roots 180 = .ok (.aload_n 0, 1) := by decide +kernel
theorem dX16_roots_181 : decode cX16_roots 181 = .ok (.getfield 538, 3) := by decide +kernel
theorem dX16_roots_184 : decode cX16_roots 184 = .ok (.iload 8, 2) := by decide +kernel
theorem dX16_roots_186 : decode cX16_roots 186 = .ok (.iaload, 1) := by decide +kernel
theorem dX16_roots_187 : decode cX16_roots 187 = .ok (.istore 10, 2) := by decide +kernel
theorem dX16_roots_189 : decode cX16_roots 189 = .ok (.iload 9, 2) := by decide +kernel
theorem dX16_roots_191 : decode cX16_roots 191 = .ok (.ifCond .le 39, 3) := by decide +kernel
theorem dX16_roots_194 : decode cX16_roots 194 = .ok (.aload_n 0, 1) := by decide +kernel
theorem dX16_roots_195 : decode cX16_roots 195 = .ok (.getfield 538, 3) := by decide +kernel
theorem dX16_roots_198 : decode cX16_roots 198 = .ok (.iload 9, 2) := by decide +kernel
theorem dX16_roots_200 : decode cX16_roots 200 = .ok (.iconst 1, 1) := by decide +kernel
theorem dX16_roots_201 : decode cX16_roots 201 = .ok (.isub, 1) := by decide +kernel
theorem dX16_roots_202 : decode cX16_roots 202 = .ok (.iaload, 1) := by decide +kernel
theorem dX16_roots_203 : decode cX16_roots 203 = .ok (.iload 10, 2) := by decide +kernel
theorem dX16_roots_205 : decode cX16_roots 205 = .ok (.if_icmp .le 25, 3) := by decide +kernel
theorem dX16_roots_208 : decode cX16_roots 208 = .ok (.aload_n 0, 1) := by decide +kernel
theorem dX16_roots_209 : decode cX16_roots 209 = .ok (.getfield 538, 3) := by decide +kernel
theorem dX16_roots_212 : decode cX16_roots 212 = .ok (.iload 9, 2) := by decide +kernel
theorem dX16_roots_214 : decode cX16_roots 214 = .ok (.aload_n 0, 1) := by decide +kernel
theorem dX16_roots_215 : decode cX16_roots 215 = .ok (.getfield 538, 3) := by decide +kernel
theorem dX16_roots_218 : decode cX16_roots 218 = .ok (.iload 9, 2) := by decide +kernel
theorem dX16_roots_220 : decode cX16_roots 220 = .ok (.iconst 1, 1) := by decide +kernel
theorem dX16_roots_221 : decode cX16_roots 221 = .ok (.isub, 1) := by decide +kernel
theorem dX16_roots_222 : decode cX16_roots 222 = .ok (.iaload, 1) := by decide +kernel
theorem dX16_roots_223 : decode cX16_roots 223 = .ok (.iastore, 1) := by decide +kernel
theorem dX16_roots_224 : decode cX16_roots 224 = .ok (.iinc 9 (-1), 3) := by decide +kernel
theorem dX16_roots_227 : decode cX16_roots 227 = .ok (.goto (-38), 3) := by decide +kernel
theorem dX16_roots_230 : decode cX16_roots 230 = .ok (.aload_n 0, 1) := by decide +kernel
theorem dX16_roots_231 : decode cX16_roots 231 = .ok (.getfield 538, 3) := by decide +kernel
theorem dX16_roots_234 : decode cX16_roots 234 = .ok (.iload 9, 2) := by decide +kernel
theorem dX16_roots_236 : decode cX16_roots 236 = .ok (.iload 10, 2) := by decide +kernel
theorem dX16_roots_238 : decode cX16_roots 238 = .ok (.iastore, 1) := by decide +kernel
theorem dX16_roots_239 : decode cX16_roots 239 = .ok (.iinc 8 1, 3) := by decide +kernel
theorem dX16_roots_242 : decode cX16_roots 242 = .ok (.goto (-75), 3) := by decide +kernel
theorem dX16_roots_245 : decode cX16_roots 245 = .ok (.iconst 0, 1) := by decide +kernel
theorem dX16_roots_246 : decode cX16_roots 246 = .ok (.istore 8, 2) := by decide +kernel
theorem dX16_roots_248 : decode cX16_roots 248 = .ok (.iload 8, 2) := by decide +kernel
theorem dX16_roots_250 : decode cX16_roots 250 = .ok (.aload_n 0, 1) := by decide +kernel
theorem dX16_roots_251 : decode cX16_roots 251 = .ok (.getfield 814, 3) := by decide +kernel
theorem dX16_roots_254 : decode cX16_roots 254 = .ok (.if_icmp .ge 109, 3) := by decide +kernel
theorem dX16_roots_257 : decode cX16_roots 257 = .ok (.aload 5, 2) := by decide +kernel
theorem dX16_roots_259 : decode cX16_roots 259 = .ok (.getfield 30, 3) := by decide +kernel
theorem dX16_roots_262 : decode cX16_roots 262 = .ok (.iconst 0, 1) := by decide +kernel
theorem dX16_roots_263 : decode cX16_roots 263 = .ok (.iconst 0, 1) := by decide +kernel
theorem dX16_roots_264 : decode cX16_roots 264 = .ok (.aload_n 0, 1) := by decide +kernel
theorem dX16_roots_265 : decode cX16_roots 265 = .ok (.getfield 538, 3) := by decide +kernel
theorem dX16_roots_268 : decode cX16_roots 268 = .ok (.iload 8, 2) := by decide +kernel
theorem dX16_roots_270 : decode cX16_roots 270 = .ok (.iaload, 1) := by decide +kernel
theorem dX16_roots_271 : decode cX16_roots 271 = .ok (.invokestatic 46, 3) := by decide +kernel
theorem dX16_roots_274 : decode cX16_roots 274 = .ok (.iastore, 1) := by decide +kernel
theorem dX16_roots_275 : decode cX16_roots 275 = .ok (.aload 5, 2) := by decide +kernel
theorem dX16_roots_277 : decode cX16_roots 277 = .ok (.getfield 30, 3) := by decide +kernel
theorem dX16_roots_280 : decode cX16_roots 280 = .ok (.iconst 1, 1) := by decide +kernel
theorem dX16_roots_281 : decode cX16_roots 281 = .ok (.iconst 1, 1) := by decide +kernel
theorem dX16_roots_282 : decode cX16_roots 282 = .ok (.iastore, 1) := by decide +kernel
theorem dX16_roots_283 : decode cX16_roots 283 = .ok (.aload 5, 2) := by decide +kernel
theorem dX16_roots_285 : decode cX16_roots 285 = .ok (.iconst 2, 1) := by decide +kernel
theorem dX16_roots_286 : decode cX16_roots 286 = .ok (.putfield 25, 3) := by decide +kernel
theorem dX16_roots_289 : decode cX16_roots 289 = .ok (.aload 6, 2) := by decide +kernel
theorem dX16_roots_291 : decode cX16_roots 291 = .ok (.aload 7, 2) := by decide +kernel
theorem dX16_roots_293 : decode cX16_roots 293 = .ok (.aload_n 3, 1) := by decide +kernel
theorem dX16_roots_294 : decode cX16_roots 294 = .ok (.aload 5, 2) := by decide +kernel
theorem dX16_roots_296 : decode cX16_roots 296 = .ok (.invokestatic 78, 3) := by decide +kernel
theorem dX16_roots_299 : decode cX16_roots 299 = .ok (.aload 7, 2) := by decide +kernel
theorem dX16_roots_301 : decode cX16_roots 301 = .ok (.getfield 25, 3) := by decide +kernel
theorem dX16_roots_304 : decode cX16_roots 304 = .ok (.ifCond .ne 53, 3) := by decide +kernel
theorem dX16_roots_307 : decode cX16_roots 307 = .ok (.aload_n 0, 1) := by decide +kernel
theorem dX16_roots_308 : decode cX16_roots 308 = .ok (.getfield 468, 3) := by decide +kernel
theorem dX16_roots_311 : decode cX16_roots 311 = .ok (.aload_n 0, 1) := by decide +kernel
theorem dX16_roots_312 : decode cX16_roots 312 = .ok (.dup, 1) := by decide +kernel
theorem dX16_roots_313 : decode cX16_roots 313 = .ok (.getfield 610, 3) := by decide +kernel
theorem dX16_roots_316 : decode cX16_roots 316 = .ok (.dup_x1, 1) := by decide +kernel
theorem dX16_roots_317 : decode cX16_roots 317 = .ok (.iconst 1, 1) := by decide +kernel
theorem dX16_roots_318 : decode cX16_roots 318 = .ok (.iadd, 1) := by decide +kernel
theorem dX16_roots_319 : decode cX16_roots 319 = .ok (.putfield 610, 3) := by decide +kernel
theorem dX16_roots_322 : decode cX16_roots 322 = .ok (.aload_n 0, 1) := by decide +kernel
theorem dX16_roots_323 : decode cX16_roots 323 = .ok (.getfield 538, 3) := by decide +kernel
theorem dX16_roots_326 : decode cX16_roots 326 = .ok (.iload 8, 2) := by decide +kernel
theorem dX16_roots_328 : decode cX16_roots 328 = .ok (.iaload, 1) := by decide +kernel
theorem dX16_roots_329 : decode cX16_roots 329 = .ok (.iastore, 1) := by decide +kernel
theorem dX16_roots_330 : decode cX16_roots 330 = .ok (.aload_n 3, 1) := by decide +kernel
theorem dX16_roots_331 : decode cX16_roots 331 = .ok (.aload 6, 2) := by decide +kernel
theorem dX16_roots_333 : decode cX16_roots 333 = .ok (.invokestatic 62, 3) := by decide +kernel
theorem dX16_roots_336 : decode cX16_roots 336 = .ok (.aload 6, 2) := by decide +kernel
theorem dX16_roots_338 : decode cX16_roots 338 = .ok (.aload 7, 2) := by decide +kernel
theorem dX16_roots_340 : decode cX16_roots 340 = .ok (.aload_n 3, 1) := by decide +kernel
theorem dX16_roots_341 : decode cX16_roots 341 = .ok (.aload 5, 2) := by decide +kernel
theorem dX16_roots_343 : decode cX16_roots 343 = .ok (.invokestatic 78, 3) := by decide +kernel
theorem dX16_roots_346 : decode cX16_roots 346 = .ok (.aload_n 3, 1) := by decide +kernel
theorem dX16_roots_347 : decode cX16_roots 347 = .ok (.getfield 25, 3) := by decide +kernel
theorem dX16_roots_350 : decode cX16_roots 350 = .ok (.iconst 1, 1) := by decide +kernel
theorem dX16_roots_351 : decode cX16_roots 351 = .ok (.if_icmp .gt (-52), 3) := by decide +kernel
theorem dX16_roots_354 : decode cX16_roots 354 = .ok (.goto 3, 3) := by decide +kernel
theorem dX16_roots_357 : decode cX16_roots 357 = .ok (.iinc 8 1, 3) := by decide +kernel
theorem dX16_roots_360 : decode cX16_roots 360 = .ok (.goto (-112), 3) := by decide +kernel
theorem dX16_roots_363 : decode cX16_roots 363 = .ok (.aload_n 0, 1) := by decide +kernel
theorem dX16_roots_364 : decode cX16_roots 364 = .ok (.getfield 610, 3) := by decide +kernel
theorem dX16_roots_367 : decode cX16_roots 367 = .ok (.ireturn, 1) := by decide +kernel
theorem dX16_root_0 : decode cX16_root 0 = .ok (.iload_n 1, 1) := by decide +kernel
theorem dX16_root_1 : decode cX16_root 1 = .ok (.ifCond .lt 20, 3) := by decide +kernel
theorem dX16_root_4 : decode cX16_root 4 = .ok (.iload_n 1, 1) := by decide +kernel
theorem dX16_root_5 : decode cX16_root 5 = .ok (.aload_n 0, 1) := by decide +kernel
theorem dX16_root_6 : decode cX16_root 6 = .ok (.getfield 610, 3) := by decide +kernel
theorem dX16_root_9 : decode cX16_root 9 = .ok (.if_icmp .ge 12, 3) := by decide +kernel
theorem dX16_root_12 : decode cX16_root 12 = .ok (.aload_n 0, 1) := by decide +kernel
theorem dX16_root_13 : decode cX16_root 13 = .ok (.getfield 468, 3) := by decide +kernel
theorem dX16_root_16 : decode cX16_root 16 = .ok (.iload_n 1, 1) := by decide +kernel
theorem dX16_root_17 : decode cX16_root 17 = .ok (.iaload, 1) := by decide +kernel
theorem dX16_root_18 : decode cX16_root 18 = .ok (.goto 4, 3) := by decide +kernel
theorem dX16_root_21 : decode cX16_root 21 = .ok (.iconst (-1), 1) := by decide +kernel
theorem dX16_root_22 : decode cX16_root 22 = .ok (.ireturn, 1) := by decide +kernel
theorem dX16_solve_0 : decode cX16_solve 0 = .ok (.iload_n 1, 1) := by decide +kernel
theorem dX16_solve_1 : decode cX16_solve 1 = .ok (.invokestatic 551, 3) := by decide +kernel
theorem dX16_solve_4 : decode cX16_solve 4 = .ok (.ifCond .eq 10, 3) := by decide +kernel
theorem dX16_solve_7 : decode cX16_solve 7 = .ok (.iload_n 2, 1) := by decide +kernel
theorem dX16_solve_8 : decode cX16_solve 8 = .ok (.invokestatic 551, 3) := by decide +kernel
theorem dX16_solve_11 : decode cX16_solve 11 = .ok (.ifCond .ne 5, 3) := by decide +kernel
theorem dX16_solve_14 : decode cX16_solve 14 = .ok (.iconst (-1), 1) := by decide +kernel
theorem dX16_solve_15 : decode cX16_solve 15 = .ok (.ireturn, 1) := by decide +kernel
theorem dX16_solve_16 : decode cX16_solve 16 = .ok (.aload_n 0, 1) := by decide +kernel
theorem dX16_solve_17 : decode cX16_solve 17 = .ok (.getfield 450, 3) := by decide +kernel
theorem dX16_solve_20 : decode cX16_solve 20 = .ok (.iload_n 1, 1) := by decide +kernel
theorem dX16_solve_21 : decode cX16_solve 21 = .ok (.aaload, 1) := by decide +kernel
theorem dX16_solve_22 : decode cX16_solve 22 = .ok (.astore_n 3, 1) := by decide +kernel
theorem dX16_solve_23 : decode cX16_solve 23 = .ok (.aload_n 3, 1) := by decide +kernel
theorem dX16_solve_24 : decode cX16_solve 24 = .ok (.getfield 202, 3) := by decide +kernel
theorem dX16_solve_27 : decode cX16_solve 27 = .ok (.iconst 3, 1) := by decide +kernel
theorem dX16_solve_28 : decode cX16_solve 28 = .ok (.if_icmp .eq 14, 3) := by decide +kernel
theorem dX16_solve_31 : decode cX16_solve 31 = .ok (.aload_n 3, 1) := by decide +kernel
theorem dX16_solve_32 : decode cX16_solve 32 = .ok (.getfield 202, 3) := by decide +kernel
theorem dX16_solve_35 : decode cX16_solve 35 = .ok (.iconst 4, 1) := by decide +kernel
theorem dX16_solve_36 : decode cX16_solve 36 = .ok (.if_icmp .eq 6, 3) := by decide +kernel
theorem dX16_solve_39 : decode cX16_solve 39 = .ok (.bipush (-3), 2) := by decide +kernel
theorem dX16_solve_41 : decode cX16_solve 41 = .ok (.ireturn, 1) := by decide +kernel
theorem dX16_solve_42 : decode cX16_solve 42 = .ok (.aload_n 3, 1) := by decide +kernel
theorem dX16_solve_43 : decode cX16_solve 43 = .ok (.getfield 234, 3) := by decide +kernel
theorem dX16_solve_46 : decode cX16_solve 46 = .ok (.iconst 1, 1) := by decide +kernel
theorem dX16_solve_47 : decode cX16_solve 47 = .ok (.if_icmp .eq 5, 3) := by decide +kernel
theorem dX16_solve_50 : decode cX16_solve 50 = .ok (.iconst (-1), 1) := by decide +kernel
theorem dX16_solve_51 : decode cX16_solve 51 = .ok (.ireturn, 1) := by decide +kernel
theorem dX16_solve_52 : decode cX16_solve 52 = .ok (.aload_n 0, 1) := by decide +kernel
theorem dX16_solve_53 : decode cX16_solve 53 = .ok (.invokevirtual 555, 3) := by decide +kernel
theorem dX16_solve_56 : decode cX16_solve 56 = .ok (.aload_n 0, 1) := by decide +kernel
theorem dX16_solve_57 : decode cX16_solve 57 = .ok (.invokevirtual 74, 3) := by decide +kernel
theorem dX16_solve_60 : decode cX16_solve 60 = .ok (.astore 4, 2) := by decide +kernel
theorem dX16_solve_62 : decode cX16_solve 62 = .ok (.aload_n 0, 1) := by decide +kernel
theorem dX16_solve_63 : decode cX16_solve 63 = .ok (.invokevirtual 74, 3) := by decide +kernel
theorem dX16_solve_66 : decode cX16_solve 66 = .ok (.astore 5, 2) := by decide +kernel
theorem dX16_solve_68 : decode cX16_solve 68 = .ok (.aload 4, 2) := by decide +kernel
theorem dX16_solve_70 : decode cX16_solve 70 = .ok (.aload_n 3, 1) := by decide +kernel
theorem dX16_solve_71 : decode cX16_solve 71 = .ok (.getfield 237, 3) := by decide +kernel
theorem dX16_solve_74 : decode cX16_solve 74 = .ok (.iconst 0, 1) := by decide +kernel
theorem dX16_solve_75 : decode cX16_solve 75 = .ok (.invokestatic 775, 3) := by decide +kernel
theorem dX16_solve_78 : decode cX16_solve 78 = .ok (.aload 5, 2) := by decide +kernel
theorem dX16_solve_80 : decode cX16_solve 80 = .ok (.aload_n 3, 1) := by decide +kernel
theorem dX16_solve_81 : decode cX16_solve 81 = .ok (.getfield 237, 3) := by decide +kernel
theorem dX16_solve_84 : decode cX16_solve 84 = .ok (.bipush 25, 2) := by decide +kernel
theorem dX16_solve_86 : decode cX16_solve 86 = .ok (.invokestatic 775, 3) := by decide +kernel
theorem dX16_solve_89 : decode cX16_solve 89 = .ok (.aload 4, 2) := by decide +kernel
theorem dX16_solve_91 : decode cX16_solve 91 = .ok (.getfield 25, 3) := by decide +kernel
theorem dX16_solve_94 : decode cX16_solve 94 = .ok (.ifCond .eq 11, 3) := by decide +kernel
theorem dX16_solve_97 : decode cX16_solve 97 = .ok (.aload 5, 2) := by decide +kernel
theorem dX16_solve_99 : decode cX16_solve 99 = .ok (.getfield 25, 3) := by decide +kernel
theorem dX16_solve_102 : decode cX16_solve 102 = .ok (.ifCond .ne 5, 3) := by decide +kernel
theorem dX16_solve_105 : decode cX16_solve 105 = .ok (.iconst (-1), 1) := by decide +kernel
theorem dX16_solve_106 : decode cX16_solve 106 = .ok (.ireturn, 1) := by decide +kernel
theorem dX16_solve_107 : decode cX16_solve 107 = .ok (.aload_n 0, 1) := by decide +kernel
theorem dX16_solve_108 : decode cX16_solve 108 = .ok (.aload_n 0, 1) := by decide +kernel
theorem dX16_solve_109 : decode cX16_solve 109 = .ok (.getfield 453, 3) := by decide +kernel
theorem dX16_solve_112 : decode cX16_solve 112 = .ok (.iconst 1, 1) := by decide +kernel
theorem dX16_solve_113 : decode cX16_solve 113 = .ok (.invokevirtual 292, 3) := by decide +kernel
theorem dX16_solve_116 : decode cX16_solve 116 = .ok (.aload_n 0, 1) := by decide +kernel
theorem dX16_solve_117 : decode cX16_solve 117 = .ok (.getfield 453, 3) := by decide +kernel
theorem dX16_solve_120 : decode cX16_solve 120 = .ok (.iconst 0, 1) := by decide +kernel
theorem dX16_solve_121 : decode cX16_solve 121 = .ok (.aload 4, 2) := by decide +kernel
theorem dX16_solve_123 : decode cX16_solve 123 = .ok (.invokevirtual 66, 3) := by decide +kernel
theorem dX16_solve_126 : decode cX16_solve 126 = .ok (.invokestatic 46, 3) := by decide +kernel
theorem dX16_solve_129 : decode cX16_solve 129 = .ok (.aload 5, 2) := by decide +kernel
theorem dX16_solve_131 : decode cX16_solve 131 = .ok (.invokevirtual 66, 3) := by decide +kernel
theorem dX16_solve_134 : decode cX16_solve 134 = .ok (.invokestatic 13, 3) := by decide +kernel
theorem dX16_solve_137 : decode cX16_solve 137 = .ok (.invokestatic 56, 3) := by decide +kernel
theorem dX16_solve_140 : decode cX16_solve 140 = .ok (.putfield 213, 3) := by decide +kernel
theorem dX16_solve_143 : decode cX16_solve 143 = .ok (.aload_n 0, 1) := by decide +kernel
theorem dX16_solve_144 : decode cX16_solve 144 = .ok (.getfield 541, 3) := by decide +kernel
theorem dX16_solve_147 : decode cX16_solve 147 = .ok (.astore 6, 2) := by decide +kernel
theorem dX16_solve_149 : decode cX16_solve 149 = .ok (.bipush (-49), 2) := by decide +kernel
theorem dX16_solve_151 : decode cX16_solve 151 = .ok (.istore 7, 2) := by decide +kernel
theorem dX16_solve_153 : decode cX16_solve 153 = .ok (.iload 7, 2) := by decide +kernel
theorem dX16_solve_155 : decode cX16_solve 155 = .ok (.bipush 51, 2) := by decide +kernel
theorem dX16_solve_157 : decode cX16_solve 157 = .ok (.if_icmp .gt 34, 3) := by decide +kernel
theorem dX16_solve_160 : decode cX16_solve 160 = .ok (.aload 6, 2) := by decide +kernel
theorem dX16_solve_162 : decode cX16_solve 162 = .ok (.iload 7, 2) := by decide +kernel
theorem dX16_solve_164 : decode cX16_solve 164 = .ok (.bipush 49, 2) := by decide +kernel
theorem dX16_solve_166 : decode cX16_solve 166 = .ok (.iadd, 1) := by decide +kernel
theorem dX16_solve_167 : decode cX16_solve 167 = .ok (.aload_n 0, 1) := by decide +kernel
theorem dX16_solve_168 : decode cX16_solve 168 = .ok (.aload 4, 2) := by decide +kernel
theorem dX16_solve_170 : decode cX16_solve 170 = .ok (.iload 7, 2) := by decide +kernel
theorem dX16_solve_172 : decode cX16_solve 172 = .ok (.invokevirtual 827, 3) := by decide +kernel
theorem dX16_solve_175 : decode cX16_solve 175 = .ok (.aload_n 0, 1) := by decide +kernel
theorem dX16_solve_176 : decode cX16_solve 176 = .ok (.aload 5, 2) := by decide +kernel
theorem dX16_solve_178 : decode cX16_solve 178 = .ok (.iload 7, 2) := by decide +kernel
theorem dX16_solve_180 : decode cX16_solve 180 = .ok (.invokevirtual 827, 3) := by decide +kernel
theorem dX16_solve_183 : decode cX16_solve 183 = .ok (.isub, 1) := by decide +kernel
theorem dX16_solve_184 : decode cX16_solve 184 = .ok (.iastore, 1) := by decide +kernel
theorem dX16_solve_185 : decode cX16_solve 185 = .ok (.iinc 7 1, 3) := by decide +kernel
theorem dX16_solve_188 : decode cX16_solve 188 = .ok (.goto (-35), 3) := by decide +kernel
theorem dX16_solve_191 : decode cX16_solve 191 = .ok (.aload 4, 2) := by decide +kernel
theorem dX16_solve_193 : decode cX16_solve 193 = .ok (.getfield 25, 3) := by decide +kernel
theorem dX16_solve_196 : decode cX16_solve 196 = .ok (.iconst 1, 1) := by decide +kernel
theorem dX16_solve_197 : decode cX16_solve 197 = .ok (.if_icmp .ne 12, 3) := by decide +kernel
theorem dX16_solve_200 : decode cX16_solve 200 = .ok (.aload 5, 2) := by decide +kernel
theorem dX16_solve_202 : decode cX16_solve 202 = .ok (.getfield 25, 3) := by decide +kernel
theorem dX16_solve_205 : decode cX16_solve 205 = .ok (.iconst 1, 1) := by decide +kernel
theorem dX16_solve_206 : decode cX16_solve 206 = .ok (.if_icmp .eq 5, 3) := by decide +kernel
theorem dX16_solve_209 : decode cX16_solve 209 = .ok (.iconst (-1), 1) := by decide +kernel
theorem dX16_solve_210 : decode cX16_solve 210 = .ok (.ireturn, 1) := by decide +kernel
theorem dX16_solve_211 : decode cX16_solve 211 = .ok (.iconst 0, 1) := by decide +kernel
theorem dX16_solve_212 : decode cX16_solve 212 = .ok (.istore 7, 2) := by decide +kernel
theorem dX16_solve_214 : decode cX16_solve 214 = .ok (.iconst 0, 1) := by decide +kernel
theorem dX16_solve_215 : decode cX16_solve 215 = .ok (.istore 8, 2) := by decide +kernel
theorem dX16_solve_217 : decode cX16_solve 217 = .ok (.iload 8, 2) := by decide +kernel
theorem dX16_solve_219 : decode cX16_solve 219 = .ok (.bipush 100, 2) := by decide +kernel
theorem dX16_solve_221 : decode cX16_solve 221 = .ok (.if_icmp .gt 22, 3) := by decide +kernel
theorem dX16_solve_224 : decode cX16_solve 224 = .ok (.iload 7, 2) := by decide +kernel
theorem dX16_solve_226 : decode cX16_solve 226 = .ok (.aload 6, 2) := by decide +kernel
theorem dX16_solve_228 : decode cX16_solve 228 = .ok (.iload 8, 2) := by decide +kernel
theorem dX16_solve_230 : decode cX16_solve 230 = .ok (.iaload, 1) := by decide +kernel
theorem dX16_solve_231 : decode cX16_solve 231 = .ok (.invokestatic 273, 3) := by decide +kernel
theorem dX16_solve_234 : decode cX16_solve 234 = .ok (.iadd, 1) := by decide +kernel
theorem dX16_solve_235 : decode cX16_solve 235 = .ok (.istore 7, 2) := by decide +kernel
theorem dX16_solve_237 : decode cX16_solve 237 = .ok (.iinc 8 1, 3) := by decide +kernel
theorem dX16_solve_240 : decode cX16_solve 240 = .ok (.goto (-23), 3) := by decide +kernel
theorem dX16_solve_243 : decode cX16_solve 243 = .ok (.iload 7, 2) := by decide +kernel
theorem dX16_solve_245 : decode cX16_solve 245 = .ok (.bipush 12, 2) := by decide +kernel
theorem dX16_solve_247 : decode cX16_solve 247 = .ok (.if_icmp .le 5, 3) := by decide +kernel
theorem dX16_solve_250 : decode cX16_solve 250 = .ok (.iconst (-1), 1) := by decide +kernel
theorem dX16_solve_251 : decode cX16_solve 251 = .ok (.ireturn, 1) := by decide +kernel
theorem dX16_solve_252 : decode cX16_solve 252 = .ok (.bipush (-49), 2) := by decide +kernel
theorem dX16_solve_254 : decode cX16_solve 254 = .ok (.istore 8, 2) := by decide +kernel
theorem dX16_solve_256 : decode cX16_solve 256 = .ok (.iload 8, 2) := by decide +kernel
theorem dX16_solve_258 : decode cX16_solve 258 = .ok (.bipush 51, 2) := by decide +kernel
theorem dX16_solve_260 : decode cX16_solve 260 = .ok (.if_icmp .gt 41, 3) := by decide +kernel
theorem dX16_solve_263 : decode cX16_solve 263 = .ok (.aload 6, 2) := by decide +kernel
theorem dX16_solve_265 : decode cX16_solve 265 = .ok (.iload 8, 2) := by decide +kernel
theorem dX16_solve_267 : decode cX16_solve 267 = .ok (.bipush 49, 2) := by decide +kernel
theorem dX16_solve_269 : decode cX16_solve 269 = .ok (.iadd, 1) := by decide +kernel
theorem dX16_solve_270 : decode cX16_solve 270 = .ok (.iaload, 1) := by decide +kernel
theorem dX16_solve_271 : decode cX16_solve 271 = .ok (.ifCond .eq 24, 3) := by decide +kernel
theorem dX16_solve_274 : decode cX16_solve 274 = .ok (.aload_n 0, 1) := by decide +kernel
theorem dX16_solve_275 : decode cX16_solve 275 = .ok (.getfield 453, 3) := by decide +kernel
theorem dX16_solve_278 : decode cX16_solve 278 = .ok (.iconst 1, 1) := by decide +kernel
theorem dX16_solve_279 : decode cX16_solve 279 = .ok (.iconst 0, 1) := by decide +kernel
theorem dX16_solve_280 : decode cX16_solve 280 = .ok (.iload 8, 2) := by decide +kernel
theorem dX16_solve_282 : decode cX16_solve 282 = .ok (.iconst 1, 1) := by decide +kernel
theorem dX16_solve_283 : decode cX16_solve 283 = .ok (.isub, 1) := by decide +kernel
theorem dX16_solve_284 : decode cX16_solve 284 = .ok (.aload 6, 2) := by decide +kernel
theorem dX16_solve_286 : decode cX16_solve 286 = .ok (.iload 8, 2) := by decide +kernel
theorem dX16_solve_288 : decode cX16_solve 288 = .ok (.bipush 49, 2) := by decide +kernel
theorem dX16_solve_290 : decode cX16_solve 290 = .ok (.iadd, 1) := by decide +kernel
theorem dX16_solve_291 : decode cX16_solve 291 = .ok (.iaload, 1) := by decide +kernel
theorem dX16_solve_292 : decode cX16_solve 292 = .ok (.invokestatic 284, 3) := by decide +kernel
theorem dX16_solve_295 : decode cX16_solve 295 = .ok (.iinc 8 1, 3) := by decide +kernel
theorem dX16_solve_298 : decode cX16_solve 298 = .ok (.goto (-42), 3) := by decide +kernel
theorem dX16_solve_301 : decode cX16_solve 301 = .ok (.aload_n 0, 1) := by decide +kernel
theorem dX16_solve_302 : decode cX16_solve 302 = .ok (.getfield 453, 3) := by decide +kernel
theorem dX16_solve_305 : decode cX16_solve 305 = .ok (.invokestatic 307, 3) := by decide +kernel
theorem dX16_solve_308 : decode cX16_solve 308 = .ok (.aload_n 0, 1) := by decide +kernel
theorem dX16_solve_309 : decode cX16_solve 309 = .ok (.iload_n 2, 1) := by decide +kernel
theorem dX16_solve_310 : decode cX16_solve 310 = .ok (.invokevirtual 558, 3) := by decide +kernel
theorem dX16_solve_313 : decode cX16_solve 313 = .ok (.ireturn, 1) := by decide +kernel
theorem dX16_count_0 : decode cX16_count 0 = .ok (.iconst 0, 1) := by decide +kernel
theorem dX16_count_1 : decode cX16_count 1 = .ok (.istore_n 2, 1) := by decide +kernel
theorem dX16_count_2 : decode cX16_count 2 = .ok (.iconst 0, 1) := by decide +kernel
theorem dX16_count_3 : decode cX16_count 3 = .ok (.istore_n 3, 1) := by decide +kernel
theorem dX16_count_4 : decode cX16_count 4 = .ok (.iconst 0, 1) := by decide +kernel
theorem dX16_count_5 : decode cX16_count 5 = .ok (.istore 4, 2) := by decide +kernel
theorem dX16_count_7 : decode cX16_count 7 = .ok (.iload 4, 2) := by decide +kernel
theorem dX16_count_9 : decode cX16_count 9 = .ok (.bipush 12, 2) := by decide +kernel
theorem dX16_count_11 : decode cX16_count 11 = .ok (.if_icmp .ge 52, 3) := by decide +kernel
theorem dX16_count_14 : decode cX16_count 14 = .ok (.iload_n 2, 1) := by decide +kernel
theorem dX16_count_15 : decode cX16_count 15 = .ok (.aload_n 0, 1) := by decide +kernel
theorem dX16_count_16 : decode cX16_count 16 = .ok (.getfield 450, 3) := by decide +kernel
theorem dX16_count_19 : decode cX16_count 19 = .ok (.iload 4, 2) := by decide +kernel
theorem dX16_count_21 : decode cX16_count 21 = .ok (.aaload, 1) := by decide +kernel
theorem dX16_count_22 : decode cX16_count 22 = .ok (.getfield 202, 3) := by decide +kernel
theorem dX16_count_25 : decode cX16_count 25 = .ok (.ifCond .eq 7, 3) := by decide +kernel
theorem dX16_count_28 : decode cX16_count 28 = .ok (.iconst 1, 1) := by decide +kernel
theorem dX16_count_29 : decode cX16_count 29 = .ok (.goto 4, 3) := by decide +kernel
theorem dX16_count_32 : decode cX16_count 32 = .ok (.iconst 0, 1) := by decide +kernel
theorem dX16_count_33 : decode cX16_count 33 = .ok (.iadd, 1) := by decide +kernel
theorem dX16_count_34 : decode cX16_count 34 = .ok (.istore_n 2, 1) := by decide +kernel
theorem dX16_count_35 : decode cX16_count 35 = .ok (.iload_n 3, 1) := by decide +kernel
theorem dX16_count_36 : decode cX16_count 36 = .ok (.aload_n 0, 1) := by decide +kernel
theorem dX16_count_37 : decode cX16_count 37 = .ok (.getfield 450, 3) := by decide +kernel
theorem dX16_count_40 : decode cX16_count 40 = .ok (.iload 4, 2) := by decide +kernel
theorem dX16_count_42 : decode cX16_count 42 = .ok (.aaload, 1) := by decide +kernel
theorem dX16_count_43 : decode cX16_count 43 = .ok (.getfield 202, 3) := by decide +kernel
theorem dX16_count_46 : decode cX16_count 46 = .ok (.iconst 3, 1) := by decide +kernel
theorem dX16_count_47 : decode cX16_count 47 = .ok (.if_icmp .ne 7, 3) := by decide +kernel
theorem dX16_count_50 : decode cX16_count 50 = .ok (.iconst 1, 1) := by decide +kernel
theorem dX16_count_51 : decode cX16_count 51 = .ok (.goto 4, 3) := by decide +kernel
theorem dX16_count_54 : decode cX16_count 54 = .ok (.iconst 0, 1) := by decide +kernel
theorem dX16_count_55 : decode cX16_count 55 = .ok (.iadd, 1) := by decide +kernel
theorem dX16_count_56 : decode cX16_count 56 = .ok (.istore_n 3, 1) := by decide +kernel
theorem dX16_count_57 : decode cX16_count 57 = .ok (.iinc 4 1, 3) := by decide +kernel
theorem dX16_count_60 : decode cX16_count 60 = .ok (.goto (-53), 3) := by decide +kernel
theorem dX16_count_63 : decode cX16_count 63 = .ok (.iload_n 1, 1) := by decide +kernel
theorem dX16_count_64 : decode cX16_count 64 = .ok (.tableswitch 64 0 5 #[40, 45, 50, 55, 60, 62], 40) := by decide +kernel
theorem dX16_count_104 : decode cX16_count 104 = .ok (.aload_n 0, 1) := by decide +kernel
theorem dX16_count_105 : decode cX16_count 105 = .ok (.getfield 336, 3) := by decide +kernel
theorem dX16_count_108 : decode cX16_count 108 = .ok (.ireturn, 1) := by decide +kernel
theorem dX16_count_109 : decode cX16_count 109 = .ok (.aload_n 0, 1) := by decide +kernel
theorem dX16_count_110 : decode cX16_count 110 = .ok (.getfield 597, 3) := by decide +kernel
theorem dX16_count_113 : decode cX16_count 113 = .ok (.ireturn, 1) := by decide +kernel
theorem dX16_count_114 : decode cX16_count 114 = .ok (.aload_n 0, 1) := by decide +kernel
theorem dX16_count_115 : decode cX16_count 115 = .ok (.getfield 607, 3) := by decide +kernel
theorem dX16_count_118 : decode cX16_count 118 = .ok (.ireturn, 1) := by decide +kernel
theorem dX16_count_119 : decode cX16_count 119 = .ok (.aload_n 0, 1) := by decide +kernel
theorem dX16_count_120 : decode cX16_count 120 = .ok (.getfield 610, 3) := by decide +kernel
theorem dX16_count_123 : decode cX16_count 123 = .ok (.ireturn, 1) := by decide +kernel
theorem dX16_count_124 : decode cX16_count 124 = .ok (.iload_n 2, 1) := by decide +kernel
theorem dX16_count_125 : decode cX16_count 125 = .ok (.ireturn, 1) := by decide +kernel
theorem dX16_count_126 : decode cX16_count 126 = .ok (.iload_n 3, 1) := by decide +kernel
theorem dX16_count_127 : decode cX16_count 127 = .ok (.ireturn, 1) := by decide +kernel
theorem dX16_count_128 : decode cX16_count 128 = .ok (.iconst (-1), 1) := by decide +kernel
theorem dX16_count_129 : decode cX16_count 129 = .ok (.ireturn, 1) := by decide +kernel
theorem dX16_number_0 : decode cX16_number 0 = .ok (.aload_n 0, 1) := by decide +kernel
theorem dX16_number_1 : decode cX16_number 1 = .ok (.getfield 90, 3) := by decide +kernel
theorem dX16_number_4 : decode cX16_number 4 = .ok (.istore_n 3, 1) := by decide +kernel
theorem dX16_number_5 : decode cX16_number 5 = .ok (.aload_n 0, 1) := by decide +kernel
theorem dX16_number_6 : decode cX16_number 6 = .ok (.invokevirtual 140, 3) := by decide +kernel
theorem dX16_number_9 : decode cX16_number 9 = .ok (.astore 4, 2) := by decide +kernel
theorem dX16_number_11 : decode cX16_number 11 = .ok (.aload_n 0, 1) := by decide +kernel
theorem dX16_number_12 : decode cX16_number 12 = .ok (.invokevirtual 140, 3) := by decide +kernel
theorem dX16_number_15 : decode cX16_number 15 = .ok (.astore 5, 2) := by decide +kernel
theorem dX16_number_17 : decode cX16_number 17 = .ok (.aload_n 1, 1) := by decide +kernel
theorem dX16_number_18 : decode cX16_number 18 = .ok (.invokestatic 257, 3) := by decide +kernel
theorem dX16_number_21 : decode cX16_number 21 = .ok (.aload 4, 2) := by decide +kernel
theorem dX16_number_23 : decode cX16_number 23 = .ok (.iload_n 2, 1) := by decide +kernel
theorem dX16_number_24 : decode cX16_number 24 = .ok (.invokevirtual 158, 3) := by decide +kernel
theorem dX16_number_27 : decode cX16_number 27 = .ok (.aload 5, 2) := by decide +kernel
theorem dX16_number_29 : decode cX16_number 29 = .ok (.iconst 1, 1) := by decide +kernel
theorem dX16_number_30 : decode cX16_number 30 = .ok (.invokevirtual 158, 3) := by decide +kernel
theorem dX16_number_33 : decode cX16_number 33 = .ok (.aload_n 1, 1) := by decide +kernel
theorem dX16_number_34 : decode cX16_number 34 = .ok (.aload 4, 2) := by decide +kernel
theorem dX16_number_36 : decode cX16_number 36 = .ok (.aload 5, 2) := by decide +kernel
theorem dX16_number_38 : decode cX16_number 38 = .ok (.invokestatic 261, 3) := by decide +kernel
theorem dX16_number_41 : decode cX16_number 41 = .ok (.istore 6, 2) := by decide +kernel
theorem dX16_number_43 : decode cX16_number 43 = .ok (.aload_n 0, 1) := by decide +kernel
theorem dX16_number_44 : decode cX16_number 44 = .ok (.iload_n 3, 1) := by decide +kernel
theorem dX16_number_45 : decode cX16_number 45 = .ok (.putfield 90, 3) := by decide +kernel
theorem dX16_number_48 : decode cX16_number 48 = .ok (.return_, 1) := by decide +kernel
theorem dL_law_0 : decode cL_law 0 = .ok (.new 7, 3) := by decide +kernel
theorem dL_law_3 : decode cL_law 3 = .ok (.dup, 1) := by decide +kernel
theorem dL_law_4 : decode cL_law 4 = .ok (.invokespecial 9, 3) := by decide +kernel
theorem dL_law_7 : decode cL_law 7 = .ok (.astore_n 1, 1) := by decide +kernel
theorem dL_law_8 : decode cL_law 8 = .ok (.new 10, 3) := by decide +kernel
theorem dL_law_11 : decode cL_law 11 = .ok (.dup, 1) := by decide +kernel
theorem dL_law_12 : decode cL_law 12 = .ok (.invokespecial 12, 3) := by decide +kernel
theorem dL_law_15 : decode cL_law 15 = .ok (.astore_n 2, 1) := by decide +kernel
theorem dL_law_16 : decode cL_law 16 = .ok (.iconst 0, 1) := by decide +kernel
theorem dL_law_17 : decode cL_law 17 = .ok (.istore_n 3, 1) := by decide +kernel
theorem dL_law_18 : decode cL_law 18 = .ok (.iload_n 3, 1) := by decide +kernel
theorem dL_law_19 : decode cL_law 19 = .ok (.aload_n 0, 1) := by decide +kernel
theorem dL_law_20 : decode cL_law 20 = .ok (.arraylength, 1) := by decide +kernel
theorem dL_law_21 : decode cL_law 21 = .ok (.bipush 6, 2) := by decide +kernel
theorem dL_law_23 : decode cL_law 23 = .ok (.isub, 1) := by decide +kernel
theorem dL_law_24 : decode cL_law 24 = .ok (.if_icmp .gt 1425, 3) := by decide +kernel
theorem dL_law_27 : decode cL_law 27 = .ok (.aload_n 0, 1) := by decide +kernel
theorem dL_law_28 : decode cL_law 28 = .ok (.iload_n 3, 1) := by decide +kernel
theorem dL_law_29 : decode cL_law 29 = .ok (.iaload, 1) := by decide +kernel
theorem dL_law_30 : decode cL_law 30 = .ok (.bipush 63, 2) := by decide +kernel
theorem dL_law_32 : decode cL_law 32 = .ok (.iand, 1) := by decide +kernel
theorem dL_law_33 : decode cL_law 33 = .ok (.tableswitch 1410 0 34 #[155, 218, 241, 254, 277, 300, 313, 336, 359, 402, 455, 488, 531, 584, 637, 680, 733, 776, 819, 852, 895, 938, 971, 1034, 1097, 1130, 1163, 1196, 1249, 1272, 1285, 1308, 1331, 1354, 1387], 155) := by decide +kernel
theorem dL_law_188 : decode cL_law 188 = .ok (.aload_n 1, 1) := by decide +kernel
theorem dL_law_189 : decode cL_law 189 = .ok (.aload_n 0, 1) := by decide +kernel
theorem dL_law_190 : decode cL_law 190 = .ok (.iload_n 3, 1) := by decide +kernel
theorem dL_law_191 : decode cL_law 191 = .ok (.iconst 1, 1) := by decide +kernel
theorem dL_law_192 : decode cL_law 192 = .ok (.iadd, 1) := by decide +kernel
theorem dL_law_193 : decode cL_law 193 = .ok (.iaload, 1) := by decide +kernel
theorem dL_law_194 : decode cL_law 194 = .ok (.i2l, 1) := by decide +kernel
theorem dL_law_195 : decode cL_law 195 = .ok (.bipush 32, 2) := by decide +kernel
theorem dL_law_197 : decode cL_law 197 = .ok (.lshl, 1) := by decide +kernel
theorem dL_law_198 : decode cL_law 198 = .ok (.aload_n 0, 1) := by decide +kernel
theorem dL_law_199 : decode cL_law 199 = .ok (.iload_n 3, 1) := by decide +kernel
theorem dL_law_200 : decode cL_law 200 = .ok (.iconst 2, 1) := by decide +kernel
theorem dL_law_201 : decode cL_law 201 = .ok (.iadd, 1) := by decide +kernel
theorem dL_law_202 : decode cL_law 202 = .ok (.iaload, 1) := by decide +kernel
theorem dL_law_203 : decode cL_law 203 = .ok (.i2l, 1) := by decide +kernel
theorem dL_law_204 : decode cL_law 204 = .ok (.ldc2_w 13, 3) := by decide +kernel
theorem dL_law_207 : decode cL_law 207 = .ok (.land, 1) := by decide +kernel
theorem dL_law_208 : decode cL_law 208 = .ok (.lor, 1) := by decide +kernel
theorem dL_law_209 : decode cL_law 209 = .ok (.aload_n 0, 1) := by decide +kernel
theorem dL_law_210 : decode cL_law 210 = .ok (.iload_n 3, 1) := by decide +kernel
theorem dL_law_211 : decode cL_law 211 = .ok (.iconst 3, 1) := by decide +kernel
theorem dL_law_212 : decode cL_law 212 = .ok (.iadd, 1) := by decide +kernel
theorem dL_law_213 : decode cL_law 213 = .ok (.iaload, 1) := by decide +kernel
theorem dL_law_214 : decode cL_law 214 = .ok (.invokevirtual 15, 3) := by decide +kernel
theorem dL_law_217 : decode cL_law 217 = .ok (.aload_n 2, 1) := by decide +kernel
theorem dL_law_218 : decode cL_law 218 = .ok (.aload_n 0, 1) := by decide +kernel
theorem dL_law_219 : decode cL_law 219 = .ok (.iload_n 3, 1) := by decide +kernel
theorem dL_law_220 : decode cL_law 220 = .ok (.iconst 1, 1) := by decide +kernel
theorem dL_law_221 : decode cL_law 221 = .ok (.iadd, 1) := by decide +kernel
theorem dL_law_222 : decode cL_law 222 = .ok (.iaload, 1) := by decide +kernel
theorem dL_law_223 : decode cL_law 223 = .ok (.i2l, 1) := by decide +kernel
theorem dL_law_224 : decode cL_law 224 = .ok (.bipush 32, 2) := by decide +kernel
theorem dL_law_226 : decode cL_law 226 = .ok (.lshl, 1) := by decide +kernel
theorem dL_law_227 : decode cL_law 227 = .ok (.aload_n 0, 1) := by decide +kernel
theorem dL_law_228 : decode cL_law 228 = .ok (.iload_n 3, 1) := by decide +kernel
theorem dL_law_229 : decode cL_law 229 = .ok (.iconst 2, 1) := by decide +kernel
theorem dL_law_230 : decode cL_law 230 = .ok (.iadd, 1) := by decide +kernel
theorem dL_law_231 : decode cL_law 231 = .ok (.iaload, 1) := by decide +kernel
theorem dL_law_232 : decode cL_law 232 = .ok (.i2l, 1) := by decide +kernel
theorem dL_law_233 : decode cL_law 233 = .ok (.ldc2_w 13, 3) := by decide +kernel
theorem dL_law_236 : decode cL_law 236 = .ok (.land, 1) := by decide +kernel
theorem dL_law_237 : decode cL_law 237 = .ok (.lor, 1) := by decide +kernel
theorem dL_law_238 : decode cL_law 238 = .ok (.aload_n 0, 1) := by decide +kernel
theorem dL_law_239 : decode cL_law 239 = .ok (.iload_n 3, 1) := by decide +kernel
theorem dL_law_240 : decode cL_law 240 = .ok (.iconst 3, 1) := by decide +kernel
theorem dL_law_241 : decode cL_law 241 = .ok (.iadd, 1) := by decide +kernel
theorem dL_law_242 : decode cL_law 242 = .ok (.iaload, 1) := by decide +kernel
theorem dL_law_243 : decode cL_law 243 = .ok (.invokevirtual 19, 3) := by decide +kernel
theorem dL_law_246 : decode cL_law 246 = .ok (.if_icmp .eq 1197, 3) := by decide +kernel
theorem dL_law_249 : decode cL_law 249 = .ok (.iconst 0, 1) := by decide +kernel
theorem dL_law_250 : decode cL_law 250 = .ok (.ireturn, 1) := by decide +kernel
theorem dL_law_251 : decode cL_law 251 = .ok (.aload_n 1, 1) := by decide +kernel
theorem dL_law_252 : decode cL_law 252 = .ok (.aload_n 0, 1) := by decide +kernel
theorem dL_law_253 : decode cL_law 253 = .ok (.iload_n 3, 1) := by decide +kernel
theorem dL_law_254 : decode cL_law 254 = .ok (.iconst 1, 1) := by decide +kernel
theorem dL_law_255 : decode cL_law 255 = .ok (.iadd, 1) := by decide +kernel
theorem dL_law_256 : decode cL_law 256 = .ok (.iaload, 1) := by decide +kernel
theorem dL_law_257 : decode cL_law 257 = .ok (.invokevirtual 20, 3) := by decide +kernel
theorem dL_law_260 : decode cL_law 260 = .ok (.aload_n 2, 1) := by decide +kernel
theorem dL_law_261 : decode cL_law 261 = .ok (.aload_n 0, 1) := by decide +kernel
theorem dL_law_262 : decode cL_law 262 = .ok (.iload_n 3, 1) := by decide +kernel
theorem dL_law_263 : decode cL_law 263 = .ok (.iconst 1, 1) := by decide +kernel
theorem dL_law_264 : decode cL_law 264 = .ok (.iadd, 1) := by decide +kernel
theorem dL_law_265 : decode cL_law 265 = .ok (.iaload, 1) := by decide +kernel
theorem dL_law_266 : decode cL_law 266 = .ok (.invokevirtual 24, 3) := by decide +kernel
theorem dL_law_269 : decode cL_law 269 = .ok (.if_icmp .eq 1174, 3) := by decide +kernel
theorem dL_law_272 : decode cL_law 272 = .ok (.iconst 0, 1) := by decide +kernel
theorem dL_law_273 : decode cL_law 273 = .ok (.ireturn, 1) := by decide +kernel
theorem dL_law_274 : decode cL_law 274 = .ok (.aload_n 1, 1) := by decide +kernel
theorem dL_law_275 : decode cL_law 275 = .ok (.invokevirtual 25, 3) := by decide +kernel
theorem dL_law_278 : decode cL_law 278 = .ok (.aload_n 2, 1) := by decide +kernel
theorem dL_law_279 : decode cL_law 279 = .ok (.invokevirtual 29, 3) := by decide +kernel
theorem dL_law_282 : decode cL_law 282 = .ok (.if_icmp .eq 1161, 3) := by decide +kernel
theorem dL_law_285 : decode cL_law 285 = .ok (.iconst 0, 1) := by decide +kernel
theorem dL_law_286 : decode cL_law 286 = .ok (.ireturn, 1) := by decide +kernel
theorem dL_law_287 : decode cL_law 287 = .ok (.aload_n 1, 1) := by decide +kernel
theorem dL_law_288 : decode cL_law 288 = .ok (.aload_n 0, 1) := by decide +kernel
theorem dL_law_289 : decode cL_law 289 = .ok (.iload_n 3, 1) := by decide +kernel
theorem dL_law_290 : decode cL_law 290 = .ok (.iconst 1, 1) := by decide +kernel
theorem dL_law_291 : decode cL_law 291 = .ok (.iadd, 1) := by decide +kernel
theorem dL_law_292 : decode cL_law 292 = .ok (.iaload, 1) := by decide +kernel
theorem dL_law_293 : decode cL_law 293 = .ok (.invokevirtual 30, 3) := by decide +kernel
theorem dL_law_296 : decode cL_law 296 = .ok (.aload_n 2, 1) := by decide +kernel
theorem dL_law_297 : decode cL_law 297 = .ok (.aload_n 0, 1) := by decide +kernel
theorem dL_law_298 : decode cL_law 298 = .ok (.iload_n 3, 1) := by decide +kernel
theorem dL_law_299 : decode cL_law 299 = .ok (.iconst 1, 1) := by decide +kernel
theorem dL_law_300 : decode cL_law 300 = .ok (.iadd, 1) := by decide +kernel
theorem dL_law_301 : decode cL_law 301 = .ok (.iaload, 1) := by decide +kernel
theorem dL_law_302 : decode cL_law 302 = .ok (.invokevirtual 33, 3) := by decide +kernel
theorem dL_law_305 : decode cL_law 305 = .ok (.if_icmp .eq 1138, 3) := by decide +kernel
theorem dL_law_308 : decode cL_law 308 = .ok (.iconst 0, 1) := by decide +kernel
theorem dL_law_309 : decode cL_law 309 = .ok (.ireturn, 1) := by decide +kernel
theorem dL_law_310 : decode cL_law 310 = .ok (.aload_n 1, 1) := by decide +kernel
theorem dL_law_311 : decode cL_law 311 = .ok (.aload_n 0, 1) := by decide +kernel
theorem dL_law_312 : decode cL_law 312 = .ok (.iload_n 3, 1) := by decide +kernel
theorem dL_law_313 : decode cL_law 313 = .ok (.iconst 1, 1) := by decide +kernel
theorem dL_law_314 : decode cL_law 314 = .ok (.iadd, 1) := by decide +kernel
theorem dL_law_315 : decode cL_law 315 = .ok (.iaload, 1) := by decide +kernel
theorem dL_law_316 : decode cL_law 316 = .ok (.invokevirtual 34, 3) := by decide +kernel
theorem dL_law_319 : decode cL_law 319 = .ok (.aload_n 2, 1) := by decide +kernel
theorem dL_law_320 : decode cL_law 320 = .ok (.aload_n 0, 1) := by decide +kernel
theorem dL_law_321 : decode cL_law 321 = .ok (.iload_n 3, 1) := by decide +kernel
theorem dL_law_322 : decode cL_law 322 = .ok (.iconst 1, 1) := by decide +kernel
theorem dL_law_323 : decode cL_law 323 = .ok (.iadd, 1) := by decide +kernel
theorem dL_law_324 : decode cL_law 324 = .ok (.iaload, 1) := by decide +kernel
theorem dL_law_325 : decode cL_law 325 = .ok (.invokevirtual 37, 3) := by decide +kernel
theorem dL_law_328 : decode cL_law 328 = .ok (.if_icmp .eq 1115, 3) := by decide +kernel
theorem dL_law_331 : decode cL_law 331 = .ok (.iconst 0, 1) := by decide +kernel
theorem dL_law_332 : decode cL_law 332 = .ok (.ireturn, 1) := by decide +kernel
theorem dL_law_333 : decode cL_law 333 = .ok (.aload_n 1, 1) := by decide +kernel
theorem dL_law_334 : decode cL_law 334 = .ok (.invokevirtual 38, 3) := by decide +kernel
theorem dL_law_337 : decode cL_law 337 = .ok (.aload_n 2, 1) := by decide +kernel
theorem dL_law_338 : decode cL_law 338 = .ok (.invokevirtual 41, 3) := by decide +kernel
theorem dL_law_341 : decode cL_law 341 = .ok (.if_icmp .eq 1102, 3) := by decide +kernel
theorem dL_law_344 : decode cL_law 344 = .ok (.iconst 0, 1) := by decide +kernel
theorem dL_law_345 : decode cL_law 345 = .ok (.ireturn, 1) := by decide +kernel
theorem dL_law_346 : decode cL_law 346 = .ok (.aload_n 1, 1) := by decide +kernel
theorem dL_law_347 : decode cL_law 347 = .ok (.aload_n 0, 1) := by decide +kernel
theorem dL_law_348 : decode cL_law 348 = .ok (.iload_n 3, 1) := by decide +kernel
theorem dL_law_349 : decode cL_law 349 = .ok (.iconst 1, 1) := by decide +kernel
theorem dL_law_350 : decode cL_law 350 = .ok (.iadd, 1) := by decide +kernel
theorem dL_law_351 : decode cL_law 351 = .ok (.iaload, 1) := by decide +kernel
theorem dL_law_352 : decode cL_law 352 = .ok (.invokevirtual 42, 3) := by decide +kernel
theorem dL_law_355 : decode cL_law 355 = .ok (.aload_n 2, 1) := by decide +kernel
theorem dL_law_356 : decode cL_law 356 = .ok (.aload_n 0, 1) := by decide +kernel
theorem dL_law_357 : decode cL_law 357 = .ok (.iload_n 3, 1) := by decide +kernel
theorem dL_law_358 : decode cL_law 358 = .ok (.iconst 1, 1) := by decide +kernel
theorem dL_law_359 : decode cL_law 359 = .ok (.iadd, 1) := by decide +kernel
theorem dL_law_360 : decode cL_law 360 = .ok (.iaload, 1) := by decide +kernel
theorem dL_law_361 : decode cL_law 361 = .ok (.invokevirtual 45, 3) := by decide +kernel
theorem dL_law_364 : decode cL_law 364 = .ok (.if_icmp .eq 1079, 3) := by decide +kernel
theorem dL_law_367 : decode cL_law 367 = .ok (.iconst 0, 1) := by decide +kernel
theorem dL_law_368 : decode cL_law 368 = .ok (.ireturn, 1) := by decide +kernel
theorem dL_law_369 : decode cL_law 369 = .ok (.aload_n 1, 1) := by decide +kernel
theorem dL_law_370 : decode cL_law 370 = .ok (.aload_n 0, 1) := by decide +kernel
theorem dL_law_371 : decode cL_law 371 = .ok (.iload_n 3, 1) := by decide +kernel
theorem dL_law_372 : decode cL_law 372 = .ok (.iconst 1, 1) := by decide +kernel
theorem dL_law_373 : decode cL_law 373 = .ok (.iadd, 1) := by decide +kernel
theorem dL_law_374 : decode cL_law 374 = .ok (.iaload, 1) := by decide +kernel
theorem dL_law_375 : decode cL_law 375 = .ok (.invokevirtual 46, 3) := by decide +kernel
theorem dL_law_378 : decode cL_law 378 = .ok (.aload_n 2, 1) := by decide +kernel
theorem dL_law_379 : decode cL_law 379 = .ok (.aload_n 0, 1) := by decide +kernel
theorem dL_law_380 : decode cL_law 380 = .ok (.iload_n 3, 1) := by decide +kernel
theorem dL_law_381 : decode cL_law 381 = .ok (.iconst 1, 1) := by decide +kernel
theorem dL_law_382 : decode cL_law 382 = .ok (.iadd, 1) := by decide +kernel
theorem dL_law_383 : decode cL_law 383 = .ok (.iaload, 1) := by decide +kernel
theorem dL_law_384 : decode cL_law 384 = .ok (.invokevirtual 49, 3) := by decide +kernel
theorem dL_law_387 : decode cL_law 387 = .ok (.if_icmp .eq 1056, 3) := by decide +kernel
theorem dL_law_390 : decode cL_law 390 = .ok (.iconst 0, 1) := by decide +kernel
theorem dL_law_391 : decode cL_law 391 = .ok (.ireturn, 1) := by decide +kernel
theorem dL_law_392 : decode cL_law 392 = .ok (.aload_n 1, 1) := by decide +kernel
theorem dL_law_393 : decode cL_law 393 = .ok (.aload_n 0, 1) := by decide +kernel
theorem dL_law_394 : decode cL_law 394 = .ok (.iload_n 3, 1) := by decide +kernel
theorem dL_law_395 : decode cL_law 395 = .ok (.iconst 1, 1) := by decide +kernel
theorem dL_law_396 : decode cL_law 396 = .ok (.iadd, 1) := by decide +kernel
theorem dL_law_397 : decode cL_law 397 = .ok (.iaload, 1) := by decide +kernel
theorem dL_law_398 : decode cL_law 398 = .ok (.aload_n 0, 1) := by decide +kernel
theorem dL_law_399 : decode cL_law 399 = .ok (.iload_n 3, 1) := by decide +kernel
theorem dL_law_400 : decode cL_law 400 = .ok (.iconst 2, 1) := by decide +kernel
theorem dL_law_401 : decode cL_law 401 = .ok (.iadd, 1) := by decide +kernel
theorem dL_law_402 : decode cL_law 402 = .ok (.iaload, 1) := by decide +kernel
theorem dL_law_403 : decode cL_law 403 = .ok (.aload_n 0, 1) := by decide +kernel
theorem dL_law_404 : decode cL_law 404 = .ok (.iload_n 3, 1) := by decide +kernel
theorem dL_law_405 : decode cL_law 405 = .ok (.iconst 3, 1) := by decide +kernel
theorem dL_law_406 : decode cL_law 406 = .ok (.iadd, 1) := by decide +kernel
theorem dL_law_407 : decode cL_law 407 = .ok (.iaload, 1) := by decide +kernel
theorem dL_law_408 : decode cL_law 408 = .ok (.invokevirtual 50, 3) := by decide +kernel
theorem dL_law_411 : decode cL_law 411 = .ok (.aload_n 2, 1) := by decide +kernel
theorem dL_law_412 : decode cL_law 412 = .ok (.aload_n 0, 1) := by decide +kernel
theorem dL_law_413 : decode cL_law 413 = .ok (.iload_n 3, 1) := by decide +kernel
theorem dL_law_414 : decode cL_law 414 = .ok (.iconst 1, 1) := by decide +kernel
theorem dL_law_415 : decode cL_law 415 = .ok (.iadd, 1) := by decide +kernel
theorem dL_law_416 : decode cL_law 416 = .ok (.iaload, 1) := by decide +kernel
theorem dL_law_417 : decode cL_law 417 = .ok (.aload_n 0, 1) := by decide +kernel
theorem dL_law_418 : decode cL_law 418 = .ok (.iload_n 3, 1) := by decide +kernel
theorem dL_law_419 : decode cL_law 419 = .ok (.iconst 2, 1) := by decide +kernel
theorem dL_law_420 : decode cL_law 420 = .ok (.iadd, 1) := by decide +kernel
theorem dL_law_421 : decode cL_law 421 = .ok (.iaload, 1) := by decide +kernel
theorem dL_law_422 : decode cL_law 422 = .ok (.aload_n 0, 1) := by decide +kernel
theorem dL_law_423 : decode cL_law 423 = .ok (.iload_n 3, 1) := by decide +kernel
theorem dL_law_424 : decode cL_law 424 = .ok (.iconst 3, 1) := by decide +kernel
theorem dL_law_425 : decode cL_law 425 = .ok (.iadd, 1) := by decide +kernel
theorem dL_law_426 : decode cL_law 426 = .ok (.iaload, 1) := by decide +kernel
theorem dL_law_427 : decode cL_law 427 = .ok (.invokevirtual 54, 3) := by decide +kernel
theorem dL_law_430 : decode cL_law 430 = .ok (.if_icmp .eq 1013, 3) := by decide +kernel
theorem dL_law_433 : decode cL_law 433 = .ok (.iconst 0, 1) := by decide +kernel
theorem dL_law_434 : decode cL_law 434 = .ok (.ireturn, 1) := by decide +kernel
theorem dL_law_435 : decode cL_law 435 = .ok (.aload_n 1, 1) := by decide +kernel
theorem dL_law_436 : decode cL_law 436 = .ok (.aload_n 0, 1) := by decide +kernel
theorem dL_law_437 : decode cL_law 437 = .ok (.iload_n 3, 1) := by decide +kernel
theorem dL_law_438 : decode cL_law 438 = .ok (.iconst 1, 1) := by decide +kernel
theorem dL_law_439 : decode cL_law 439 = .ok (.iadd, 1) := by decide +kernel
theorem dL_law_440 : decode cL_law 440 = .ok (.iaload, 1) := by decide +kernel
theorem dL_law_441 : decode cL_law 441 = .ok (.aload_n 0, 1) := by decide +kernel
theorem dL_law_442 : decode cL_law 442 = .ok (.iload_n 3, 1) := by decide +kernel
theorem dL_law_443 : decode cL_law 443 = .ok (.iconst 2, 1) := by decide +kernel
theorem dL_law_444 : decode cL_law 444 = .ok (.iadd, 1) := by decide +kernel
theorem dL_law_445 : decode cL_law 445 = .ok (.iaload, 1) := by decide +kernel
theorem dL_law_446 : decode cL_law 446 = .ok (.aload_n 0, 1) := by decide +kernel
theorem dL_law_447 : decode cL_law 447 = .ok (.iload_n 3, 1) := by decide +kernel
theorem dL_law_448 : decode cL_law 448 = .ok (.iconst 3, 1) := by decide +kernel
theorem dL_law_449 : decode cL_law 449 = .ok (.iadd, 1) := by decide +kernel
theorem dL_law_450 : decode cL_law 450 = .ok (.iaload, 1) := by decide +kernel
theorem dL_law_451 : decode cL_law 451 = .ok (.aload_n 0, 1) := by decide +kernel
theorem dL_law_452 : decode cL_law 452 = .ok (.iload_n 3, 1) := by decide +kernel
theorem dL_law_453 : decode cL_law 453 = .ok (.iconst 4, 1) := by decide +kernel
theorem dL_law_454 : decode cL_law 454 = .ok (.iadd, 1) := by decide +kernel
theorem dL_law_455 : decode cL_law 455 = .ok (.iaload, 1) := by decide +kernel
theorem dL_law_456 : decode cL_law 456 = .ok (.invokevirtual 55, 3) := by decide +kernel
theorem dL_law_459 : decode cL_law 459 = .ok (.aload_n 2, 1) := by decide +kernel
theorem dL_law_460 : decode cL_law 460 = .ok (.aload_n 0, 1) := by decide +kernel
theorem dL_law_461 : decode cL_law 461 = .ok (.iload_n 3, 1) := by decide +kernel
theorem dL_law_462 : decode cL_law 462 = .ok (.iconst 1, 1) := by decide +kernel
theorem dL_law_463 : decode cL_law 463 = .ok (.iadd, 1) := by decide +kernel
theorem dL_law_464 : decode cL_law 464 = .ok (.iaload, 1) := by decide +kernel
theorem dL_law_465 : decode cL_law 465 = .ok (.aload_n 0, 1) := by decide +kernel
theorem dL_law_466 : decode cL_law 466 = .ok (.iload_n 3, 1) := by decide +kernel
theorem dL_law_467 : decode cL_law 467 = .ok (.iconst 2, 1) := by decide +kernel
theorem dL_law_468 : decode cL_law 468 = .ok (.iadd, 1) := by decide +kernel
theorem dL_law_469 : decode cL_law 469 = .ok (.iaload, 1) := by decide +kernel
theorem dL_law_470 : decode cL_law 470 = .ok (.aload_n 0, 1) := by decide +kernel
theorem dL_law_471 : decode cL_law 471 = .ok (.iload_n 3, 1) := by decide +kernel
theorem dL_law_472 : decode cL_law 472 = .ok (.iconst 3, 1) := by decide +kernel
theorem dL_law_473 : decode cL_law 473 = .ok (.iadd, 1) := by decide +kernel
theorem dL_law_474 : decode cL_law 474 = .ok (.iaload, 1) := by decide +kernel
theorem dL_law_475 : decode cL_law 475 = .ok (.aload_n 0, 1) := by decide +kernel
theorem dL_law_476 : decode cL_law 476 = .ok (.iload_n 3, 1) := by decide +kernel
theorem dL_law_477 : decode cL_law 477 = .ok (.iconst 4, 1) := by decide +kernel
theorem dL_law_478 : decode cL_law 478 = .ok (.iadd, 1) := by decide +kernel
theorem dL_law_479 : decode cL_law 479 = .ok (.iaload, 1) := by decide +kernel
theorem dL_law_480 : decode cL_law 480 = .ok (.invokevirtual 59, 3) := by decide +kernel
theorem dL_law_483 : decode cL_law 483 = .ok (.if_icmp .eq 960, 3) := by decide +kernel
theorem dL_law_486 : decode cL_law 486 = .ok (.iconst 0, 1) := by decide +kernel
theorem dL_law_487 : decode cL_law 487 = .ok (.ireturn, 1) := by decide +kernel
theorem dL_law_488 : decode cL_law 488 = .ok (.aload_n 1, 1) := by decide +kernel
theorem dL_law_489 : decode cL_law 489 = .ok (.aload_n 0, 1) := by decide +kernel
theorem dL_law_490 : decode cL_law 490 = .ok (.iload_n 3, 1) := by decide +kernel
theorem dL_law_491 : decode cL_law 491 = .ok (.iconst 1, 1) := by decide +kernel
theorem dL_law_492 : decode cL_law 492 = .ok (.iadd, 1) := by decide +kernel
theorem dL_law_493 : decode cL_law 493 = .ok (.iaload, 1) := by decide +kernel
theorem dL_law_494 : decode cL_law 494 = .ok (.aload_n 0, 1) := by decide +kernel
theorem dL_law_495 : decode cL_law 495 = .ok (.iload_n 3, 1) := by decide +kernel
theorem dL_law_496 : decode cL_law 496 = .ok (.iconst 2, 1) := by decide +kernel
theorem dL_law_497 : decode cL_law 497 = .ok (.iadd, 1) := by decide +kernel
theorem dL_law_498 : decode cL_law 498 = .ok (.iaload, 1) := by decide +kernel
theorem dL_law_499 : decode cL_law 499 = .ok (.invokevirtual 60, 3) := by decide +kernel
theorem dL_law_502 : decode cL_law 502 = .ok (.aload_n 2, 1) := by decide +kernel
theorem dL_law_503 : decode cL_law 503 = .ok (.aload_n 0, 1) := by decide +kernel
theorem dL_law_504 : decode cL_law 504 = .ok (.iload_n 3, 1) := by decide +kernel
theorem dL_law_505 : decode cL_law 505 = .ok (.iconst 1, 1) := by decide +kernel
theorem dL_law_506 : decode cL_law 506 = .ok (.iadd, 1) := by decide +kernel
theorem dL_law_507 : decode cL_law 507 = .ok (.iaload, 1) := by decide +kernel
theorem dL_law_508 : decode cL_law 508 = .ok (.aload_n 0, 1) := by decide +kernel
theorem dL_law_509 : decode cL_law 509 = .ok (.iload_n 3, 1) := by decide +kernel
theorem dL_law_510 : decode cL_law 510 = .ok (.iconst 2, 1) := by decide +kernel
theorem dL_law_511 : decode cL_law 511 = .ok (.iadd, 1) := by decide +kernel
theorem dL_law_512 : decode cL_law 512 = .ok (.iaload, 1) := by decide +kernel
theorem dL_law_513 : decode cL_law 513 = .ok (.invokevirtual 64, 3) := by decide +kernel
theorem dL_law_516 : decode cL_law 516 = .ok (.if_icmp .eq 927, 3) := by decide +kernel
theorem dL_law_519 : decode cL_law 519 = .ok (.iconst 0, 1) := by decide +kernel
theorem dL_law_520 : decode cL_law 520 = .ok (.ireturn, 1) := by decide +kernel
theorem dL_law_521 : decode cL_law 521 = .ok (.aload_n 1, 1) := by decide +kernel
theorem dL_law_522 : decode cL_law 522 = .ok (.aload_n 0, 1) := by decide +kernel
theorem dL_law_523 : decode cL_law 523 = .ok (.iload_n 3, 1) := by decide +kernel
theorem dL_law_524 : decode cL_law 524 = .ok (.iconst 1, 1) := by decide +kernel
theorem dL_law_525 : decode cL_law 525 = .ok (.iadd, 1) := by decide +kernel
theorem dL_law_526 : decode cL_law 526 = .ok (.iaload, 1) := by decide +kernel
theorem dL_law_527 : decode cL_law 527 = .ok (.aload_n 0, 1) := by decide +kernel
theorem dL_law_528 : decode cL_law 528 = .ok (.iload_n 3, 1) := by decide +kernel
theorem dL_law_529 : decode cL_law 529 = .ok (.iconst 2, 1) := by decide +kernel
theorem dL_law_530 : decode cL_law 530 = .ok (.iadd, 1) := by decide +kernel
theorem dL_law_531 : decode cL_law 531 = .ok (.iaload, 1) := by decide +kernel
theorem dL_law_532 : decode cL_law 532 = .ok (.aload_n 0, 1) := by decide +kernel
theorem dL_law_533 : decode cL_law 533 = .ok (.iload_n 3, 1) := by decide +kernel
theorem dL_law_534 : decode cL_law 534 = .ok (.iconst 3, 1) := by decide +kernel
theorem dL_law_535 : decode cL_law 535 = .ok (.iadd, 1) := by decide +kernel
theorem dL_law_536 : decode cL_law 536 = .ok (.iaload, 1) := by decide +kernel
theorem dL_law_537 : decode cL_law 537 = .ok (.invokevirtual 65, 3) := by decide +kernel
theorem dL_law_540 : decode cL_law 540 = .ok (.aload_n 2, 1) := by decide +kernel
theorem dL_law_541 : decode cL_law 541 = .ok (.aload_n 0, 1) := by decide +kernel
theorem dL_law_542 : decode cL_law 542 = .ok (.iload_n 3, 1) := by decide +kernel
theorem dL_law_543 : decode cL_law 543 = .ok (.iconst 1, 1) := by decide +kernel
theorem dL_law_544 : decode cL_law 544 = .ok (.iadd, 1) := by decide +kernel
theorem dL_law_545 : decode cL_law 545 = .ok (.iaload, 1) := by decide +kernel
theorem dL_law_546 : decode cL_law 546 = .ok (.aload_n 0, 1) := by decide +kernel
theorem dL_law_547 : decode cL_law 547 = .ok (.iload_n 3, 1) := by decide +kernel
theorem dL_law_548 : decode cL_law 548 = .ok (.iconst 2, 1) := by decide +kernel
theorem dL_law_549 : decode cL_law 549 = .ok (.iadd, 1) := by decide +kernel
theorem dL_law_550 : decode cL_law 550 = .ok (.iaload, 1) := by decide +kernel
theorem dL_law_551 : decode cL_law 551 = .ok (.aload_n 0, 1) := by decide +kernel
theorem dL_law_552 : decode cL_law 552 = .ok (.iload_n 3, 1) := by decide +kernel
theorem dL_law_553 : decode cL_law 553 = .ok (.iconst 3, 1) := by decide +kernel
theorem dL_law_554 : decode cL_law 554 = .ok (.iadd, 1) := by decide +kernel
theorem dL_law_555 : decode cL_law 555 = .ok (.iaload, 1) := by decide +kernel
theorem dL_law_556 : decode cL_law 556 = .ok (.invokevirtual 68, 3) := by decide +kernel
theorem dL_law_559 : decode cL_law 559 = .ok (.if_icmp .eq 884, 3) := by decide +kernel
theorem dL_law_562 : decode cL_law 562 = .ok (.iconst 0, 1) := by decide +kernel
theorem dL_law_563 : decode cL_law 563 = .ok (.ireturn, 1) := by decide +kernel
theorem dL_law_564 : decode cL_law 564 = .ok (.aload_n 1, 1) := by decide +kernel
theorem dL_law_565 : decode cL_law 565 = .ok (.aload_n 0, 1) := by decide +kernel
theorem dL_law_566 : decode cL_law 566 = .ok (.iload_n 3, 1) := by decide +kernel
theorem dL_law_567 : decode cL_law 567 = .ok (.iconst 1, 1) := by decide +kernel
theorem dL_law_568 : decode cL_law 568 = .ok (.iadd, 1) := by decide +kernel
theorem dL_law_569 : decode cL_law 569 = .ok (.iaload, 1) := by decide +kernel
theorem dL_law_570 : decode cL_law 570 = .ok (.aload_n 0, 1) := by decide +kernel
theorem dL_law_571 : decode cL_law 571 = .ok (.iload_n 3, 1) := by decide +kernel
theorem dL_law_572 : decode cL_law 572 = .ok (.iconst 2, 1) := by decide +kernel
theorem dL_law_573 : decode cL_law 573 = .ok (.iadd, 1) := by decide +kernel
theorem dL_law_574 : decode cL_law 574 = .ok (.iaload, 1) := by decide +kernel
theorem dL_law_575 : decode cL_law 575 = .ok (.aload_n 0, 1) := by decide +kernel
theorem dL_law_576 : decode cL_law 576 = .ok (.iload_n 3, 1) := by decide +kernel
theorem dL_law_577 : decode cL_law 577 = .ok (.iconst 3, 1) := by decide +kernel
theorem dL_law_578 : decode cL_law 578 = .ok (.iadd, 1) := by decide +kernel
theorem dL_law_579 : decode cL_law 579 = .ok (.iaload, 1) := by decide +kernel
theorem dL_law_580 : decode cL_law 580 = .ok (.aload_n 0, 1) := by decide +kernel
theorem dL_law_581 : decode cL_law 581 = .ok (.iload_n 3, 1) := by decide +kernel
theorem dL_law_582 : decode cL_law 582 = .ok (.iconst 4, 1) := by decide +kernel
theorem dL_law_583 : decode cL_law 583 = .ok (.iadd, 1) := by decide +kernel
theorem dL_law_584 : decode cL_law 584 = .ok (.iaload, 1) := by decide +kernel
theorem dL_law_585 : decode cL_law 585 = .ok (.invokevirtual 69, 3) := by decide +kernel
theorem dL_law_588 : decode cL_law 588 = .ok (.aload_n 2, 1) := by decide +kernel
theorem dL_law_589 : decode cL_law 589 = .ok (.aload_n 0, 1) := by decide +kernel
theorem dL_law_590 : decode cL_law 590 = .ok (.iload_n 3, 1) := by decide +kernel
theorem dL_law_591 : decode cL_law 591 = .ok (.iconst 1, 1) := by decide +kernel
theorem dL_law_592 : decode cL_law 592 = .ok (.iadd, 1) := by decide +kernel
theorem dL_law_593 : decode cL_law 593 = .ok (.iaload, 1) := by decide +kernel
theorem dL_law_594 : decode cL_law 594 = .ok (.aload_n 0, 1) := by decide +kernel
theorem dL_law_595 : decode cL_law 595 = .ok (.iload_n 3, 1) := by decide +kernel
theorem dL_law_596 : decode cL_law 596 = .ok (.iconst 2, 1) := by decide +kernel
theorem dL_law_597 : decode cL_law 597 = .ok (.iadd, 1) := by decide +kernel
theorem dL_law_598 : decode cL_law 598 = .ok (.iaload, 1) := by decide +kernel
theorem dL_law_599 : decode cL_law 599 = .ok (.aload_n 0, 1) := by decide +kernel
theorem dL_law_600 : decode cL_law 600 = .ok (.iload_n 3, 1) := by decide +kernel
theorem dL_law_601 : decode cL_law 601 = .ok (.iconst 3, 1) := by decide +kernel
theorem dL_law_602 : decode cL_law 602 = .ok (.iadd, 1) := by decide +kernel
theorem dL_law_603 : decode cL_law 603 = .ok (.iaload, 1) := by decide +kernel
theorem dL_law_604 : decode cL_law 604 = .ok (.aload_n 0, 1) := by decide +kernel
theorem dL_law_605 : decode cL_law 605 = .ok (.iload_n 3, 1) := by decide +kernel
theorem dL_law_606 : decode cL_law 606 = .ok (.iconst 4, 1) := by decide +kernel
theorem dL_law_607 : decode cL_law 607 = .ok (.iadd, 1) := by decide +kernel
theorem dL_law_608 : decode cL_law 608 = .ok (.iaload, 1) := by decide +kernel
theorem dL_law_609 : decode cL_law 609 = .ok (.invokevirtual 72, 3) := by decide +kernel
theorem dL_law_612 : decode cL_law 612 = .ok (.if_icmp .eq 831, 3) := by decide +kernel
theorem dL_law_615 : decode cL_law 615 = .ok (.iconst 0, 1) := by decide +kernel
theorem dL_law_616 : decode cL_law 616 = .ok (.ireturn, 1) := by decide +kernel
theorem dL_law_617 : decode cL_law 617 = .ok (.aload_n 1, 1) := by decide +kernel
theorem dL_law_618 : decode cL_law 618 = .ok (.aload_n 0, 1) := by decide +kernel
theorem dL_law_619 : decode cL_law 619 = .ok (.iload_n 3, 1) := by decide +kernel
theorem dL_law_620 : decode cL_law 620 = .ok (.iconst 1, 1) := by decide +kernel
theorem dL_law_621 : decode cL_law 621 = .ok (.iadd, 1) := by decide +kernel
theorem dL_law_622 : decode cL_law 622 = .ok (.iaload, 1) := by decide +kernel
theorem dL_law_623 : decode cL_law 623 = .ok (.aload_n 0, 1) := by decide +kernel
theorem dL_law_624 : decode cL_law 624 = .ok (.iload_n 3, 1) := by decide +kernel
theorem dL_law_625 : decode cL_law 625 = .ok (.iconst 2, 1) := by decide +kernel
theorem dL_law_626 : decode cL_law 626 = .ok (.iadd, 1) := by decide +kernel
theorem dL_law_627 : decode cL_law 627 = .ok (.iaload, 1) := by decide +kernel
theorem dL_law_628 : decode cL_law 628 = .ok (.aload_n 0, 1) := by decide +kernel
theorem dL_law_629 : decode cL_law 629 = .ok (.iload_n 3, 1) := by decide +kernel
theorem dL_law_630 : decode cL_law 630 = .ok (.iconst 3, 1) := by decide +kernel
theorem dL_law_631 : decode cL_law 631 = .ok (.iadd, 1) := by decide +kernel
theorem dL_law_632 : decode cL_law 632 = .ok (.iaload, 1) := by decide +kernel
theorem dL_law_633 : decode cL_law 633 = .ok (.aload_n 0, 1) := by decide +kernel
theorem dL_law_634 : decode cL_law 634 = .ok (.iload_n 3, 1) := by decide +kernel
theorem dL_law_635 : decode cL_law 635 = .ok (.iconst 4, 1) := by decide +kernel
theorem dL_law_636 : decode cL_law 636 = .ok (.iadd, 1) := by decide +kernel
theorem dL_law_637 : decode cL_law 637 = .ok (.iaload, 1) := by decide +kernel
theorem dL_law_638 : decode cL_law 638 = .ok (.invokevirtual 73, 3) := by decide +kernel
theorem dL_law_641 : decode cL_law 641 = .ok (.aload_n 2, 1) := by decide +kernel
theorem dL_law_642 : decode cL_law 642 = .ok (.aload_n 0, 1) := by decide +kernel
theorem dL_law_643 : decode cL_law 643 = .ok (.iload_n 3, 1) := by decide +kernel
theorem dL_law_644 : decode cL_law 644 = .ok (.iconst 1, 1) := by decide +kernel
theorem dL_law_645 : decode cL_law 645 = .ok (.iadd, 1) := by decide +kernel
theorem dL_law_646 : decode cL_law 646 = .ok (.iaload, 1) := by decide +kernel
theorem dL_law_647 : decode cL_law 647 = .ok (.aload_n 0, 1) := by decide +kernel
theorem dL_law_648 : decode cL_law 648 = .ok (.iload_n 3, 1) := by decide +kernel
theorem dL_law_649 : decode cL_law 649 = .ok (.iconst 2, 1) := by decide +kernel
theorem dL_law_650 : decode cL_law 650 = .ok (.iadd, 1) := by decide +kernel
theorem dL_law_651 : decode cL_law 651 = .ok (.iaload, 1) := by decide +kernel
theorem dL_law_652 : decode cL_law 652 = .ok (.aload_n 0, 1) := by decide +kernel
theorem dL_law_653 : decode cL_law 653 = .ok (.iload_n 3, 1) := by decide +kernel
theorem dL_law_654 : decode cL_law 654 = .ok (.iconst 3, 1) := by decide +kernel
theorem dL_law_655 : decode cL_law 655 = .ok (.iadd, 1) := by decide +kernel
theorem dL_law_656 : decode cL_law 656 = .ok (.iaload, 1) := by decide +kernel
theorem dL_law_657 : decode cL_law 657 = .ok (.aload_n 0, 1) := by decide +kernel
theorem dL_law_658 : decode cL_law 658 = .ok (.iload_n 3, 1) := by decide +kernel
theorem dL_law_659 : decode cL_law 659 = .ok (.iconst 4, 1) := by decide +kernel
theorem dL_law_660 : decode cL_law 660 = .ok (.iadd, 1) := by decide +kernel
theorem dL_law_661 : decode cL_law 661 = .ok (.iaload, 1) := by decide +kernel
theorem dL_law_662 : decode cL_law 662 = .ok (.invokevirtual 76, 3) := by decide +kernel
theorem dL_law_665 : decode cL_law 665 = .ok (.if_icmp .eq 778, 3) := by decide +kernel
theorem dL_law_668 : decode cL_law 668 = .ok (.iconst 0, 1) := by decide +kernel
theorem dL_law_669 : decode cL_law 669 = .ok (.ireturn, 1) := by decide +kernel
theorem dL_law_670 : decode cL_law 670 = .ok (.aload_n 1, 1) := by decide +kernel
theorem dL_law_671 : decode cL_law 671 = .ok (.aload_n 0, 1) := by decide +kernel
theorem dL_law_672 : decode cL_law 672 = .ok (.iload_n 3, 1) := by decide +kernel
theorem dL_law_673 : decode cL_law 673 = .ok (.iconst 1, 1) := by decide +kernel
theorem dL_law_674 : decode cL_law 674 = .ok (.iadd, 1) := by decide +kernel
theorem dL_law_675 : decode cL_law 675 = .ok (.iaload, 1) := by decide +kernel
theorem dL_law_676 : decode cL_law 676 = .ok (.aload_n 0, 1) := by decide +kernel
theorem dL_law_677 : decode cL_law 677 = .ok (.iload_n 3, 1) := by decide +kernel
theorem dL_law_678 : decode cL_law 678 = .ok (.iconst 2, 1) := by decide +kernel
theorem dL_law_679 : decode cL_law 679 = .ok (.iadd, 1) := by decide +kernel
theorem dL_law_680 : decode cL_law 680 = .ok (.iaload, 1) := by decide +kernel
theorem dL_law_681 : decode cL_law 681 = .ok (.aload_n 0, 1) := by decide +kernel
theorem dL_law_682 : decode cL_law 682 = .ok (.iload_n 3, 1) := by decide +kernel
theorem dL_law_683 : decode cL_law 683 = .ok (.iconst 3, 1) := by decide +kernel
theorem dL_law_684 : decode cL_law 684 = .ok (.iadd, 1) := by decide +kernel
theorem dL_law_685 : decode cL_law 685 = .ok (.iaload, 1) := by decide +kernel
theorem dL_law_686 : decode cL_law 686 = .ok (.invokevirtual 77, 3) := by decide +kernel
theorem dL_law_689 : decode cL_law 689 = .ok (.aload_n 2, 1) := by decide +kernel
theorem dL_law_690 : decode cL_law 690 = .ok (.aload_n 0, 1) := by decide +kernel
theorem dL_law_691 : decode cL_law 691 = .ok (.iload_n 3, 1) := by decide +kernel
theorem dL_law_692 : decode cL_law 692 = .ok (.iconst 1, 1) := by decide +kernel
theorem dL_law_693 : decode cL_law 693 = .ok (.iadd, 1) := by decide +kernel
theorem dL_law_694 : decode cL_law 694 = .ok (.iaload, 1) := by decide +kernel
theorem dL_law_695 : decode cL_law 695 = .ok (.aload_n 0, 1) := by decide +kernel
theorem dL_law_696 : decode cL_law 696 = .ok (.iload_n 3, 1) := by decide +kernel
theorem dL_law_697 : decode cL_law 697 = .ok (.iconst 2, 1) := by decide +kernel
theorem dL_law_698 : decode cL_law 698 = .ok (.iadd, 1) := by decide +kernel
theorem dL_law_699 : decode cL_law 699 = .ok (.iaload, 1) := by decide +kernel
theorem dL_law_700 : decode cL_law 700 = .ok (.aload_n 0, 1) := by decide +kernel
theorem dL_law_701 : decode cL_law 701 = .ok (.iload_n 3, 1) := by decide +kernel
theorem dL_law_702 : decode cL_law 702 = .ok (.iconst 3, 1) := by decide +kernel
theorem dL_law_703 : decode cL_law 703 = .ok (.iadd, 1) := by decide +kernel
theorem dL_law_704 : decode cL_law 704 = .ok (.iaload, 1) := by decide +kernel
theorem dL_law_705 : decode cL_law 705 = .ok (.invokevirtual 80, 3) := by decide +kernel
theorem dL_law_708 : decode cL_law 708 = .ok (.if_icmp .eq 735, 3) := by decide +kernel
theorem dL_law_711 : decode cL_law 711 = .ok (.iconst 0, 1) := by decide +kernel
theorem dL_law_712 : decode cL_law 712 = .ok (.ireturn, 1) := by decide +kernel
theorem dL_law_713 : decode cL_law 713 = .ok (.aload_n 1, 1) := by decide +kernel
theorem dL_law_714 : decode cL_law 714 = .ok (.aload_n 0, 1) := by decide +kernel
theorem dL_law_715 : decode cL_law 715 = .ok (.iload_n 3, 1) := by decide +kernel
theorem dL_law_716 : decode cL_law 716 = .ok (.iconst 1, 1) := by decide +kernel
theorem dL_law_717 : decode cL_law 717 = .ok (.iadd, 1) := by decide +kernel
theorem dL_law_718 : decode cL_law 718 = .ok (.iaload, 1) := by decide +kernel
theorem dL_law_719 : decode cL_law 719 = .ok (.aload_n 0, 1) := by decide +kernel
theorem dL_law_720 : decode cL_law 720 = .ok (.iload_n 3, 1) := by decide +kernel
theorem dL_law_721 : decode cL_law 721 = .ok (.iconst 2, 1) := by decide +kernel
theorem dL_law_722 : decode cL_law 722 = .ok (.iadd, 1) := by decide +kernel
theorem dL_law_723 : decode cL_law 723 = .ok (.iaload, 1) := by decide +kernel
theorem dL_law_724 : decode cL_law 724 = .ok (.aload_n 0, 1) := by decide +kernel
theorem dL_law_725 : decode cL_law 725 = .ok (.iload_n 3, 1) := by decide +kernel
theorem dL_law_726 : decode cL_law 726 = .ok (.iconst 3, 1) := by decide +kernel
theorem dL_law_727 : decode cL_law 727 = .ok (.iadd, 1) := by decide +kernel
theorem dL_law_728 : decode cL_law 728 = .ok (.iaload, 1) := by decide +kernel
theorem dL_law_729 : decode cL_law 729 = .ok (.aload_n 0, 1) := by decide +kernel
theorem dL_law_730 : decode cL_law 730 = .ok (.iload_n 3, 1) := by decide +kernel
theorem dL_law_731 : decode cL_law 731 = .ok (.iconst 4, 1) := by decide +kernel
theorem dL_law_732 : decode cL_law 732 = .ok (.iadd, 1) := by decide +kernel
theorem dL_law_733 : decode cL_law 733 = .ok (.iaload, 1) := by decide +kernel
theorem dL_law_734 : decode cL_law 734 = .ok (.invokevirtual 81, 3) := by decide +kernel
theorem dL_law_737 : decode cL_law 737 = .ok (.aload_n 2, 1) := by decide +kernel
theorem dL_law_738 : decode cL_law 738 = .ok (.aload_n 0, 1) := by decide +kernel
theorem dL_law_739 : decode cL_law 739 = .ok (.iload_n 3, 1) := by decide +kernel
theorem dL_law_740 : decode cL_law 740 = .ok (.iconst 1, 1) := by decide +kernel
theorem dL_law_741 : decode cL_law 741 = .ok (.iadd, 1) := by decide +kernel
theorem dL_law_742 : decode cL_law 742 = .ok (.iaload, 1) := by decide +kernel
theorem dL_law_743 : decode cL_law 743 = .ok (.aload_n 0, 1) := by decide +kernel
theorem dL_law_744 : decode cL_law 744 = .ok (.iload_n 3, 1) := by decide +kernel
theorem dL_law_745 : decode cL_law 745 = .ok (.iconst 2, 1) := by decide +kernel
theorem dL_law_746 : decode cL_law 746 = .ok (.iadd, 1) := by decide +kernel
theorem dL_law_747 : decode cL_law 747 = .ok (.iaload, 1) := by decide +kernel
theorem dL_law_748 : decode cL_law 748 = .ok (.aload_n 0, 1) := by decide +kernel
theorem dL_law_749 : decode cL_law 749 = .ok (.iload_n 3, 1) := by decide +kernel
theorem dL_law_750 : decode cL_law 750 = .ok (.iconst 3, 1) := by decide +kernel
theorem dL_law_751 : decode cL_law 751 = .ok (.iadd, 1) := by decide +kernel
theorem dL_law_752 : decode cL_law 752 = .ok (.iaload, 1) := by decide +kernel
theorem dL_law_753 : decode cL_law 753 = .ok (.aload_n 0, 1) := by decide +kernel
theorem dL_law_754 : decode cL_law 754 = .ok (.iload_n 3, 1) := by decide +kernel
theorem dL_law_755 : decode cL_law 755 = .ok (.iconst 4, 1) := by decide +kernel
theorem dL_law_756 : decode cL_law 756 = .ok (.iadd, 1) := by decide +kernel
theorem dL_law_757 : decode cL_law 757 = .ok (.iaload, 1) := by decide +kernel
theorem dL_law_758 : decode cL_law 758 = .ok (.invokevirtual 84, 3) := by decide +kernel
theorem dL_law_761 : decode cL_law 761 = .ok (.if_icmp .eq 682, 3) := by decide +kernel
theorem dL_law_764 : decode cL_law 764 = .ok (.iconst 0, 1) := by decide +kernel
theorem dL_law_765 : decode cL_law 765 = .ok (.ireturn, 1) := by decide +kernel
theorem dL_law_766 : decode cL_law 766 = .ok (.aload_n 1, 1) := by decide +kernel
theorem dL_law_767 : decode cL_law 767 = .ok (.aload_n 0, 1) := by decide +kernel
theorem dL_law_768 : decode cL_law 768 = .ok (.iload_n 3, 1) := by decide +kernel
theorem dL_law_769 : decode cL_law 769 = .ok (.iconst 1, 1) := by decide +kernel
theorem dL_law_770 : decode cL_law 770 = .ok (.iadd, 1) := by decide +kernel
theorem dL_law_771 : decode cL_law 771 = .ok (.iaload, 1) := by decide +kernel
theorem dL_law_772 : decode cL_law 772 = .ok (.aload_n 0, 1) := by decide +kernel
theorem dL_law_773 : decode cL_law 773 = .ok (.iload_n 3, 1) := by decide +kernel
theorem dL_law_774 : decode cL_law 774 = .ok (.iconst 2, 1) := by decide +kernel
theorem dL_law_775 : decode cL_law 775 = .ok (.iadd, 1) := by decide +kernel
theorem dL_law_776 : decode cL_law 776 = .ok (.iaload, 1) := by decide +kernel
theorem dL_law_777 : decode cL_law 777 = .ok (.aload_n 0, 1) := by decide +kernel
theorem dL_law_778 : decode cL_law 778 = .ok (.iload_n 3, 1) := by decide +kernel
theorem dL_law_779 : decode cL_law 779 = .ok (.iconst 3, 1) := by decide +kernel
theorem dL_law_780 : decode cL_law 780 = .ok (.iadd, 1) := by decide +kernel
theorem dL_law_781 : decode cL_law 781 = .ok (.iaload, 1) := by decide +kernel
theorem dL_law_782 : decode cL_law 782 = .ok (.invokevirtual 85, 3) := by decide +kernel
theorem dL_law_785 : decode cL_law 785 = .ok (.aload_n 2, 1) := by decide +kernel
theorem dL_law_786 : decode cL_law 786 = .ok (.aload_n 0, 1) := by decide +kernel
theorem dL_law_787 : decode cL_law 787 = .ok (.iload_n 3, 1) := by decide +kernel
theorem dL_law_788 : decode cL_law 788 = .ok (.iconst 1, 1) := by decide +kernel
theorem dL_law_789 : decode cL_law 789 = .ok (.iadd, 1) := by decide +kernel
theorem dL_law_790 : decode cL_law 790 = .ok (.iaload, 1) := by decide +kernel
theorem dL_law_791 : decode cL_law 791 = .ok (.aload_n 0, 1) := by decide +kernel
theorem dL_law_792 : decode cL_law 792 = .ok (.iload_n 3, 1) := by decide +kernel
theorem dL_law_793 : decode cL_law 793 = .ok (.iconst 2, 1) := by decide +kernel
theorem dL_law_794 : decode cL_law 794 = .ok (.iadd, 1) := by decide +kernel
theorem dL_law_795 : decode cL_law 795 = .ok (.iaload, 1) := by decide +kernel
theorem dL_law_796 : decode cL_law 796 = .ok (.aload_n 0, 1) := by decide +kernel
theorem dL_law_797 : decode cL_law 797 = .ok (.iload_n 3, 1) := by decide +kernel
theorem dL_law_798 : decode cL_law 798 = .ok (.iconst 3, 1) := by decide +kernel
theorem dL_law_799 : decode cL_law 799 = .ok (.iadd, 1) := by decide +kernel
theorem dL_law_800 : decode cL_law 800 = .ok (.iaload, 1) := by decide +kernel
theorem dL_law_801 : decode cL_law 801 = .ok (.invokevirtual 88, 3) := by decide +kernel
theorem dL_law_804 : decode cL_law 804 = .ok (.if_icmp .eq 639, 3) := by decide +kernel
theorem dL_law_807 : decode cL_law 807 = .ok (.iconst 0, 1) := by decide +kernel
theorem dL_law_808 : decode cL_law 808 = .ok (.ireturn, 1) := by decide +kernel
theorem dL_law_809 : decode cL_law 809 = .ok (.aload_n 1, 1) := by decide +kernel
theorem dL_law_810 : decode cL_law 810 = .ok (.aload_n 0, 1) := by decide +kernel
theorem dL_law_811 : decode cL_law 811 = .ok (.iload_n 3, 1) := by decide +kernel
theorem dL_law_812 : decode cL_law 812 = .ok (.iconst 1, 1) := by decide +kernel
theorem dL_law_813 : decode cL_law 813 = .ok (.iadd, 1) := by decide +kernel
theorem dL_law_814 : decode cL_law 814 = .ok (.iaload, 1) := by decide +kernel
theorem dL_law_815 : decode cL_law 815 = .ok (.aload_n 0, 1) := by decide +kernel
theorem dL_law_816 : decode cL_law 816 = .ok (.iload_n 3, 1) := by decide +kernel
theorem dL_law_817 : decode cL_law 817 = .ok (.iconst 2, 1) := by decide +kernel
theorem dL_law_818 : decode cL_law 818 = .ok (.iadd, 1) := by decide +kernel
theorem dL_law_819 : decode cL_law 819 = .ok (.iaload, 1) := by decide +kernel
theorem dL_law_820 : decode cL_law 820 = .ok (.aload_n 0, 1) := by decide +kernel
theorem dL_law_821 : decode cL_law 821 = .ok (.iload_n 3, 1) := by decide +kernel
theorem dL_law_822 : decode cL_law 822 = .ok (.iconst 3, 1) := by decide +kernel
theorem dL_law_823 : decode cL_law 823 = .ok (.iadd, 1) := by decide +kernel
theorem dL_law_824 : decode cL_law 824 = .ok (.iaload, 1) := by decide +kernel
theorem dL_law_825 : decode cL_law 825 = .ok (.invokevirtual 89, 3) := by decide +kernel
theorem dL_law_828 : decode cL_law 828 = .ok (.aload_n 2, 1) := by decide +kernel
theorem dL_law_829 : decode cL_law 829 = .ok (.aload_n 0, 1) := by decide +kernel
theorem dL_law_830 : decode cL_law 830 = .ok (.iload_n 3, 1) := by decide +kernel
theorem dL_law_831 : decode cL_law 831 = .ok (.iconst 1, 1) := by decide +kernel
theorem dL_law_832 : decode cL_law 832 = .ok (.iadd, 1) := by decide +kernel
theorem dL_law_833 : decode cL_law 833 = .ok (.iaload, 1) := by decide +kernel
theorem dL_law_834 : decode cL_law 834 = .ok (.aload_n 0, 1) := by decide +kernel
theorem dL_law_835 : decode cL_law 835 = .ok (.iload_n 3, 1) := by decide +kernel
theorem dL_law_836 : decode cL_law 836 = .ok (.iconst 2, 1) := by decide +kernel
theorem dL_law_837 : decode cL_law 837 = .ok (.iadd, 1) := by decide +kernel
theorem dL_law_838 : decode cL_law 838 = .ok (.iaload, 1) := by decide +kernel
theorem dL_law_839 : decode cL_law 839 = .ok (.aload_n 0, 1) := by decide +kernel
theorem dL_law_840 : decode cL_law 840 = .ok (.iload_n 3, 1) := by decide +kernel
theorem dL_law_841 : decode cL_law 841 = .ok (.iconst 3, 1) := by decide +kernel
theorem dL_law_842 : decode cL_law 842 = .ok (.iadd, 1) := by decide +kernel
theorem dL_law_843 : decode cL_law 843 = .ok (.iaload, 1) := by decide +kernel
theorem dL_law_844 : decode cL_law 844 = .ok (.invokevirtual 92, 3) := by decide +kernel
theorem dL_law_847 : decode cL_law 847 = .ok (.if_icmp .eq 596, 3) := by decide +kernel
theorem dL_law_850 : decode cL_law 850 = .ok (.iconst 0, 1) := by decide +kernel
theorem dL_law_851 : decode cL_law 851 = .ok (.ireturn, 1) := by decide +kernel
theorem dL_law_852 : decode cL_law 852 = .ok (.aload_n 1, 1) := by decide +kernel
theorem dL_law_853 : decode cL_law 853 = .ok (.aload_n 0, 1) := by decide +kernel
theorem dL_law_854 : decode cL_law 854 = .ok (.iload_n 3, 1) := by decide +kernel
theorem dL_law_855 : decode cL_law 855 = .ok (.iconst 1, 1) := by decide +kernel
theorem dL_law_856 : decode cL_law 856 = .ok (.iadd, 1) := by decide +kernel
theorem dL_law_857 : decode cL_law 857 = .ok (.iaload, 1) := by decide +kernel
theorem dL_law_858 : decode cL_law 858 = .ok (.aload_n 0, 1) := by decide +kernel
theorem dL_law_859 : decode cL_law 859 = .ok (.iload_n 3, 1) := by decide +kernel
theorem dL_law_860 : decode cL_law 860 = .ok (.iconst 2, 1) := by decide +kernel
theorem dL_law_861 : decode cL_law 861 = .ok (.iadd, 1) := by decide +kernel
theorem dL_law_862 : decode cL_law 862 = .ok (.iaload, 1) := by decide +kernel
theorem dL_law_863 : decode cL_law 863 = .ok (.invokevirtual 93, 3) := by decide +kernel
theorem dL_law_866 : decode cL_law 866 = .ok (.aload_n 2, 1) := by decide +kernel
theorem dL_law_867 : decode cL_law 867 = .ok (.aload_n 0, 1) := by decide +kernel
theorem dL_law_868 : decode cL_law 868 = .ok (.iload_n 3, 1) := by decide +kernel
theorem dL_law_869 : decode cL_law 869 = .ok (.iconst 1, 1) := by decide +kernel
theorem dL_law_870 : decode cL_law 870 = .ok (.iadd, 1) := by decide +kernel
theorem dL_law_871 : decode cL_law 871 = .ok (.iaload, 1) := by decide +kernel
theorem dL_law_872 : decode cL_law 872 = .ok (.aload_n 0, 1) := by decide +kernel
theorem dL_law_873 : decode cL_law 873 = .ok (.iload_n 3, 1) := by decide +kernel
theorem dL_law_874 : decode cL_law 874 = .ok (.iconst 2, 1) := by decide +kernel
theorem dL_law_875 : decode cL_law 875 = .ok (.iadd, 1) := by decide +kernel
theorem dL_law_876 : decode cL_law 876 = .ok (.iaload, 1) := by decide +kernel
theorem dL_law_877 : decode cL_law 877 = .ok (.invokevirtual 96, 3) := by decide +kernel
theorem dL_law_880 : decode cL_law 880 = .ok (.if_icmp .eq 563, 3) := by decide +kernel
theorem dL_law_883 : decode cL_law 883 = .ok (.iconst 0, 1) := by decide +kernel
theorem dL_law_884 : decode cL_law 884 = .ok (.ireturn, 1) := by decide +kernel
theorem dL_law_885 : decode cL_law 885 = .ok (.aload_n 1, 1) := by decide +kernel
theorem dL_law_886 : decode cL_law 886 = .ok (.aload_n 0, 1) := by decide +kernel
theorem dL_law_887 : decode cL_law 887 = .ok (.iload_n 3, 1) := by decide +kernel
theorem dL_law_888 : decode cL_law 888 = .ok (.iconst 1, 1) := by decide +kernel
theorem dL_law_889 : decode cL_law 889 = .ok (.iadd, 1) := by decide +kernel
theorem dL_law_890 : decode cL_law 890 = .ok (.iaload, 1) := by decide +kernel
theorem dL_law_891 : decode cL_law 891 = .ok (.aload_n 0, 1) := by decide +kernel
theorem dL_law_892 : decode cL_law 892 = .ok (.iload_n 3, 1) := by decide +kernel
theorem dL_law_893 : decode cL_law 893 = .ok (.iconst 2, 1) := by decide +kernel
theorem dL_law_894 : decode cL_law 894 = .ok (.iadd, 1) := by decide +kernel
theorem dL_law_895 : decode cL_law 895 = .ok (.iaload, 1) := by decide +kernel
theorem dL_law_896 : decode cL_law 896 = .ok (.aload_n 0, 1) := by decide +kernel
theorem dL_law_897 : decode cL_law 897 = .ok (.iload_n 3, 1) := by decide +kernel
theorem dL_law_898 : decode cL_law 898 = .ok (.iconst 3, 1) := by decide +kernel
theorem dL_law_899 : decode cL_law 899 = .ok (.iadd, 1) := by decide +kernel
theorem dL_law_900 : decode cL_law 900 = .ok (.iaload, 1) := by decide +kernel
theorem dL_law_901 : decode cL_law 901 = .ok (.invokevirtual 97, 3) := by decide +kernel
theorem dL_law_904 : decode cL_law 904 = .ok (.aload_n 2, 1) := by decide +kernel
theorem dL_law_905 : decode cL_law 905 = .ok (.aload_n 0, 1) := by decide +kernel
theorem dL_law_906 : decode cL_law 906 = .ok (.iload_n 3, 1) := by decide +kernel
theorem dL_law_907 : decode cL_law 907 = .ok (.iconst 1, 1) := by decide +kernel
theorem dL_law_908 : decode cL_law 908 = .ok (.iadd, 1) := by decide +kernel
theorem dL_law_909 : decode cL_law 909 = .ok (.iaload, 1) := by decide +kernel
theorem dL_law_910 : decode cL_law 910 = .ok (.aload_n 0, 1) := by decide +kernel
theorem dL_law_911 : decode cL_law 911 = .ok (.iload_n 3, 1) := by decide +kernel
theorem dL_law_912 : decode cL_law 912 = .ok (.iconst 2, 1) := by decide +kernel
theorem dL_law_913 : decode cL_law 913 = .ok (.iadd, 1) := by decide +kernel
theorem dL_law_914 : decode cL_law 914 = .ok (.iaload, 1) := by decide +kernel
theorem dL_law_915 : decode cL_law 915 = .ok (.aload_n 0, 1) := by decide +kernel
theorem dL_law_916 : decode cL_law 916 = .ok (.iload_n 3, 1) := by decide +kernel
theorem dL_law_917 : decode cL_law 917 = .ok (.iconst 3, 1) := by decide +kernel
theorem dL_law_918 : decode cL_law 918 = .ok (.iadd, 1) := by decide +kernel
theorem dL_law_919 : decode cL_law 919 = .ok (.iaload, 1) := by decide +kernel
theorem dL_law_920 : decode cL_law 920 = .ok (.invokevirtual 100, 3) := by decide +kernel
theorem dL_law_923 : decode cL_law 923 = .ok (.if_icmp .eq 520, 3) := by decide +kernel
theorem dL_law_926 : decode cL_law 926 = .ok (.iconst 0, 1) := by decide +kernel
theorem dL_law_927 : decode cL_law 927 = .ok (.ireturn, 1) := by decide +kernel
theorem dL_law_928 : decode cL_law 928 = .ok (.aload_n 1, 1) := by decide +kernel
theorem dL_law_929 : decode cL_law 929 = .ok (.aload_n 0, 1) := by decide +kernel
theorem dL_law_930 : decode cL_law 930 = .ok (.iload_n 3, 1) := by decide +kernel
theorem dL_law_931 : decode cL_law 931 = .ok (.iconst 1, 1) := by decide +kernel
theorem dL_law_932 : decode cL_law 932 = .ok (.iadd, 1) := by decide +kernel
theorem dL_law_933 : decode cL_law 933 = .ok (.iaload, 1) := by decide +kernel
theorem dL_law_934 : decode cL_law 934 = .ok (.aload_n 0, 1) := by decide +kernel
theorem dL_law_935 : decode cL_law 935 = .ok (.iload_n 3, 1) := by decide +kernel
theorem dL_law_936 : decode cL_law 936 = .ok (.iconst 2, 1) := by decide +kernel
theorem dL_law_937 : decode cL_law 937 = .ok (.iadd, 1) := by decide +kernel
theorem dL_law_938 : decode cL_law 938 = .ok (.iaload, 1) := by decide +kernel
theorem dL_law_939 : decode cL_law 939 = .ok (.aload_n 0, 1) := by decide +kernel
theorem dL_law_940 : decode cL_law 940 = .ok (.iload_n 3, 1) := by decide +kernel
theorem dL_law_941 : decode cL_law 941 = .ok (.iconst 3, 1) := by decide +kernel
theorem dL_law_942 : decode cL_law 942 = .ok (.iadd, 1) := by decide +kernel
theorem dL_law_943 : decode cL_law 943 = .ok (.iaload, 1) := by decide +kernel
theorem dL_law_944 : decode cL_law 944 = .ok (.invokevirtual 101, 3) := by decide +kernel
theorem dL_law_947 : decode cL_law 947 = .ok (.aload_n 2, 1) := by decide +kernel
theorem dL_law_948 : decode cL_law 948 = .ok (.aload_n 0, 1) := by decide +kernel
theorem dL_law_949 : decode cL_law 949 = .ok (.iload_n 3, 1) := by decide +kernel
theorem dL_law_950 : decode cL_law 950 = .ok (.iconst 1, 1) := by decide +kernel
theorem dL_law_951 : decode cL_law 951 = .ok (.iadd, 1) := by decide +kernel
theorem dL_law_952 : decode cL_law 952 = .ok (.iaload, 1) := by decide +kernel
theorem dL_law_953 : decode cL_law 953 = .ok (.aload_n 0, 1) := by decide +kernel
theorem dL_law_954 : decode cL_law 954 = .ok (.iload_n 3, 1) := by decide +kernel
theorem dL_law_955 : decode cL_law 955 = .ok (.iconst 2, 1) := by decide +kernel
theorem dL_law_956 : decode cL_law 956 = .ok (.iadd, 1) := by decide +kernel
theorem dL_law_957 : decode cL_law 957 = .ok (.iaload, 1) := by decide +kernel
theorem dL_law_958 : decode cL_law 958 = .ok (.aload_n 0, 1) := by decide +kernel
theorem dL_law_959 : decode cL_law 959 = .ok (.iload_n 3, 1) := by decide +kernel
theorem dL_law_960 : decode cL_law 960 = .ok (.iconst 3, 1) := by decide +kernel
theorem dL_law_961 : decode cL_law 961 = .ok (.iadd, 1) := by decide +kernel
theorem dL_law_962 : decode cL_law 962 = .ok (.iaload, 1) := by decide +kernel
theorem dL_law_963 : decode cL_law 963 = .ok (.invokevirtual 104, 3) := by decide +kernel
theorem dL_law_966 : decode cL_law 966 = .ok (.if_icmp .eq 477, 3) := by decide +kernel
theorem dL_law_969 : decode cL_law 969 = .ok (.iconst 0, 1) := by decide +kernel
theorem dL_law_970 : decode cL_law 970 = .ok (.ireturn, 1) := by decide +kernel
theorem dL_law_971 : decode cL_law 971 = .ok (.aload_n 1, 1) := by decide +kernel
theorem dL_law_972 : decode cL_law 972 = .ok (.aload_n 0, 1) := by decide +kernel
theorem dL_law_973 : decode cL_law 973 = .ok (.iload_n 3, 1) := by decide +kernel
theorem dL_law_974 : decode cL_law 974 = .ok (.iconst 1, 1) := by decide +kernel
theorem dL_law_975 : decode cL_law 975 = .ok (.iadd, 1) := by decide +kernel
theorem dL_law_976 : decode cL_law 976 = .ok (.iaload, 1) := by decide +kernel
theorem dL_law_977 : decode cL_law 977 = .ok (.aload_n 0, 1) := by decide +kernel
theorem dL_law_978 : decode cL_law 978 = .ok (.iload_n 3, 1) := by decide +kernel
theorem dL_law_979 : decode cL_law 979 = .ok (.iconst 2, 1) := by decide +kernel
theorem dL_law_980 : decode cL_law 980 = .ok (.iadd, 1) := by decide +kernel
theorem dL_law_981 : decode cL_law 981 = .ok (.iaload, 1) := by decide +kernel
theorem dL_law_982 : decode cL_law 982 = .ok (.invokevirtual 105, 3) := by decide +kernel
theorem dL_law_985 : decode cL_law 985 = .ok (.aload_n 2, 1) := by decide +kernel
theorem dL_law_986 : decode cL_law 986 = .ok (.aload_n 0, 1) := by decide +kernel
theorem dL_law_987 : decode cL_law 987 = .ok (.iload_n 3, 1) := by decide +kernel
theorem dL_law_988 : decode cL_law 988 = .ok (.iconst 1, 1) := by decide +kernel
theorem dL_law_989 : decode cL_law 989 = .ok (.iadd, 1) := by decide +kernel
theorem dL_law_990 : decode cL_law 990 = .ok (.iaload, 1) := by decide +kernel
theorem dL_law_991 : decode cL_law 991 = .ok (.aload_n 0, 1) := by decide +kernel
theorem dL_law_992 : decode cL_law 992 = .ok (.iload_n 3, 1) := by decide +kernel
theorem dL_law_993 : decode cL_law 993 = .ok (.iconst 2, 1) := by decide +kernel
theorem dL_law_994 : decode cL_law 994 = .ok (.iadd, 1) := by decide +kernel
theorem dL_law_995 : decode cL_law 995 = .ok (.iaload, 1) := by decide +kernel
theorem dL_law_996 : decode cL_law 996 = .ok (.invokevirtual 108, 3) := by decide +kernel
theorem dL_law_999 : decode cL_law 999 = .ok (.if_icmp .eq 444, 3) := by decide +kernel
theorem dL_law_1002 : decode cL_law 1002 = .ok (.iconst 0, 1) := by decide +kernel
theorem dL_law_1003 : decode cL_law 1003 = .ok (.ireturn, 1) := by decide +kernel
theorem dL_law_1004 : decode cL_law 1004 = .ok (.aload_n 1, 1) := by decide +kernel
theorem dL_law_1005 : decode cL_law 1005 = .ok (.aload_n 0, 1) := by decide +kernel
theorem dL_law_1006 : decode cL_law 1006 = .ok (.iload_n 3, 1) := by decide +kernel
theorem dL_law_1007 : decode cL_law 1007 = .ok (.iconst 1, 1) := by decide +kernel
theorem dL_law_1008 : decode cL_law 1008 = .ok (.iadd, 1) := by decide +kernel
theorem dL_law_1009 : decode cL_law 1009 = .ok (.iaload, 1) := by decide +kernel
theorem dL_law_1010 : decode cL_law 1010 = .ok (.aload_n 0, 1) := by decide +kernel
theorem dL_law_1011 : decode cL_law 1011 = .ok (.iload_n 3, 1) := by decide +kernel
theorem dL_law_1012 : decode cL_law 1012 = .ok (.iconst 2, 1) := by decide +kernel
theorem dL_law_1013 : decode cL_law 1013 = .ok (.iadd, 1) := by decide +kernel
theorem dL_law_1014 : decode cL_law 1014 = .ok (.iaload, 1) := by decide +kernel
theorem dL_law_1015 : decode cL_law 1015 = .ok (.aload_n 0, 1) := by decide +kernel
theorem dL_law_1016 : decode cL_law 1016 = .ok (.iload_n 3, 1) := by decide +kernel
theorem dL_law_1017 : decode cL_law 1017 = .ok (.iconst 3, 1) := by decide +kernel
theorem dL_law_1018 : decode cL_law 1018 = .ok (.iadd, 1) := by decide +kernel
theorem dL_law_1019 : decode cL_law 1019 = .ok (.iaload, 1) := by decide +kernel
theorem dL_law_1020 : decode cL_law 1020 = .ok (.aload_n 0, 1) := by decide +kernel
theorem dL_law_1021 : decode cL_law 1021 = .ok (.iload_n 3, 1) := by decide +kernel
theorem dL_law_1022 : decode cL_law 1022 = .ok (.iconst 4, 1) := by decide +kernel
theorem dL_law_1023 : decode cL_law 1023 = .ok (.iadd, 1) := by decide +kernel
theorem dL_law_1024 : decode cL_law 1024 = .ok (.iaload, 1) := by decide +kernel
theorem dL_law_1025 : decode cL_law 1025 = .ok (.aload_n 0, 1) := by decide +kernel
theorem dL_law_1026 : decode cL_law 1026 = .ok (.iload_n 3, 1) := by decide +kernel
theorem dL_law_1027 : decode cL_law 1027 = .ok (.iconst 5, 1) := by decide +kernel
theorem dL_law_1028 : decode cL_law 1028 = .ok (.iadd, 1) := by decide +kernel
theorem dL_law_1029 : decode cL_law 1029 = .ok (.iaload, 1) := by decide +kernel
theorem dL_law_1030 : decode cL_law 1030 = .ok (.invokevirtual 109, 3) := by decide +kernel
theorem dL_law_1033 : decode cL_law 1033 = .ok (.aload_n 2, 1) := by decide +kernel
theorem dL_law_1034 : decode cL_law 1034 = .ok (.aload_n 0, 1) := by decide +kernel
theorem dL_law_1035 : decode cL_law 1035 = .ok (.iload_n 3, 1) := by decide +kernel
theorem dL_law_1036 : decode cL_law 1036 = .ok (.iconst 1, 1) := by decide +kernel
theorem dL_law_1037 : decode cL_law 1037 = .ok (.iadd, 1) := by decide +kernel
theorem dL_law_1038 : decode cL_law 1038 = .ok (.iaload, 1) := by decide +kernel
theorem dL_law_1039 : decode cL_law 1039 = .ok (.aload_n 0, 1) := by decide +kernel
theorem dL_law_1040 : decode cL_law 1040 = .ok (.iload_n 3, 1) := by decide +kernel
theorem dL_law_1041 : decode cL_law 1041 = .ok (.iconst 2, 1) := by decide +kernel
theorem dL_law_1042 : decode cL_law 1042 = .ok (.iadd, 1) := by decide +kernel
theorem dL_law_1043 : decode cL_law 1043 = .ok (.iaload, 1) := by decide +kernel
theorem dL_law_1044 : decode cL_law 1044 = .ok (.aload_n 0, 1) := by decide +kernel
theorem dL_law_1045 : decode cL_law 1045 = .ok (.iload_n 3, 1) := by decide +kernel
theorem dL_law_1046 : decode cL_law 1046 = .ok (.iconst 3, 1) := by decide +kernel
theorem dL_law_1047 : decode cL_law 1047 = .ok (.iadd, 1) := by decide +kernel
theorem dL_law_1048 : decode cL_law 1048 = .ok (.iaload, 1) := by decide +kernel
theorem dL_law_1049 : decode cL_law 1049 = .ok (.aload_n 0, 1) := by decide +kernel
theorem dL_law_1050 : decode cL_law 1050 = .ok (.iload_n 3, 1) := by decide +kernel
theorem dL_law_1051 : decode cL_law 1051 = .ok (.iconst 4, 1) := by decide +kernel
theorem dL_law_1052 : decode cL_law 1052 = .ok (.iadd, 1) := by decide +kernel
theorem dL_law_1053 : decode cL_law 1053 = .ok (.iaload, 1) := by decide +kernel
theorem dL_law_1054 : decode cL_law 1054 = .ok (.aload_n 0, 1) := by decide +kernel
theorem dL_law_1055 : decode cL_law 1055 = .ok (.iload_n 3, 1) := by decide +kernel
theorem dL_law_1056 : decode cL_law 1056 = .ok (.iconst 5, 1) := by decide +kernel
theorem dL_law_1057 : decode cL_law 1057 = .ok (.iadd, 1) := by decide +kernel
theorem dL_law_1058 : decode cL_law 1058 = .ok (.iaload, 1) := by decide +kernel
theorem dL_law_1059 : decode cL_law 1059 = .ok (.invokevirtual 113, 3) := by decide +kernel
theorem dL_law_1062 : decode cL_law 1062 = .ok (.if_icmp .eq 381, 3) := by decide +kernel
theorem dL_law_1065 : decode cL_law 1065 = .ok (.iconst 0, 1) := by decide +kernel
theorem dL_law_1066 : decode cL_law 1066 = .ok (.ireturn, 1) := by decide +kernel
theorem dL_law_1067 : decode cL_law 1067 = .ok (.aload_n 1, 1) := by decide +kernel
theorem dL_law_1068 : decode cL_law 1068 = .ok (.aload_n 0, 1) := by decide +kernel
theorem dL_law_1069 : decode cL_law 1069 = .ok (.iload_n 3, 1) := by decide +kernel
theorem dL_law_1070 : decode cL_law 1070 = .ok (.iconst 1, 1) := by decide +kernel
theorem dL_law_1071 : decode cL_law 1071 = .ok (.iadd, 1) := by decide +kernel
theorem dL_law_1072 : decode cL_law 1072 = .ok (.iaload, 1) := by decide +kernel
theorem dL_law_1073 : decode cL_law 1073 = .ok (.aload_n 0, 1) := by decide +kernel
theorem dL_law_1074 : decode cL_law 1074 = .ok (.iload_n 3, 1) := by decide +kernel
theorem dL_law_1075 : decode cL_law 1075 = .ok (.iconst 2, 1) := by decide +kernel
theorem dL_law_1076 : decode cL_law 1076 = .ok (.iadd, 1) := by decide +kernel
theorem dL_law_1077 : decode cL_law 1077 = .ok (.iaload, 1) := by decide +kernel
theorem dL_law_1078 : decode cL_law 1078 = .ok (.aload_n 0, 1) := by decide +kernel
theorem dL_law_1079 : decode cL_law 1079 = .ok (.iload_n 3, 1) := by decide +kernel
theorem dL_law_1080 : decode cL_law 1080 = .ok (.iconst 3, 1) := by decide +kernel
theorem dL_law_1081 : decode cL_law 1081 = .ok (.iadd, 1) := by decide +kernel
theorem dL_law_1082 : decode cL_law 1082 = .ok (.iaload, 1) := by decide +kernel
theorem dL_law_1083 : decode cL_law 1083 = .ok (.aload_n 0, 1) := by decide +kernel
theorem dL_law_1084 : decode cL_law 1084 = .ok (.iload_n 3, 1) := by decide +kernel
theorem dL_law_1085 : decode cL_law 1085 = .ok (.iconst 4, 1) := by decide +kernel
theorem dL_law_1086 : decode cL_law 1086 = .ok (.iadd, 1) := by decide +kernel
theorem dL_law_1087 : decode cL_law 1087 = .ok (.iaload, 1) := by decide +kernel
theorem dL_law_1088 : decode cL_law 1088 = .ok (.aload_n 0, 1) := by decide +kernel
theorem dL_law_1089 : decode cL_law 1089 = .ok (.iload_n 3, 1) := by decide +kernel
theorem dL_law_1090 : decode cL_law 1090 = .ok (.iconst 5, 1) := by decide +kernel
theorem dL_law_1091 : decode cL_law 1091 = .ok (.iadd, 1) := by decide +kernel
theorem dL_law_1092 : decode cL_law 1092 = .ok (.iaload, 1) := by decide +kernel
theorem dL_law_1093 : decode cL_law 1093 = .ok (.invokevirtual 114, 3) := by decide +kernel
theorem dL_law_1096 : decode cL_law 1096 = .ok (.aload_n 2, 1) := by decide +kernel
theorem dL_law_1097 : decode cL_law 1097 = .ok (.aload_n 0, 1) := by decide +kernel
theorem dL_law_1098 : decode cL_law 1098 = .ok (.iload_n 3, 1) := by decide +kernel
theorem dL_law_1099 : decode cL_law 1099 = .ok (.iconst 1, 1) := by decide +kernel
theorem dL_law_1100 : decode cL_law 1100 = .ok (.iadd, 1) := by decide +kernel
theorem dL_law_1101 : decode cL_law 1101 = .ok (.iaload, 1) := by decide +kernel
theorem dL_law_1102 : decode cL_law 1102 = .ok (.aload_n 0, 1) := by decide +kernel
theorem dL_law_1103 : decode cL_law 1103 = .ok (.iload_n 3, 1) := by decide +kernel
theorem dL_law_1104 : decode cL_law 1104 = .ok (.iconst 2, 1) := by decide +kernel
theorem dL_law_1105 : decode cL_law 1105 = .ok (.iadd, 1) := by decide +kernel
theorem dL_law_1106 : decode cL_law 1106 = .ok (.iaload, 1) := by decide +kernel
theorem dL_law_1107 : decode cL_law 1107 = .ok (.aload_n 0, 1) := by decide +kernel
theorem dL_law_1108 : decode cL_law 1108 = .ok (.iload_n 3, 1) := by decide +kernel
theorem dL_law_1109 : decode cL_law 1109 = .ok (.iconst 3, 1) := by decide +kernel
theorem dL_law_1110 : decode cL_law 1110 = .ok (.iadd, 1) := by decide +kernel
theorem dL_law_1111 : decode cL_law 1111 = .ok (.iaload, 1) := by decide +kernel
theorem dL_law_1112 : decode cL_law 1112 = .ok (.aload_n 0, 1) := by decide +kernel
theorem dL_law_1113 : decode cL_law 1113 = .ok (.iload_n 3, 1) := by decide +kernel
theorem dL_law_1114 : decode cL_law 1114 = .ok (.iconst 4, 1) := by decide +kernel
theorem dL_law_1115 : decode cL_law 1115 = .ok (.iadd, 1) := by decide +kernel
theorem dL_law_1116 : decode cL_law 1116 = .ok (.iaload, 1) := by decide +kernel
theorem dL_law_1117 : decode cL_law 1117 = .ok (.aload_n 0, 1) := by decide +kernel
theorem dL_law_1118 : decode cL_law 1118 = .ok (.iload_n 3, 1) := by decide +kernel
theorem dL_law_1119 : decode cL_law 1119 = .ok (.iconst 5, 1) := by decide +kernel
theorem dL_law_1120 : decode cL_law 1120 = .ok (.iadd, 1) := by decide +kernel
theorem dL_law_1121 : decode cL_law 1121 = .ok (.iaload, 1) := by decide +kernel
theorem dL_law_1122 : decode cL_law 1122 = .ok (.invokevirtual 117, 3) := by decide +kernel
theorem dL_law_1125 : decode cL_law 1125 = .ok (.if_icmp .eq 318, 3) := by decide +kernel
theorem dL_law_1128 : decode cL_law 1128 = .ok (.iconst 0, 1) := by decide +kernel
theorem dL_law_1129 : decode cL_law 1129 = .ok (.ireturn, 1) := by decide +kernel
theorem dL_law_1130 : decode cL_law 1130 = .ok (.aload_n 1, 1) := by decide +kernel
theorem dL_law_1131 : decode cL_law 1131 = .ok (.aload_n 0, 1) := by decide +kernel
theorem dL_law_1132 : decode cL_law 1132 = .ok (.iload_n 3, 1) := by decide +kernel
theorem dL_law_1133 : decode cL_law 1133 = .ok (.iconst 1, 1) := by decide +kernel
theorem dL_law_1134 : decode cL_law 1134 = .ok (.iadd, 1) := by decide +kernel
theorem dL_law_1135 : decode cL_law 1135 = .ok (.iaload, 1) := by decide +kernel
theorem dL_law_1136 : decode cL_law 1136 = .ok (.aload_n 0, 1) := by decide +kernel
theorem dL_law_1137 : decode cL_law 1137 = .ok (.iload_n 3, 1) := by decide +kernel
theorem dL_law_1138 : decode cL_law 1138 = .ok (.iconst 2, 1) := by decide +kernel
theorem dL_law_1139 : decode cL_law 1139 = .ok (.iadd, 1) := by decide +kernel
theorem dL_law_1140 : decode cL_law 1140 = .ok (.iaload, 1) := by decide +kernel
theorem dL_law_1141 : decode cL_law 1141 = .ok (.invokevirtual 118, 3) := by decide +kernel
theorem dL_law_1144 : decode cL_law 1144 = .ok (.aload_n 2, 1) := by decide +kernel
theorem dL_law_1145 : decode cL_law 1145 = .ok (.aload_n 0, 1) := by decide +kernel
theorem dL_law_1146 : decode cL_law 1146 = .ok (.iload_n 3, 1) := by decide +kernel
theorem dL_law_1147 : decode cL_law 1147 = .ok (.iconst 1, 1) := by decide +kernel
theorem dL_law_1148 : decode cL_law 1148 = .ok (.iadd, 1) := by decide +kernel
theorem dL_law_1149 : decode cL_law 1149 = .ok (.iaload, 1) := by decide +kernel
theorem dL_law_1150 : decode cL_law 1150 = .ok (.aload_n 0, 1) := by decide +kernel
theorem dL_law_1151 : decode cL_law 1151 = .ok (.iload_n 3, 1) := by decide +kernel
theorem dL_law_1152 : decode cL_law 1152 = .ok (.iconst 2, 1) := by decide +kernel
theorem dL_law_1153 : decode cL_law 1153 = .ok (.iadd, 1) := by decide +kernel
theorem dL_law_1154 : decode cL_law 1154 = .ok (.iaload, 1) := by decide +kernel
theorem dL_law_1155 : decode cL_law 1155 = .ok (.invokevirtual 121, 3) := by decide +kernel
theorem dL_law_1158 : decode cL_law 1158 = .ok (.if_icmp .eq 285, 3) := by decide +kernel
theorem dL_law_1161 : decode cL_law 1161 = .ok (.iconst 0, 1) := by decide +kernel
theorem dL_law_1162 : decode cL_law 1162 = .ok (.ireturn, 1) := by decide +kernel
theorem dL_law_1163 : decode cL_law 1163 = .ok (.aload_n 1, 1) := by decide +kernel
theorem dL_law_1164 : decode cL_law 1164 = .ok (.aload_n 0, 1) := by decide +kernel
theorem dL_law_1165 : decode cL_law 1165 = .ok (.iload_n 3, 1) := by decide +kernel
theorem dL_law_1166 : decode cL_law 1166 = .ok (.iconst 1, 1) := by decide +kernel
theorem dL_law_1167 : decode cL_law 1167 = .ok (.iadd, 1) := by decide +kernel
theorem dL_law_1168 : decode cL_law 1168 = .ok (.iaload, 1) := by decide +kernel
theorem dL_law_1169 : decode cL_law 1169 = .ok (.aload_n 0, 1) := by decide +kernel
theorem dL_law_1170 : decode cL_law 1170 = .ok (.iload_n 3, 1) := by decide +kernel
theorem dL_law_1171 : decode cL_law 1171 = .ok (.iconst 2, 1) := by decide +kernel
theorem dL_law_1172 : decode cL_law 1172 = .ok (.iadd, 1) := by decide +kernel
theorem dL_law_1173 : decode cL_law 1173 = .ok (.iaload, 1) := by decide +kernel
theorem dL_law_1174 : decode cL_law 1174 = .ok (.invokevirtual 122, 3) := by decide +kernel
theorem dL_law_1177 : decode cL_law 1177 = .ok (.aload_n 2, 1) := by decide +kernel
theorem dL_law_1178 : decode cL_law 1178 = .ok (.aload_n 0, 1) := by decide +kernel
theorem dL_law_1179 : decode cL_law 1179 = .ok (.iload_n 3, 1) := by decide +kernel
theorem dL_law_1180 : decode cL_law 1180 = .ok (.iconst 1, 1) := by decide +kernel
theorem dL_law_1181 : decode cL_law 1181 = .ok (.iadd, 1) := by decide +kernel
theorem dL_law_1182 : decode cL_law 1182 = .ok (.iaload, 1) := by decide +kernel
theorem dL_law_1183 : decode cL_law 1183 = .ok (.aload_n 0, 1) := by decide +kernel
theorem dL_law_1184 : decode cL_law 1184 = .ok (.iload_n 3, 1) := by decide +kernel
theorem dL_law_1185 : decode cL_law 1185 = .ok (.iconst 2, 1) := by decide +kernel
theorem dL_law_1186 : decode cL_law 1186 = .ok (.iadd, 1) := by decide +kernel
theorem dL_law_1187 : decode cL_law 1187 = .ok (.iaload, 1) := by decide +kernel
theorem dL_law_1188 : decode cL_law 1188 = .ok (.invokevirtual 125, 3) := by decide +kernel
theorem dL_law_1191 : decode cL_law 1191 = .ok (.if_icmp .eq 252, 3) := by decide +kernel
theorem dL_law_1194 : decode cL_law 1194 = .ok (.iconst 0, 1) := by decide +kernel
theorem dL_law_1195 : decode cL_law 1195 = .ok (.ireturn, 1) := by decide +kernel
theorem dL_law_1196 : decode cL_law 1196 = .ok (.aload_n 1, 1) := by decide +kernel
theorem dL_law_1197 : decode cL_law 1197 = .ok (.aload_n 0, 1) := by decide +kernel
theorem dL_law_1198 : decode cL_law 1198 = .ok (.iload_n 3, 1) := by decide +kernel
theorem dL_law_1199 : decode cL_law 1199 = .ok (.iconst 1, 1) := by decide +kernel
theorem dL_law_1200 : decode cL_law 1200 = .ok (.iadd, 1) := by decide +kernel
theorem dL_law_1201 : decode cL_law 1201 = .ok (.iaload, 1) := by decide +kernel
theorem dL_law_1202 : decode cL_law 1202 = .ok (.aload_n 0, 1) := by decide +kernel
theorem dL_law_1203 : decode cL_law 1203 = .ok (.iload_n 3, 1) := by decide +kernel
theorem dL_law_1204 : decode cL_law 1204 = .ok (.iconst 2, 1) := by decide +kernel
theorem dL_law_1205 : decode cL_law 1205 = .ok (.iadd, 1) := by decide +kernel
theorem dL_law_1206 : decode cL_law 1206 = .ok (.iaload, 1) := by decide +kernel
theorem dL_law_1207 : decode cL_law 1207 = .ok (.invokevirtual 126, 3) := by decide +kernel
theorem dL_law_1210 : decode cL_law 1210 = .ok (.aload_n 2, 1) := by decide +kernel
theorem dL_law_1211 : decode cL_law 1211 = .ok (.aload_n 0, 1) := by decide +kernel
theorem dL_law_1212 : decode cL_law 1212 = .ok (.iload_n 3, 1) := by decide +kernel
theorem dL_law_1213 : decode cL_law 1213 = .ok (.iconst 1, 1) := by decide +kernel
theorem dL_law_1214 : decode cL_law 1214 = .ok (.iadd, 1) := by decide +kernel
theorem dL_law_1215 : decode cL_law 1215 = .ok (.iaload, 1) := by decide +kernel
theorem dL_law_1216 : decode cL_law 1216 = .ok (.aload_n 0, 1) := by decide +kernel
theorem dL_law_1217 : decode cL_law 1217 = .ok (.iload_n 3, 1) := by decide +kernel
theorem dL_law_1218 : decode cL_law 1218 = .ok (.iconst 2, 1) := by decide +kernel
theorem dL_law_1219 : decode cL_law 1219 = .ok (.iadd, 1) := by decide +kernel
theorem dL_law_1220 : decode cL_law 1220 = .ok (.iaload, 1) := by decide +kernel
theorem dL_law_1221 : decode cL_law 1221 = .ok (.invokevirtual 129, 3) := by decide +kernel
theorem dL_law_1224 : decode cL_law 1224 = .ok (.if_icmp .eq 219, 3) := by decide +kernel
theorem dL_law_1227 : decode cL_law 1227 = .ok (.iconst 0, 1) := by decide +kernel
theorem dL_law_1228 : decode cL_law 1228 = .ok (.ireturn, 1) := by decide +kernel
theorem dL_law_1229 : decode cL_law 1229 = .ok (.aload_n 1, 1) := by decide +kernel
theorem dL_law_1230 : decode cL_law 1230 = .ok (.aload_n 0, 1) := by decide +kernel
theorem dL_law_1231 : decode cL_law 1231 = .ok (.iload_n 3, 1) := by decide +kernel
theorem dL_law_1232 : decode cL_law 1232 = .ok (.iconst 1, 1) := by decide +kernel
theorem dL_law_1233 : decode cL_law 1233 = .ok (.iadd, 1) := by decide +kernel
theorem dL_law_1234 : decode cL_law 1234 = .ok (.iaload, 1) := by decide +kernel
theorem dL_law_1235 : decode cL_law 1235 = .ok (.aload_n 0, 1) := by decide +kernel
theorem dL_law_1236 : decode cL_law 1236 = .ok (.iload_n 3, 1) := by decide +kernel
theorem dL_law_1237 : decode cL_law 1237 = .ok (.iconst 2, 1) := by decide +kernel
theorem dL_law_1238 : decode cL_law 1238 = .ok (.iadd, 1) := by decide +kernel
theorem dL_law_1239 : decode cL_law 1239 = .ok (.iaload, 1) := by decide +kernel
theorem dL_law_1240 : decode cL_law 1240 = .ok (.aload_n 0, 1) := by decide +kernel
theorem dL_law_1241 : decode cL_law 1241 = .ok (.iload_n 3, 1) := by decide +kernel
theorem dL_law_1242 : decode cL_law 1242 = .ok (.iconst 3, 1) := by decide +kernel
theorem dL_law_1243 : decode cL_law 1243 = .ok (.iadd, 1) := by decide +kernel
theorem dL_law_1244 : decode cL_law 1244 = .ok (.iaload, 1) := by decide +kernel
theorem dL_law_1245 : decode cL_law 1245 = .ok (.aload_n 0, 1) := by decide +kernel
theorem dL_law_1246 : decode cL_law 1246 = .ok (.iload_n 3, 1) := by decide +kernel
theorem dL_law_1247 : decode cL_law 1247 = .ok (.iconst 4, 1) := by decide +kernel
theorem dL_law_1248 : decode cL_law 1248 = .ok (.iadd, 1) := by decide +kernel
theorem dL_law_1249 : decode cL_law 1249 = .ok (.iaload, 1) := by decide +kernel
theorem dL_law_1250 : decode cL_law 1250 = .ok (.invokevirtual 130, 3) := by decide +kernel
theorem dL_law_1253 : decode cL_law 1253 = .ok (.aload_n 2, 1) := by decide +kernel
theorem dL_law_1254 : decode cL_law 1254 = .ok (.aload_n 0, 1) := by decide +kernel
theorem dL_law_1255 : decode cL_law 1255 = .ok (.iload_n 3, 1) := by decide +kernel
theorem dL_law_1256 : decode cL_law 1256 = .ok (.iconst 1, 1) := by decide +kernel
theorem dL_law_1257 : decode cL_law 1257 = .ok (.iadd, 1) := by decide +kernel
theorem dL_law_1258 : decode cL_law 1258 = .ok (.iaload, 1) := by decide +kernel
theorem dL_law_1259 : decode cL_law 1259 = .ok (.aload_n 0, 1) := by decide +kernel
theorem dL_law_1260 : decode cL_law 1260 = .ok (.iload_n 3, 1) := by decide +kernel
theorem dL_law_1261 : decode cL_law 1261 = .ok (.iconst 2, 1) := by decide +kernel
theorem dL_law_1262 : decode cL_law 1262 = .ok (.iadd, 1) := by decide +kernel
theorem dL_law_1263 : decode cL_law 1263 = .ok (.iaload, 1) := by decide +kernel
theorem dL_law_1264 : decode cL_law 1264 = .ok (.aload_n 0, 1) := by decide +kernel
theorem dL_law_1265 : decode cL_law 1265 = .ok (.iload_n 3, 1) := by decide +kernel
theorem dL_law_1266 : decode cL_law 1266 = .ok (.iconst 3, 1) := by decide +kernel
theorem dL_law_1267 : decode cL_law 1267 = .ok (.iadd, 1) := by decide +kernel
theorem dL_law_1268 : decode cL_law 1268 = .ok (.iaload, 1) := by decide +kernel
theorem dL_law_1269 : decode cL_law 1269 = .ok (.aload_n 0, 1) := by decide +kernel
theorem dL_law_1270 : decode cL_law 1270 = .ok (.iload_n 3, 1) := by decide +kernel
theorem dL_law_1271 : decode cL_law 1271 = .ok (.iconst 4, 1) := by decide +kernel
theorem dL_law_1272 : decode cL_law 1272 = .ok (.iadd, 1) := by decide +kernel
theorem dL_law_1273 : decode cL_law 1273 = .ok (.iaload, 1) := by decide +kernel
theorem dL_law_1274 : decode cL_law 1274 = .ok (.invokevirtual 133, 3) := by decide +kernel
theorem dL_law_1277 : decode cL_law 1277 = .ok (.if_icmp .eq 166, 3) := by decide +kernel
theorem dL_law_1280 : decode cL_law 1280 = .ok (.iconst 0, 1) := by decide +kernel
theorem dL_law_1281 : decode cL_law 1281 = .ok (.ireturn, 1) := by decide +kernel
theorem dL_law_1282 : decode cL_law 1282 = .ok (.aload_n 1, 1) := by decide +kernel
theorem dL_law_1283 : decode cL_law 1283 = .ok (.aload_n 0, 1) := by decide +kernel
theorem dL_law_1284 : decode cL_law 1284 = .ok (.iload_n 3, 1) := by decide +kernel
theorem dL_law_1285 : decode cL_law 1285 = .ok (.iconst 1, 1) := by decide +kernel
theorem dL_law_1286 : decode cL_law 1286 = .ok (.iadd, 1) := by decide +kernel
theorem dL_law_1287 : decode cL_law 1287 = .ok (.iaload, 1) := by decide +kernel
theorem dL_law_1288 : decode cL_law 1288 = .ok (.invokevirtual 134, 3) := by decide +kernel
theorem dL_law_1291 : decode cL_law 1291 = .ok (.aload_n 2, 1) := by decide +kernel
theorem dL_law_1292 : decode cL_law 1292 = .ok (.aload_n 0, 1) := by decide +kernel
theorem dL_law_1293 : decode cL_law 1293 = .ok (.iload_n 3, 1) := by decide +kernel
theorem dL_law_1294 : decode cL_law 1294 = .ok (.iconst 1, 1) := by decide +kernel
theorem dL_law_1295 : decode cL_law 1295 = .ok (.iadd, 1) := by decide +kernel
theorem dL_law_1296 : decode cL_law 1296 = .ok (.iaload, 1) := by decide +kernel
theorem dL_law_1297 : decode cL_law 1297 = .ok (.invokevirtual 137, 3) := by decide +kernel
theorem dL_law_1300 : decode cL_law 1300 = .ok (.if_icmp .eq 143, 3) := by decide +kernel
theorem dL_law_1303 : decode cL_law 1303 = .ok (.iconst 0, 1) := by decide +kernel
theorem dL_law_1304 : decode cL_law 1304 = .ok (.ireturn, 1) := by decide +kernel
theorem dL_law_1305 : decode cL_law 1305 = .ok (.aload_n 1, 1) := by decide +kernel
theorem dL_law_1306 : decode cL_law 1306 = .ok (.invokevirtual 138, 3) := by decide +kernel
theorem dL_law_1309 : decode cL_law 1309 = .ok (.aload_n 2, 1) := by decide +kernel
theorem dL_law_1310 : decode cL_law 1310 = .ok (.invokevirtual 141, 3) := by decide +kernel
theorem dL_law_1313 : decode cL_law 1313 = .ok (.if_icmp .eq 130, 3) := by decide +kernel
theorem dL_law_1316 : decode cL_law 1316 = .ok (.iconst 0, 1) := by decide +kernel
theorem dL_law_1317 : decode cL_law 1317 = .ok (.ireturn, 1) := by decide +kernel
theorem dL_law_1318 : decode cL_law 1318 = .ok (.aload_n 1, 1) := by decide +kernel
theorem dL_law_1319 : decode cL_law 1319 = .ok (.aload_n 0, 1) := by decide +kernel
theorem dL_law_1320 : decode cL_law 1320 = .ok (.iload_n 3, 1) := by decide +kernel
theorem dL_law_1321 : decode cL_law 1321 = .ok (.iconst 1, 1) := by decide +kernel
theorem dL_law_1322 : decode cL_law 1322 = .ok (.iadd, 1) := by decide +kernel
theorem dL_law_1323 : decode cL_law 1323 = .ok (.iaload, 1) := by decide +kernel
theorem dL_law_1324 : decode cL_law 1324 = .ok (.invokevirtual 142, 3) := by decide +kernel
theorem dL_law_1327 : decode cL_law 1327 = .ok (.aload_n 2, 1) := by decide +kernel
theorem dL_law_1328 : decode cL_law 1328 = .ok (.aload_n 0, 1) := by decide +kernel
theorem dL_law_1329 : decode cL_law 1329 = .ok (.iload_n 3, 1) := by decide +kernel
theorem dL_law_1330 : decode cL_law 1330 = .ok (.iconst 1, 1) := by decide +kernel
theorem dL_law_1331 : decode cL_law 1331 = .ok (.iadd, 1) := by decide +kernel
theorem dL_law_1332 : decode cL_law 1332 = .ok (.iaload, 1) := by decide +kernel
theorem dL_law_1333 : decode cL_law 1333 = .ok (.invokevirtual 145, 3) := by decide +kernel
theorem dL_law_1336 : decode cL_law 1336 = .ok (.if_icmp .eq 107, 3) := by decide +kernel
theorem dL_law_1339 : decode cL_law 1339 = .ok (.iconst 0, 1) := by decide +kernel
theorem dL_law_1340 : decode cL_law 1340 = .ok (.ireturn, 1) := by decide +kernel
theorem dL_law_1341 : decode cL_law 1341 = .ok (.aload_n 1, 1) := by decide +kernel
theorem dL_law_1342 : decode cL_law 1342 = .ok (.aload_n 0, 1) := by decide +kernel
theorem dL_law_1343 : decode cL_law 1343 = .ok (.iload_n 3, 1) := by decide +kernel
theorem dL_law_1344 : decode cL_law 1344 = .ok (.iconst 1, 1) := by decide +kernel
theorem dL_law_1345 : decode cL_law 1345 = .ok (.iadd, 1) := by decide +kernel
theorem dL_law_1346 : decode cL_law 1346 = .ok (.iaload, 1) := by decide +kernel
theorem dL_law_1347 : decode cL_law 1347 = .ok (.invokevirtual 146, 3) := by decide +kernel
theorem dL_law_1350 : decode cL_law 1350 = .ok (.aload_n 2, 1) := by decide +kernel
theorem dL_law_1351 : decode cL_law 1351 = .ok (.aload_n 0, 1) := by decide +kernel
theorem dL_law_1352 : decode cL_law 1352 = .ok (.iload_n 3, 1) := by decide +kernel
theorem dL_law_1353 : decode cL_law 1353 = .ok (.iconst 1, 1) := by decide +kernel
theorem dL_law_1354 : decode cL_law 1354 = .ok (.iadd, 1) := by decide +kernel
theorem dL_law_1355 : decode cL_law 1355 = .ok (.iaload, 1) := by decide +kernel
theorem dL_law_1356 : decode cL_law 1356 = .ok (.invokevirtual 149, 3) := by decide +kernel
theorem dL_law_1359 : decode cL_law 1359 = .ok (.if_icmp .eq 84, 3) := by decide +kernel
theorem dL_law_1362 : decode cL_law 1362 = .ok (.iconst 0, 1) := by decide +kernel
theorem dL_law_1363 : decode cL_law 1363 = .ok (.ireturn, 1) := by decide +kernel
theorem dL_law_1364 : decode cL_law 1364 = .ok (.aload_n 1, 1) := by decide +kernel
theorem dL_law_1365 : decode cL_law 1365 = .ok (.aload_n 0, 1) := by decide +kernel
theorem dL_law_1366 : decode cL_law 1366 = .ok (.iload_n 3, 1) := by decide +kernel
theorem dL_law_1367 : decode cL_law 1367 = .ok (.iconst 1, 1) := by decide +kernel
theorem dL_law_1368 : decode cL_law 1368 = .ok (.iadd, 1) := by decide +kernel
theorem dL_law_1369 : decode cL_law 1369 = .ok (.iaload, 1) := by decide +kernel
theorem dL_law_1370 : decode cL_law 1370 = .ok (.invokevirtual 150, 3) := by decide +kernel
theorem dL_law_1373 : decode cL_law 1373 = .ok (.aload_n 2, 1) := by decide +kernel
theorem dL_law_1374 : decode cL_law 1374 = .ok (.aload_n 0, 1) := by decide +kernel
theorem dL_law_1375 : decode cL_law 1375 = .ok (.iload_n 3, 1) := by decide +kernel
theorem dL_law_1376 : decode cL_law 1376 = .ok (.iconst 1, 1) := by decide +kernel
theorem dL_law_1377 : decode cL_law 1377 = .ok (.iadd, 1) := by decide +kernel
theorem dL_law_1378 : decode cL_law 1378 = .ok (.iaload, 1) := by decide +kernel
theorem dL_law_1379 : decode cL_law 1379 = .ok (.invokevirtual 153, 3) := by decide +kernel
theorem dL_law_1382 : decode cL_law 1382 = .ok (.if_icmp .eq 61, 3) := by decide +kernel
theorem dL_law_1385 : decode cL_law 1385 = .ok (.iconst 0, 1) := by decide +kernel
theorem dL_law_1386 : decode cL_law 1386 = .ok (.ireturn, 1) := by decide +kernel
theorem dL_law_1387 : decode cL_law 1387 = .ok (.aload_n 1, 1) := by decide +kernel
theorem dL_law_1388 : decode cL_law 1388 = .ok (.aload_n 0, 1) := by decide +kernel
theorem dL_law_1389 : decode cL_law 1389 = .ok (.iload_n 3, 1) := by decide +kernel
theorem dL_law_1390 : decode cL_law 1390 = .ok (.iconst 1, 1) := by decide +kernel
theorem dL_law_1391 : decode cL_law 1391 = .ok (.iadd, 1) := by decide +kernel
theorem dL_law_1392 : decode cL_law 1392 = .ok (.iaload, 1) := by decide +kernel
theorem dL_law_1393 : decode cL_law 1393 = .ok (.aload_n 0, 1) := by decide +kernel
theorem dL_law_1394 : decode cL_law 1394 = .ok (.iload_n 3, 1) := by decide +kernel
theorem dL_law_1395 : decode cL_law 1395 = .ok (.iconst 2, 1) := by decide +kernel
theorem dL_law_1396 : decode cL_law 1396 = .ok (.iadd, 1) := by decide +kernel
theorem dL_law_1397 : decode cL_law 1397 = .ok (.iaload, 1) := by decide +kernel
theorem dL_law_1398 : decode cL_law 1398 = .ok (.invokevirtual 154, 3) := by decide +kernel
theorem dL_law_1401 : decode cL_law 1401 = .ok (.aload_n 2, 1) := by decide +kernel
theorem dL_law_1402 : decode cL_law 1402 = .ok (.aload_n 0, 1) := by decide +kernel
theorem dL_law_1403 : decode cL_law 1403 = .ok (.iload_n 3, 1) := by decide +kernel
theorem dL_law_1404 : decode cL_law 1404 = .ok (.iconst 1, 1) := by decide +kernel
theorem dL_law_1405 : decode cL_law 1405 = .ok (.iadd, 1) := by decide +kernel
theorem dL_law_1406 : decode cL_law 1406 = .ok (.iaload, 1) := by decide +kernel
theorem dL_law_1407 : decode cL_law 1407 = .ok (.aload_n 0, 1) := by decide +kernel
theorem dL_law_1408 : decode cL_law 1408 = .ok (.iload_n 3, 1) := by decide +kernel
theorem dL_law_1409 : decode cL_law 1409 = .ok (.iconst 2, 1) := by decide +kernel
theorem dL_law_1410 : decode cL_law 1410 = .ok (.iadd, 1) := by decide +kernel
theorem dL_law_1411 : decode cL_law 1411 = .ok (.iaload, 1) := by decide +kernel
theorem dL_law_1412 : decode cL_law 1412 = .ok (.invokevirtual 157, 3) := by decide +kernel
theorem dL_law_1415 : decode cL_law 1415 = .ok (.if_icmp .eq 28, 3) := by decide +kernel
theorem dL_law_1418 : decode cL_law 1418 = .ok (.iconst 0, 1) := by decide +kernel
theorem dL_law_1419 : decode cL_law 1419 = .ok (.ireturn, 1) := by decide +kernel
theorem dL_law_1420 : decode cL_law 1420 = .ok (.aload_n 1, 1) := by decide +kernel
theorem dL_law_1421 : decode cL_law 1421 = .ok (.aload_n 0, 1) := by decide +kernel
theorem dL_law_1422 : decode cL_law 1422 = .ok (.iload_n 3, 1) := by decide +kernel
theorem dL_law_1423 : decode cL_law 1423 = .ok (.iconst 1, 1) := by decide +kernel
theorem dL_law_1424 : decode cL_law 1424 = .ok (.iadd, 1) := by decide +kernel
theorem dL_law_1425 : decode cL_law 1425 = .ok (.iaload, 1) := by decide +kernel
theorem dL_law_1426 : decode cL_law 1426 = .ok (.invokevirtual 158, 3) := by decide +kernel
theorem dL_law_1429 : decode cL_law 1429 = .ok (.aload_n 2, 1) := by decide +kernel
theorem dL_law_1430 : decode cL_law 1430 = .ok (.aload_n 0, 1) := by decide +kernel
theorem dL_law_1431 : decode cL_law 1431 = .ok (.iload_n 3, 1) := by decide +kernel
theorem dL_law_1432 : decode cL_law 1432 = .ok (.iconst 1, 1) := by decide +kernel
theorem dL_law_1433 : decode cL_law 1433 = .ok (.iadd, 1) := by decide +kernel
theorem dL_law_1434 : decode cL_law 1434 = .ok (.iaload, 1) := by decide +kernel
theorem dL_law_1435 : decode cL_law 1435 = .ok (.invokevirtual 161, 3) := by decide +kernel
theorem dL_law_1438 : decode cL_law 1438 = .ok (.if_icmp .eq 5, 3) := by decide +kernel
theorem dL_law_1441 : decode cL_law 1441 = .ok (.iconst 0, 1) := by decide +kernel
theorem dL_law_1442 : decode cL_law 1442 = .ok (.ireturn, 1) := by decide +kernel
theorem dL_law_1443 : decode cL_law 1443 = .ok (.iinc 3 6, 3) := by decide +kernel
theorem dL_law_1446 : decode cL_law 1446 = .ok (.goto (-1428), 3) := by decide +kernel
theorem dL_law_1449 : decode cL_law 1449 = .ok (.iconst 1, 1) := by decide +kernel
theorem dL_law_1450 : decode cL_law 1450 = .ok (.ireturn, 1) := by decide +kernel
