theorem dX16_place_0 : decode cX16_place 0 = .ok (.aload_n 0, 1) := by decide +kernel
theorem dX16_place_1 : decode cX16_place 1 = .ok (.getfield 456, 3) := by decide +kernel
theorem dX16_place_4 : decode cX16_place 4 = .ok (.ireturn, 1) := by decide +kernel
theorem dX16_written_0 : decode cX16_written 0 = .ok (.iload_n 1, 1) := by decide +kernel
theorem dX16_written_1 : decode cX16_written 1 = .ok (.ifCond .lt 24, 3) := by decide +kernel
theorem dX16_written_25 : decode cX16_written 25 = .ok (.iconst (-1), 1) := by decide +kernel
theorem dX16_written_26 : decode cX16_written 26 = .ok (.ireturn, 1) := by decide +kernel
theorem dX16_written_4 : decode cX16_written 4 = .ok (.iload_n 1, 1) := by decide +kernel
theorem dX16_written_5 : decode cX16_written 5 = .ok (.aload_n 0, 1) := by decide +kernel
theorem dX16_written_6 : decode cX16_written 6 = .ok (.getfield 597, 3) := by decide +kernel
theorem dX16_written_9 : decode cX16_written 9 = .ok (.if_icmp .ge 16, 3) := by decide +kernel
theorem dX16_root_0 : decode cX16_root 0 = .ok (.iload_n 1, 1) := by decide +kernel
theorem dX16_root_1 : decode cX16_root 1 = .ok (.ifCond .lt 20, 3) := by decide +kernel
theorem dX16_root_21 : decode cX16_root 21 = .ok (.iconst (-1), 1) := by decide +kernel
theorem dX16_root_22 : decode cX16_root 22 = .ok (.ireturn, 1) := by decide +kernel
theorem dX16_root_4 : decode cX16_root 4 = .ok (.iload_n 1, 1) := by decide +kernel
theorem dX16_root_5 : decode cX16_root 5 = .ok (.aload_n 0, 1) := by decide +kernel
theorem dX16_root_6 : decode cX16_root 6 = .ok (.getfield 610, 3) := by decide +kernel
theorem dX16_root_9 : decode cX16_root 9 = .ok (.if_icmp .ge 12, 3) := by decide +kernel
theorem dX16_clear__0 : decode cX16_clear_ 0 = .ok (.aload_n 0, 1) := by decide +kernel
theorem dX16_clear__1 : decode cX16_clear_ 1 = .ok (.getfield 607, 3) := by decide +kernel
theorem dX16_clear__4 : decode cX16_clear_ 4 = .ok (.istore_n 1, 1) := by decide +kernel
theorem dX16_clear__5 : decode cX16_clear_ 5 = .ok (.aload_n 0, 1) := by decide +kernel
theorem dX16_clear__6 : decode cX16_clear_ 6 = .ok (.iconst 0, 1) := by decide +kernel
theorem dX16_clear__7 : decode cX16_clear_ 7 = .ok (.putfield 607, 3) := by decide +kernel
theorem dX16_clear__10 : decode cX16_clear_ 10 = .ok (.iload_n 1, 1) := by decide +kernel
theorem dX16_clear__11 : decode cX16_clear_ 11 = .ok (.ireturn, 1) := by decide +kernel
theorem dX16_drop_0 : decode cX16_drop 0 = .ok (.iload_n 1, 1) := by decide +kernel
theorem dX16_drop_1 : decode cX16_drop 1 = .ok (.invokestatic 551, 3) := by decide +kernel
theorem dX16_drop_4 : decode cX16_drop 4 = .ok (.ifCond .ne 5, 3) := by decide +kernel
theorem dX16_drop_7 : decode cX16_drop 7 = .ok (.iconst (-1), 1) := by decide +kernel
theorem dX16_drop_8 : decode cX16_drop 8 = .ok (.ireturn, 1) := by decide +kernel
theorem dX16_drop_9 : decode cX16_drop 9 = .ok (.aload_n 0, 1) := by decide +kernel
theorem dX16_drop_10 : decode cX16_drop 10 = .ok (.getfield 450, 3) := by decide +kernel
theorem dX16_drop_13 : decode cX16_drop 13 = .ok (.iload_n 1, 1) := by decide +kernel
theorem dX16_drop_14 : decode cX16_drop 14 = .ok (.aaload, 1) := by decide +kernel
theorem dX16_drop_15 : decode cX16_drop 15 = .ok (.getfield 202, 3) := by decide +kernel
theorem dX16_drop_18 : decode cX16_drop 18 = .ok (.istore_n 2, 1) := by decide +kernel
theorem dX16_drop_19 : decode cX16_drop 19 = .ok (.aload_n 0, 1) := by decide +kernel
theorem dX16_drop_20 : decode cX16_drop 20 = .ok (.getfield 450, 3) := by decide +kernel
theorem dX16_drop_23 : decode cX16_drop 23 = .ok (.iload_n 1, 1) := by decide +kernel
theorem dX16_drop_24 : decode cX16_drop 24 = .ok (.aaload, 1) := by decide +kernel
theorem dX16_drop_25 : decode cX16_drop 25 = .ok (.iconst 0, 1) := by decide +kernel
theorem dX16_drop_26 : decode cX16_drop 26 = .ok (.putfield 202, 3) := by decide +kernel
theorem dX16_drop_29 : decode cX16_drop 29 = .ok (.iload_n 2, 1) := by decide +kernel
theorem dX16_drop_30 : decode cX16_drop 30 = .ok (.ireturn, 1) := by decide +kernel
theorem dX16_rest_0 : decode cX16_rest 0 = .ok (.iload_n 0, 1) := by decide +kernel
theorem dX16_rest_1 : decode cX16_rest 1 = .ok (.ldc 5, 2) := by decide +kernel
theorem dX16_rest_3 : decode cX16_rest 3 = .ok (.irem, 1) := by decide +kernel
theorem dX16_rest_4 : decode cX16_rest 4 = .ok (.istore_n 1, 1) := by decide +kernel
theorem dX16_rest_5 : decode cX16_rest 5 = .ok (.iload_n 1, 1) := by decide +kernel
theorem dX16_rest_6 : decode cX16_rest 6 = .ok (.ifCond .ge 10, 3) := by decide +kernel
theorem dX16_rest_16 : decode cX16_rest 16 = .ok (.iload_n 1, 1) := by decide +kernel
theorem dX16_rest_17 : decode cX16_rest 17 = .ok (.ireturn, 1) := by decide +kernel
theorem dX16_rest_9 : decode cX16_rest 9 = .ok (.iload_n 1, 1) := by decide +kernel
theorem dX16_rest_10 : decode cX16_rest 10 = .ok (.ldc 5, 2) := by decide +kernel
theorem dX16_rest_12 : decode cX16_rest 12 = .ok (.iadd, 1) := by decide +kernel
theorem dX16_rest_13 : decode cX16_rest 13 = .ok (.goto 4, 3) := by decide +kernel
theorem dX16_feed_0 : decode cX16_feed 0 = .ok (.aload_n 0, 1) := by decide +kernel
theorem dX16_feed_1 : decode cX16_feed 1 = .ok (.getfield 607, 3) := by decide +kernel
theorem dX16_feed_4 : decode cX16_feed 4 = .ok (.bipush 60, 2) := by decide +kernel
theorem dX16_feed_6 : decode cX16_feed 6 = .ok (.if_icmp .ne 6, 3) := by decide +kernel
theorem dX16_feed_12 : decode cX16_feed 12 = .ok (.aload_n 0, 1) := by decide +kernel
theorem dX16_feed_13 : decode cX16_feed 13 = .ok (.getfield 465, 3) := by decide +kernel
theorem dX16_feed_16 : decode cX16_feed 16 = .ok (.aload_n 0, 1) := by decide +kernel
theorem dX16_feed_17 : decode cX16_feed 17 = .ok (.dup, 1) := by decide +kernel
theorem dX16_feed_18 : decode cX16_feed 18 = .ok (.getfield 607, 3) := by decide +kernel
theorem dX16_feed_21 : decode cX16_feed 21 = .ok (.dup_x1, 1) := by decide +kernel
theorem dX16_feed_22 : decode cX16_feed 22 = .ok (.iconst 1, 1) := by decide +kernel
theorem dX16_feed_23 : decode cX16_feed 23 = .ok (.iadd, 1) := by decide +kernel
theorem dX16_feed_24 : decode cX16_feed 24 = .ok (.putfield 607, 3) := by decide +kernel
theorem dX16_feed_27 : decode cX16_feed 27 = .ok (.iload_n 1, 1) := by decide +kernel
theorem dX16_feed_28 : decode cX16_feed 28 = .ok (.invokestatic 600, 3) := by decide +kernel
theorem dX16_feed_31 : decode cX16_feed 31 = .ok (.iastore, 1) := by decide +kernel
theorem dX16_feed_32 : decode cX16_feed 32 = .ok (.aload_n 0, 1) := by decide +kernel
theorem dX16_feed_33 : decode cX16_feed 33 = .ok (.getfield 607, 3) := by decide +kernel
theorem dX16_feed_36 : decode cX16_feed 36 = .ok (.ireturn, 1) := by decide +kernel
theorem dX16_guess_0 : decode cX16_guess 0 = .ok (.iload_n 1, 1) := by decide +kernel
theorem dX16_guess_1 : decode cX16_guess 1 = .ok (.invokestatic 551, 3) := by decide +kernel
theorem dX16_guess_4 : decode cX16_guess 4 = .ok (.ifCond .ne 5, 3) := by decide +kernel
theorem dX16_guess_7 : decode cX16_guess 7 = .ok (.iconst (-1), 1) := by decide +kernel
theorem dX16_guess_8 : decode cX16_guess 8 = .ok (.ireturn, 1) := by decide +kernel
theorem dX16_guess_9 : decode cX16_guess 9 = .ok (.aload_n 0, 1) := by decide +kernel
theorem dX16_guess_10 : decode cX16_guess 10 = .ok (.invokevirtual 555, 3) := by decide +kernel
theorem dX16_guess_13 : decode cX16_guess 13 = .ok (.iconst 1, 1) := by decide +kernel
theorem dX16_guess_14 : decode cX16_guess 14 = .ok (.istore_n 2, 1) := by decide +kernel
theorem dX16_guess_15 : decode cX16_guess 15 = .ok (.iload_n 2, 1) := by decide +kernel
theorem dX16_guess_16 : decode cX16_guess 16 = .ok (.iconst 4, 1) := by decide +kernel
theorem dX16_guess_17 : decode cX16_guess 17 = .ok (.if_icmp .gt 58, 3) := by decide +kernel
theorem dX16_guess_20 : decode cX16_guess 20 = .ok (.iconst 0, 1) := by decide +kernel
theorem dX16_guess_21 : decode cX16_guess 21 = .ok (.istore_n 3, 1) := by decide +kernel
theorem dX16_guess_22 : decode cX16_guess 22 = .ok (.iload_n 3, 1) := by decide +kernel
theorem dX16_guess_23 : decode cX16_guess 23 = .ok (.bipush 8, 2) := by decide +kernel
theorem dX16_guess_25 : decode cX16_guess 25 = .ok (.if_icmp .gt 44, 3) := by decide +kernel
theorem dX16_guess_28 : decode cX16_guess 28 = .ok (.iload_n 2, 1) := by decide +kernel
theorem dX16_guess_29 : decode cX16_guess 29 = .ok (.iconst 1, 1) := by decide +kernel
theorem dX16_guess_30 : decode cX16_guess 30 = .ok (.iadd, 1) := by decide +kernel
theorem dX16_guess_31 : decode cX16_guess 31 = .ok (.iload_n 3, 1) := by decide +kernel
theorem dX16_guess_32 : decode cX16_guess 32 = .ok (.iconst 1, 1) := by decide +kernel
theorem dX16_guess_33 : decode cX16_guess 33 = .ok (.iadd, 1) := by decide +kernel
theorem dX16_guess_34 : decode cX16_guess 34 = .ok (.imul, 1) := by decide +kernel
theorem dX16_guess_35 : decode cX16_guess 35 = .ok (.iconst 4, 1) := by decide +kernel
theorem dX16_guess_36 : decode cX16_guess 36 = .ok (.iadd, 1) := by decide +kernel
theorem dX16_guess_37 : decode cX16_guess 37 = .ok (.aload_n 0, 1) := by decide +kernel
theorem dX16_guess_38 : decode cX16_guess 38 = .ok (.getfield 607, 3) := by decide +kernel
theorem dX16_guess_41 : decode cX16_guess 41 = .ok (.iload_n 2, 1) := by decide +kernel
theorem dX16_guess_42 : decode cX16_guess 42 = .ok (.isub, 1) := by decide +kernel
theorem dX16_guess_43 : decode cX16_guess 43 = .ok (.if_icmp .gt 26, 3) := by decide +kernel
theorem dX16_guess_69 : decode cX16_guess 69 = .ok (.iinc 2 1, 3) := by decide +kernel
theorem dX16_guess_72 : decode cX16_guess 72 = .ok (.goto (-57), 3) := by decide +kernel
theorem dX16_guess_75 : decode cX16_guess 75 = .ok (.iconst (-1), 1) := by decide +kernel
theorem dX16_guess_76 : decode cX16_guess 76 = .ok (.ireturn, 1) := by decide +kernel
theorem dX16_type_0 : decode cX16_type 0 = .ok (.iload_n 3, 1) := by decide +kernel
theorem dX16_type_1 : decode cX16_type 1 = .ok (.iconst 1, 1) := by decide +kernel
theorem dX16_type_2 : decode cX16_type 2 = .ok (.if_icmp .lt 21, 3) := by decide +kernel
theorem dX16_type_23 : decode cX16_type 23 = .ok (.iconst (-1), 1) := by decide +kernel
theorem dX16_type_24 : decode cX16_type 24 = .ok (.ireturn, 1) := by decide +kernel
theorem dX16_type_5 : decode cX16_type 5 = .ok (.iload_n 3, 1) := by decide +kernel
theorem dX16_type_6 : decode cX16_type 6 = .ok (.bipush 8, 2) := by decide +kernel
theorem dX16_type_8 : decode cX16_type 8 = .ok (.if_icmp .gt 15, 3) := by decide +kernel
theorem dX16_type_11 : decode cX16_type 11 = .ok (.aload_n 0, 1) := by decide +kernel
theorem dX16_type_12 : decode cX16_type 12 = .ok (.getfield 336, 3) := by decide +kernel
theorem dX16_type_15 : decode cX16_type 15 = .ok (.iload_n 3, 1) := by decide +kernel
theorem dX16_type_16 : decode cX16_type 16 = .ok (.iadd, 1) := by decide +kernel
theorem dX16_type_17 : decode cX16_type 17 = .ok (.sipush 400, 3) := by decide +kernel
theorem dX16_type_20 : decode cX16_type 20 = .ok (.if_icmp .le 5, 3) := by decide +kernel
theorem dX16_type_25 : decode cX16_type 25 = .ok (.iload_n 3, 1) := by decide +kernel
theorem dX16_type_26 : decode cX16_type 26 = .ok (.iconst 1, 1) := by decide +kernel
theorem dX16_type_27 : decode cX16_type 27 = .ok (.isub, 1) := by decide +kernel
theorem dX16_type_28 : decode cX16_type 28 = .ok (.istore 4, 2) := by decide +kernel
theorem dX16_type_30 : decode cX16_type 30 = .ok (.iload 4, 2) := by decide +kernel
theorem dX16_type_32 : decode cX16_type 32 = .ok (.ifCond .lt 34, 3) := by decide +kernel
theorem dX16_type_35 : decode cX16_type 35 = .ok (.aload_n 0, 1) := by decide +kernel
theorem dX16_type_36 : decode cX16_type 36 = .ok (.getfield 339, 3) := by decide +kernel
theorem dX16_type_39 : decode cX16_type 39 = .ok (.aload_n 0, 1) := by decide +kernel
theorem dX16_type_40 : decode cX16_type 40 = .ok (.dup, 1) := by decide +kernel
theorem dX16_type_41 : decode cX16_type 41 = .ok (.getfield 336, 3) := by decide +kernel
theorem dX16_type_44 : decode cX16_type 44 = .ok (.dup_x1, 1) := by decide +kernel
theorem dX16_type_45 : decode cX16_type 45 = .ok (.iconst 1, 1) := by decide +kernel
theorem dX16_type_46 : decode cX16_type 46 = .ok (.iadd, 1) := by decide +kernel
theorem dX16_type_47 : decode cX16_type 47 = .ok (.putfield 336, 3) := by decide +kernel
theorem dX16_type_50 : decode cX16_type 50 = .ok (.lload_n 1, 1) := by decide +kernel
theorem dX16_type_51 : decode cX16_type 51 = .ok (.bipush 8, 2) := by decide +kernel
theorem dX16_type_53 : decode cX16_type 53 = .ok (.iload 4, 2) := by decide +kernel
theorem dX16_type_55 : decode cX16_type 55 = .ok (.imul, 1) := by decide +kernel
theorem dX16_type_56 : decode cX16_type 56 = .ok (.lshr, 1) := by decide +kernel
theorem dX16_type_57 : decode cX16_type 57 = .ok (.l2i, 1) := by decide +kernel
theorem dX16_type_58 : decode cX16_type 58 = .ok (.i2b, 1) := by decide +kernel
theorem dX16_type_59 : decode cX16_type 59 = .ok (.bastore, 1) := by decide +kernel
theorem dX16_type_60 : decode cX16_type 60 = .ok (.iinc 4 (-1), 3) := by decide +kernel
theorem dX16_type_63 : decode cX16_type 63 = .ok (.goto (-33), 3) := by decide +kernel
theorem dX16_type_66 : decode cX16_type 66 = .ok (.aload_n 0, 1) := by decide +kernel
theorem dX16_type_67 : decode cX16_type 67 = .ok (.getfield 336, 3) := by decide +kernel
theorem dX16_type_70 : decode cX16_type 70 = .ok (.ireturn, 1) := by decide +kernel
theorem dX16_count_0 : decode cX16_count 0 = .ok (.iconst 0, 1) := by decide +kernel
theorem dX16_count_1 : decode cX16_count 1 = .ok (.istore_n 2, 1) := by decide +kernel
theorem dX16_count_2 : decode cX16_count 2 = .ok (.iconst 0, 1) := by decide +kernel
theorem dX16_count_3 : decode cX16_count 3 = .ok (.istore_n 3, 1) := by decide +kernel
theorem dX16_count_4 : decode cX16_count 4 = .ok (.iconst 0, 1) := by decide +kernel
theorem dX16_count_5 : decode cX16_count 5 = .ok (.istore 4, 2) := by decide +kernel
theorem dX16_count_7 : decode cX16_count 7 = .ok (.iload 4, 2) := by decide +kernel
theorem dX16_count_9 : decode cX16_count 9 = .ok (.bipush 12, 2) := by decide +kernel
theorem dX16_count_11 : decode cX16_count 11 = .ok (.if_icmp .ge 52, 3) := by decide +kernel
theorem dX16_count_14 : decode cX16_count 14 = .ok (.iload_n 2, 1) := by decide +kernel
theorem dX16_count_15 : decode cX16_count 15 = .ok (.aload_n 0, 1) := by decide +kernel
theorem dX16_count_16 : decode cX16_count 16 = .ok (.getfield 450, 3) := by decide +kernel
theorem dX16_count_19 : decode cX16_count 19 = .ok (.iload 4, 2) := by decide +kernel
theorem dX16_count_21 : decode cX16_count 21 = .ok (.aaload, 1) := by decide +kernel
theorem dX16_count_22 : decode cX16_count 22 = .ok (.getfield 202, 3) := by decide +kernel
theorem dX16_count_25 : decode cX16_count 25 = .ok (.ifCond .eq 7, 3) := by decide +kernel
theorem dX16_count_32 : decode cX16_count 32 = .ok (.iconst 0, 1) := by decide +kernel
theorem dX16_count_33 : decode cX16_count 33 = .ok (.iadd, 1) := by decide +kernel
theorem dX16_count_34 : decode cX16_count 34 = .ok (.istore_n 2, 1) := by decide +kernel
theorem dX16_count_35 : decode cX16_count 35 = .ok (.iload_n 3, 1) := by decide +kernel
theorem dX16_count_36 : decode cX16_count 36 = .ok (.aload_n 0, 1) := by decide +kernel
theorem dX16_count_37 : decode cX16_count 37 = .ok (.getfield 450, 3) := by decide +kernel
theorem dX16_count_40 : decode cX16_count 40 = .ok (.iload 4, 2) := by decide +kernel
theorem dX16_count_42 : decode cX16_count 42 = .ok (.aaload, 1) := by decide +kernel
theorem dX16_count_43 : decode cX16_count 43 = .ok (.getfield 202, 3) := by decide +kernel
theorem dX16_count_46 : decode cX16_count 46 = .ok (.iconst 3, 1) := by decide +kernel
theorem dX16_count_47 : decode cX16_count 47 = .ok (.if_icmp .ne 7, 3) := by decide +kernel
theorem dX16_count_54 : decode cX16_count 54 = .ok (.iconst 0, 1) := by decide +kernel
theorem dX16_count_55 : decode cX16_count 55 = .ok (.iadd, 1) := by decide +kernel
theorem dX16_count_56 : decode cX16_count 56 = .ok (.istore_n 3, 1) := by decide +kernel
theorem dX16_count_57 : decode cX16_count 57 = .ok (.iinc 4 1, 3) := by decide +kernel
theorem dX16_count_60 : decode cX16_count 60 = .ok (.goto (-53), 3) := by decide +kernel
theorem dX16_count_63 : decode cX16_count 63 = .ok (.iload_n 1, 1) := by decide +kernel
theorem dX16_count_64 : decode cX16_count 64 = .ok (.tableswitch 64 0 5 #[40, 45, 50, 55, 60, 62], 40) := by decide +kernel
theorem dX16_count_128 : decode cX16_count 128 = .ok (.iconst (-1), 1) := by decide +kernel
theorem dX16_count_129 : decode cX16_count 129 = .ok (.ireturn, 1) := by decide +kernel
theorem dX16_count_104 : decode cX16_count 104 = .ok (.aload_n 0, 1) := by decide +kernel
theorem dX16_count_105 : decode cX16_count 105 = .ok (.getfield 336, 3) := by decide +kernel
theorem dX16_count_108 : decode cX16_count 108 = .ok (.ireturn, 1) := by decide +kernel
theorem dX16_count_109 : decode cX16_count 109 = .ok (.aload_n 0, 1) := by decide +kernel
theorem dX16_count_110 : decode cX16_count 110 = .ok (.getfield 597, 3) := by decide +kernel
theorem dX16_count_113 : decode cX16_count 113 = .ok (.ireturn, 1) := by decide +kernel
theorem dX16_count_114 : decode cX16_count 114 = .ok (.aload_n 0, 1) := by decide +kernel
theorem dX16_count_115 : decode cX16_count 115 = .ok (.getfield 607, 3) := by decide +kernel
theorem dX16_count_118 : decode cX16_count 118 = .ok (.ireturn, 1) := by decide +kernel
theorem dX16_count_119 : decode cX16_count 119 = .ok (.aload_n 0, 1) := by decide +kernel
theorem dX16_count_120 : decode cX16_count 120 = .ok (.getfield 610, 3) := by decide +kernel
theorem dX16_count_123 : decode cX16_count 123 = .ok (.ireturn, 1) := by decide +kernel
theorem dX16_count_124 : decode cX16_count 124 = .ok (.iload_n 2, 1) := by decide +kernel
theorem dX16_count_125 : decode cX16_count 125 = .ok (.ireturn, 1) := by decide +kernel
theorem dX16_count_126 : decode cX16_count 126 = .ok (.iload_n 3, 1) := by decide +kernel
theorem dX16_count_127 : decode cX16_count 127 = .ok (.ireturn, 1) := by decide +kernel
section ZBA
variable {p : Program} {l : Launch} {e : Env} {R : Room} {s : State} {m : MethodId} {args : Array Value} {below : List Frame} {meth : Method} {c : Code} {H : Heap} {locs : List Loc} {cells slots : Nat} {Q : State → Prop}
variable {cc : ByteArray} {pc : Nat} {ls : Array Slot} {rest : List Value} {D : va_G} {cl : List vw_C} {A : Nat → Prop} {a : Nat} {tys : List (ClassId × FieldType)} {ws : va_W} {H0 : Heap}
theorem zbast (hexec : p.tables.exec = Jvm.exec) (hb : c.code = cc) (hK : va_K D cl tys s) (hP : va_P D cl ws H) (hD : va_D A ws) (hS : va_S A H0 H locs) (q0 t0 : Nat) {cA : ClassId} {n : Nat} {f : Nat → Int32} (ha : ws[q0]? = some (a, .inl (cA, n, .inl f))) (ht : tys[t0]? = some (cA, .byte)) {i : Int32} {x : Int32} (hin : vp_in i n) (hdg : decode cc pc = .ok (.bastore, 1))
    (kk : ∀ (H1 : Heap) (locs1 : List Loc), zBut a H H1 → va_P D cl (ws.set q0 (a, .inl (cA, n, .inl (upd f i.toNatClampNeg (vp_nar .byte x))))) H1 → va_D A (ws.set q0 (a, .inl (cA, n, .inl (upd f i.toNatClampNeg (vp_nar .byte x))))) → va_S A H0 H1 locs1 → W p l e R s m args below meth c H1 locs1 cells slots Q (F0 m (pc + 1) ls rest)) : W p l e R s m args below meth c H locs cells slots Q (F0 m pc ls (.int x :: .int i :: .ref a :: rest)) := by
  refine W.bast hexec hb (hP q0 _ ha) ((hK.2 t0 _ ht).1 n (fun j => .int (f j))) (fun q => by cases q) (by show ¬ (i < 0 ∨ (arrV _ _ _).slots.size ≤ _); rw [arrV_size]; exact hin) rfl rfl hdg fun H1 e z oq => ?_
  refine kk H1 _ ⟨z, oq⟩ (hP.set hD ha ?_ oq) (hD.set ha) (hS.put z oq (hD.2 q0 _ ha))
  show H1[a]? = some (vp_cell _ _)
  rw [e]
  rw [vp_cell_i, vp_cell_i, arrV_store]
  congr 2
  funext q
  by_cases hq : q = i.toNatClampNeg
  · subst hq
    simp [updV, upd, vp_nar]
    try rfl
  · simp [updV, upd, hq]
end ZBA
def zmtape (v : Int64) (N : Nat) : Nat → Nat → Int32
  | 0 => fun _ => 0
  | j + 1 => upd (zmtape v N j) j (vp_nar .byte (v >>> ((8 * ((nI N) - 1 - (nI j))).toInt64 &&& 63)).toInt32.toInt8.toInt32)
theorem zcount_hi {x : Int32} (h : nI 6 ≤ x) : zcount x = -1 := by
  unfold zcount
  by_cases h1 : x < 0
  · rw [if_pos h1]
  · rw [if_neg h1, if_pos (Int32.lt_of_lt_of_le (by decide) h)]

set_option maxHeartbeats 4000000 in
set_option maxRecDepth 100000 in
theorem c_X16_place (l : Launch) (dC : Nat → ClassId) (dI : Nat → Nat → Nat) (aC : Nat → ClassId) (h0 d : Nat) (sz : Nat) : Met l yX16_place w_X16_place ({ frames := 1, cells := 0, slots := 0, locals := 24 }) (zPre (dC, dI) aC [(h0, .inr (15, [.ref (d + 0), .int 0, .ref (d + 1), .int 0, .ref (d + 2), .ref (d + 3), .ref (d + 68), .ref (d + 77), .ref (d + 78), .int 0, .int 0, .ref (d + 79), .int 0, .int 0, .int 0, .ref (d + 80), .int 0, .int 0, .int 0, .int 0, .ref (d + 81), .ref (d + 82), .int (-1), .ref (d + 91), .int 0, .int 0, .ref (d + 92), .int 0, .ref (d + 93), .int 0, .ref (d + 94), .int 0, .ref (d + 95), .ref (d + 96), .ref (d + 97), .ref (d + 98), .int 0, .int 0, .ref (d + 99), .null, .null, .null, .null, .null, .ref (d + 148), .ref (d + 175), .ref (d + 176), .ref (d + 177), .int 0, .ref (d + 178), .ref (d + 179), .ref (d + 180), .ref (d + 185), .ref (d + 190), .ref (d + 191), .ref (d + 192), .ref (d + 193), .ref (d + 201), .ref (d + 209), .ref (d + 210), .ref (d + 211), .ref (d + 272), .ref (d + 273), .int 0, .ref (d + 274)]))] sz [.ref h0]) (va_Qi (fun (r : Int32) (_ : Unit) => r = -1) (fun _ zt => zt.heap.size = sz) (zN sz)) 0 0 (zN sz) := by
  refine Met.ofW (cc := cX16_place) (maxL := 1) (ret := (some .int)) (by decide) rfl ?_
  intro p e s m args below meth c s₁ B hml hv
  generalize hQ : MQ below _ _ s _ _ _ = QQ
  obtain ⟨rfl, hsz, hP, hK, hD0⟩ := hv
  have hx := B.exec
  have hb := B.bytes
  have hr := B.returns
  have hts := atoms_spec (ws := w_X16_place) B.pre
  have hall := fun (w : Cond) (h : w ∈ zAll) => hts w (List.mem_cons_of_mem _ h)
  have hown : s.vm.findClass RX16 = some m.cls := findClass_of_methodNamed B.named
  have hlocks := B.notSynchronized
  subst hsz
  have hA : ∀ q : Nat, s.heap.size ≤ q → zN s.heap.size q := fun q h => h
  have hS : va_S (zN s.heap.size) s.heap s.heap [] := va_S.rf
  have hD := hD0
  have hl := lv_entry ([.ref h0]) (n := 1) (Nat.le_of_ble_eq_true rfl)
  rw [lg_entry_eq]
  generalize (lg_sl ([.ref h0]) ++ List.replicate (1 - (lg_sl ([.ref h0])).length) Slot.unset).toArray = ls at hl ⊢
  have hl : lv_has ls 1 [(0, .ref h0)] := hl
  refine lv_aload_n hx hb dX16_place_0 rfl (lv_at hl 0 rfl) ?_
  refine va_get (D := (dC, dI)) (ci := 15) (v := .int (-1)) (C := RX16) (T := TX16) (N := 65) hx hb hall zx_16 hown hK.1 hP 0 rfl rfl 22 (by decide) (hall _ zw_338) (fun _ h9 => h9) rfl dX16_place_1 ?_
  rw [← hQ]
  exact W.iret (v := (-1)) hx hb hr (fun zt ht hW => ⟨⟨(-1), (), rfl, rfl, (show zt.heap.size = s.heap.size by rw [ht])⟩, hS.F ht⟩) hS.2.2 dX16_place_4

set_option maxHeartbeats 4000000 in
set_option maxRecDepth 100000 in
theorem c_X16_written (l : Launch) (dC : Nat → ClassId) (dI : Nat → Nat → Nat) (aC : Nat → ClassId) (h0 d : Nat) (x : Int32) (sz : Nat) : Met l yX16_written w_X16_written ({ frames := 1, cells := 0, slots := 0, locals := 24 }) (zPre (dC, dI) aC [(h0, .inr (15, [.ref (d + 0), .int 0, .ref (d + 1), .int 0, .ref (d + 2), .ref (d + 3), .ref (d + 68), .ref (d + 77), .ref (d + 78), .int 0, .int 0, .ref (d + 79), .int 0, .int 0, .int 0, .ref (d + 80), .int 0, .int 0, .int 0, .int 0, .ref (d + 81), .ref (d + 82), .int (-1), .ref (d + 91), .int 0, .int 0, .ref (d + 92), .int 0, .ref (d + 93), .int 0, .ref (d + 94), .int 0, .ref (d + 95), .ref (d + 96), .ref (d + 97), .ref (d + 98), .int 0, .int 0, .ref (d + 99), .null, .null, .null, .null, .null, .ref (d + 148), .ref (d + 175), .ref (d + 176), .ref (d + 177), .int 0, .ref (d + 178), .ref (d + 179), .ref (d + 180), .ref (d + 185), .ref (d + 190), .ref (d + 191), .ref (d + 192), .ref (d + 193), .ref (d + 201), .ref (d + 209), .ref (d + 210), .ref (d + 211), .ref (d + 272), .ref (d + 273), .int 0, .ref (d + 274)]))] sz [.ref h0, .int x]) (va_Qi (fun (r : Int32) (_ : Unit) => r = -1) (fun _ zt => zt.heap.size = sz) (zN sz)) 0 0 (zN sz) := by
  refine Met.ofW (cc := cX16_written) (maxL := 2) (ret := (some .int)) (by decide) rfl ?_
  intro p e s m args below meth c s₁ B hml hv
  generalize hQ : MQ below _ _ s _ _ _ = QQ
  obtain ⟨rfl, hsz, hP, hK, hD0⟩ := hv
  have hx := B.exec
  have hb := B.bytes
  have hr := B.returns
  have hts := atoms_spec (ws := w_X16_written) B.pre
  have hall := fun (w : Cond) (h : w ∈ zAll) => hts w (List.mem_cons_of_mem _ h)
  have hown : s.vm.findClass RX16 = some m.cls := findClass_of_methodNamed B.named
  have hlocks := B.notSynchronized
  subst hsz
  have hA : ∀ q : Nat, s.heap.size ≤ q → zN s.heap.size q := fun q h => h
  have hS : va_S (zN s.heap.size) s.heap s.heap [] := va_S.rf
  have hD := hD0
  have hl := lv_entry ([.ref h0, .int x]) (n := 2) (Nat.le_of_ble_eq_true rfl)
  rw [lg_entry_eq]
  generalize (lg_sl ([.ref h0, .int x]) ++ List.replicate (2 - (lg_sl ([.ref h0, .int x])).length) Slot.unset).toArray = ls at hl ⊢
  have hl : lv_has ls 2 [(0, .ref h0), (1, .int x)] := hl
  refine lv_iload_n hx hb dX16_written_0 rfl (lv_at hl 1 rfl) ?_
  refine lv_if_lt (tgt := 25) hx hb dX16_written_1 (by decide) (fun c_1_b70001 => ?_) (fun c_1_b70001 => ?_)
  · refine lv_iconst (v := (-1)) hx hb dX16_written_25 (by decide) ?_
    rw [← hQ]
    exact W.iret (v := (-1)) hx hb hr (fun zt ht hW => ⟨⟨(-1), (), rfl, rfl, (show zt.heap.size = s.heap.size by rw [ht])⟩, hS.F ht⟩) hS.2.2 dX16_written_26
  · refine lv_iload_n hx hb dX16_written_4 rfl (lv_at hl 1 rfl) ?_
    refine lv_aload_n hx hb dX16_written_5 rfl (lv_at hl 0 rfl) ?_
    refine va_get (D := (dC, dI)) (ci := 15) (v := .int 0) (C := RX16) (T := TX16) (N := 65) hx hb hall zx_16 hown hK.1 hP 0 rfl rfl 24 (by decide) (hall _ zw_450) (fun _ h9 => h9) rfl dX16_written_6 ?_
    refine lv_icmp_ge (tgt := 25) hx hb dX16_written_9 (by decide) (fun _ => ?_) (fun c_9_b70002 => absurd (Int32.not_lt.mp c_1_b70001) c_9_b70002)
    show W p l e _ s m _ below meth c _ _ _ _ QQ (F0 m 25 ls [])
    refine lv_iconst (v := (-1)) hx hb dX16_written_25 (by decide) ?_
    rw [← hQ]
    exact W.iret (v := (-1)) hx hb hr (fun zt ht hW => ⟨⟨(-1), (), rfl, rfl, (show zt.heap.size = s.heap.size by rw [ht])⟩, hS.F ht⟩) hS.2.2 dX16_written_26

set_option maxHeartbeats 4000000 in
set_option maxRecDepth 100000 in
theorem c_X16_root (l : Launch) (dC : Nat → ClassId) (dI : Nat → Nat → Nat) (aC : Nat → ClassId) (h0 d : Nat) (x : Int32) (sz : Nat) : Met l yX16_root w_X16_root ({ frames := 1, cells := 0, slots := 0, locals := 24 }) (zPre (dC, dI) aC [(h0, .inr (15, [.ref (d + 0), .int 0, .ref (d + 1), .int 0, .ref (d + 2), .ref (d + 3), .ref (d + 68), .ref (d + 77), .ref (d + 78), .int 0, .int 0, .ref (d + 79), .int 0, .int 0, .int 0, .ref (d + 80), .int 0, .int 0, .int 0, .int 0, .ref (d + 81), .ref (d + 82), .int (-1), .ref (d + 91), .int 0, .int 0, .ref (d + 92), .int 0, .ref (d + 93), .int 0, .ref (d + 94), .int 0, .ref (d + 95), .ref (d + 96), .ref (d + 97), .ref (d + 98), .int 0, .int 0, .ref (d + 99), .null, .null, .null, .null, .null, .ref (d + 148), .ref (d + 175), .ref (d + 176), .ref (d + 177), .int 0, .ref (d + 178), .ref (d + 179), .ref (d + 180), .ref (d + 185), .ref (d + 190), .ref (d + 191), .ref (d + 192), .ref (d + 193), .ref (d + 201), .ref (d + 209), .ref (d + 210), .ref (d + 211), .ref (d + 272), .ref (d + 273), .int 0, .ref (d + 274)]))] sz [.ref h0, .int x]) (va_Qi (fun (r : Int32) (_ : Unit) => r = -1) (fun _ zt => zt.heap.size = sz) (zN sz)) 0 0 (zN sz) := by
  refine Met.ofW (cc := cX16_root) (maxL := 2) (ret := (some .int)) (by decide) rfl ?_
  intro p e s m args below meth c s₁ B hml hv
  generalize hQ : MQ below _ _ s _ _ _ = QQ
  obtain ⟨rfl, hsz, hP, hK, hD0⟩ := hv
  have hx := B.exec
  have hb := B.bytes
  have hr := B.returns
  have hts := atoms_spec (ws := w_X16_root) B.pre
  have hall := fun (w : Cond) (h : w ∈ zAll) => hts w (List.mem_cons_of_mem _ h)
  have hown : s.vm.findClass RX16 = some m.cls := findClass_of_methodNamed B.named
  have hlocks := B.notSynchronized
  subst hsz
  have hA : ∀ q : Nat, s.heap.size ≤ q → zN s.heap.size q := fun q h => h
  have hS : va_S (zN s.heap.size) s.heap s.heap [] := va_S.rf
  have hD := hD0
  have hl := lv_entry ([.ref h0, .int x]) (n := 2) (Nat.le_of_ble_eq_true rfl)
  rw [lg_entry_eq]
  generalize (lg_sl ([.ref h0, .int x]) ++ List.replicate (2 - (lg_sl ([.ref h0, .int x])).length) Slot.unset).toArray = ls at hl ⊢
  have hl : lv_has ls 2 [(0, .ref h0), (1, .int x)] := hl
  refine lv_iload_n hx hb dX16_root_0 rfl (lv_at hl 1 rfl) ?_
  refine lv_if_lt (tgt := 21) hx hb dX16_root_1 (by decide) (fun c_1_b70003 => ?_) (fun c_1_b70003 => ?_)
  · refine lv_iconst (v := (-1)) hx hb dX16_root_21 (by decide) ?_
    rw [← hQ]
    exact W.iret (v := (-1)) hx hb hr (fun zt ht hW => ⟨⟨(-1), (), rfl, rfl, (show zt.heap.size = s.heap.size by rw [ht])⟩, hS.F ht⟩) hS.2.2 dX16_root_22
  · refine lv_iload_n hx hb dX16_root_4 rfl (lv_at hl 1 rfl) ?_
    refine lv_aload_n hx hb dX16_root_5 rfl (lv_at hl 0 rfl) ?_
    refine va_get (D := (dC, dI)) (ci := 15) (v := .int 0) (C := RX16) (T := TX16) (N := 65) hx hb hall zx_16 hown hK.1 hP 0 rfl rfl 31 (by decide) (hall _ zw_485) (fun _ h9 => h9) rfl dX16_root_6 ?_
    refine lv_icmp_ge (tgt := 21) hx hb dX16_root_9 (by decide) (fun _ => ?_) (fun c_9_b70004 => absurd (Int32.not_lt.mp c_1_b70003) c_9_b70004)
    show W p l e _ s m _ below meth c _ _ _ _ QQ (F0 m 21 ls [])
    refine lv_iconst (v := (-1)) hx hb dX16_root_21 (by decide) ?_
    rw [← hQ]
    exact W.iret (v := (-1)) hx hb hr (fun zt ht hW => ⟨⟨(-1), (), rfl, rfl, (show zt.heap.size = s.heap.size by rw [ht])⟩, hS.F ht⟩) hS.2.2 dX16_root_22

set_option maxHeartbeats 4000000 in
set_option maxRecDepth 100000 in
theorem c_X16_clear_ (l : Launch) (dC : Nat → ClassId) (dI : Nat → Nat → Nat) (aC : Nat → ClassId) (h0 d : Nat) (sz : Nat) : Met l yX16_clear_ w_X16_clear_ ({ frames := 1, cells := 0, slots := 0, locals := 24 }) (zPre (dC, dI) aC [(h0, .inr (15, [.ref (d + 0), .int 0, .ref (d + 1), .int 0, .ref (d + 2), .ref (d + 3), .ref (d + 68), .ref (d + 77), .ref (d + 78), .int 0, .int 0, .ref (d + 79), .int 0, .int 0, .int 0, .ref (d + 80), .int 0, .int 0, .int 0, .int 0, .ref (d + 81), .ref (d + 82), .int (-1), .ref (d + 91), .int 0, .int 0, .ref (d + 92), .int 0, .ref (d + 93), .int 0, .ref (d + 94), .int 0, .ref (d + 95), .ref (d + 96), .ref (d + 97), .ref (d + 98), .int 0, .int 0, .ref (d + 99), .null, .null, .null, .null, .null, .ref (d + 148), .ref (d + 175), .ref (d + 176), .ref (d + 177), .int 0, .ref (d + 178), .ref (d + 179), .ref (d + 180), .ref (d + 185), .ref (d + 190), .ref (d + 191), .ref (d + 192), .ref (d + 193), .ref (d + 201), .ref (d + 209), .ref (d + 210), .ref (d + 211), .ref (d + 272), .ref (d + 273), .int 0, .ref (d + 274)]))] sz [.ref h0]) (va_Qi (fun (r : Int32) (u : Unit) => r = 0) (fun u zt => zB (dC, dI) [] (va_A [(h0, .inr (15, [.ref (d + 0), .int 0, .ref (d + 1), .int 0, .ref (d + 2), .ref (d + 3), .ref (d + 68), .ref (d + 77), .ref (d + 78), .int 0, .int 0, .ref (d + 79), .int 0, .int 0, .int 0, .ref (d + 80), .int 0, .int 0, .int 0, .int 0, .ref (d + 81), .ref (d + 82), .int (-1), .ref (d + 91), .int 0, .int 0, .ref (d + 92), .int 0, .ref (d + 93), .int 0, .ref (d + 94), .int 0, .ref (d + 95), .ref (d + 96), .ref (d + 97), .ref (d + 98), .int 0, .int 0, .ref (d + 99), .null, .null, .null, .null, .null, .ref (d + 148), .ref (d + 175), .ref (d + 176), .ref (d + 177), .int 0, .ref (d + 178), .ref (d + 179), .ref (d + 180), .ref (d + 185), .ref (d + 190), .ref (d + 191), .ref (d + 192), .ref (d + 193), .ref (d + 201), .ref (d + 209), .ref (d + 210), .ref (d + 211), .ref (d + 272), .ref (d + 273), .int 0, .ref (d + 274)]))] sz) (sz + 0) zt) (va_A [(h0, .inr (15, [.ref (d + 0), .int 0, .ref (d + 1), .int 0, .ref (d + 2), .ref (d + 3), .ref (d + 68), .ref (d + 77), .ref (d + 78), .int 0, .int 0, .ref (d + 79), .int 0, .int 0, .int 0, .ref (d + 80), .int 0, .int 0, .int 0, .int 0, .ref (d + 81), .ref (d + 82), .int (-1), .ref (d + 91), .int 0, .int 0, .ref (d + 92), .int 0, .ref (d + 93), .int 0, .ref (d + 94), .int 0, .ref (d + 95), .ref (d + 96), .ref (d + 97), .ref (d + 98), .int 0, .int 0, .ref (d + 99), .null, .null, .null, .null, .null, .ref (d + 148), .ref (d + 175), .ref (d + 176), .ref (d + 177), .int 0, .ref (d + 178), .ref (d + 179), .ref (d + 180), .ref (d + 185), .ref (d + 190), .ref (d + 191), .ref (d + 192), .ref (d + 193), .ref (d + 201), .ref (d + 209), .ref (d + 210), .ref (d + 211), .ref (d + 272), .ref (d + 273), .int 0, .ref (d + 274)]))] sz)) 0 0 (va_A [(h0, .inr (15, [.ref (d + 0), .int 0, .ref (d + 1), .int 0, .ref (d + 2), .ref (d + 3), .ref (d + 68), .ref (d + 77), .ref (d + 78), .int 0, .int 0, .ref (d + 79), .int 0, .int 0, .int 0, .ref (d + 80), .int 0, .int 0, .int 0, .int 0, .ref (d + 81), .ref (d + 82), .int (-1), .ref (d + 91), .int 0, .int 0, .ref (d + 92), .int 0, .ref (d + 93), .int 0, .ref (d + 94), .int 0, .ref (d + 95), .ref (d + 96), .ref (d + 97), .ref (d + 98), .int 0, .int 0, .ref (d + 99), .null, .null, .null, .null, .null, .ref (d + 148), .ref (d + 175), .ref (d + 176), .ref (d + 177), .int 0, .ref (d + 178), .ref (d + 179), .ref (d + 180), .ref (d + 185), .ref (d + 190), .ref (d + 191), .ref (d + 192), .ref (d + 193), .ref (d + 201), .ref (d + 209), .ref (d + 210), .ref (d + 211), .ref (d + 272), .ref (d + 273), .int 0, .ref (d + 274)]))] sz) := by
  refine Met.ofW (cc := cX16_clear_) (maxL := 2) (ret := (some .int)) (by decide) rfl ?_
  intro p e s m args below meth c s₁ B hml hv
  generalize hQ : MQ below _ _ s _ _ _ = QQ
  obtain ⟨rfl, hsz, hP, hK, hD0⟩ := hv
  have hx := B.exec
  have hb := B.bytes
  have hr := B.returns
  have hts := atoms_spec (ws := w_X16_clear_) B.pre
  have hall := fun (w : Cond) (h : w ∈ zAll) => hts w (List.mem_cons_of_mem _ h)
  have hown : s.vm.findClass RX16 = some m.cls := findClass_of_methodNamed B.named
  have hlocks := B.notSynchronized
  subst hsz
  have hD := hD0.self (sz := s.heap.size)
  generalize hAe : va_A [(h0, .inr (15, [.ref (d + 0), .int 0, .ref (d + 1), .int 0, .ref (d + 2), .ref (d + 3), .ref (d + 68), .ref (d + 77), .ref (d + 78), .int 0, .int 0, .ref (d + 79), .int 0, .int 0, .int 0, .ref (d + 80), .int 0, .int 0, .int 0, .int 0, .ref (d + 81), .ref (d + 82), .int (-1), .ref (d + 91), .int 0, .int 0, .ref (d + 92), .int 0, .ref (d + 93), .int 0, .ref (d + 94), .int 0, .ref (d + 95), .ref (d + 96), .ref (d + 97), .ref (d + 98), .int 0, .int 0, .ref (d + 99), .null, .null, .null, .null, .null, .ref (d + 148), .ref (d + 175), .ref (d + 176), .ref (d + 177), .int 0, .ref (d + 178), .ref (d + 179), .ref (d + 180), .ref (d + 185), .ref (d + 190), .ref (d + 191), .ref (d + 192), .ref (d + 193), .ref (d + 201), .ref (d + 209), .ref (d + 210), .ref (d + 211), .ref (d + 272), .ref (d + 273), .int 0, .ref (d + 274)]))] s.heap.size = A at hD ⊢
  have hA : ∀ q : Nat, s.heap.size ≤ q → A q := fun q h => by rw [← hAe]; exact Or.inr h
  have hS : va_S A s.heap s.heap [] := va_S.rf
  have hz0 : s.heap.size = s.heap.size + 0 := rfl
  have hl := lv_entry ([.ref h0]) (n := 2) (Nat.le_of_ble_eq_true rfl)
  rw [lg_entry_eq]
  generalize (lg_sl ([.ref h0]) ++ List.replicate (2 - (lg_sl ([.ref h0])).length) Slot.unset).toArray = ls at hl ⊢
  have hl : lv_has ls 2 [(0, .ref h0)] := hl
  refine lv_aload_n hx hb dX16_clear__0 rfl (lv_at hl 0 rfl) ?_
  refine va_get (D := (dC, dI)) (ci := 15) (v := .int 0) (C := RX16) (T := TX16) (N := 65) hx hb hall zx_16 hown hK.1 hP 0 rfl rfl 29 (by decide) (hall _ zw_483) (fun _ h9 => h9) rfl dX16_clear__1 ?_
  refine lv_istore_n (lv' := [(1, .int 0), (0, .ref h0)]) hx hb dX16_clear__4 rfl hl (by decide) rfl (fun ls70005 hl' => ?_)
  clear hl
  have hl : lv_has ls70005 2 [(1, .int 0), (0, .ref h0)] := hl'
  clear hl'
  refine lv_aload_n hx hb dX16_clear__5 rfl (lv_at hl 1 rfl) ?_
  refine lv_iconst (v := 0) hx hb dX16_clear__6 (by decide) ?_
  show W p l e _ s m _ below meth c _ _ _ _ QQ (F0 m 7 ls70005 [.int 0, .ref h0])
  refine zput (D := (dC, dI)) (ci := 15) (v := .int 0) (ty := .int) (C := RX16) (T := TX16) (N := 65) hx hb hall zx_16 tyX16 tyX16_ok nmX16 hown hK.1 hP hD hS 0 rfl rfl 29 (by decide) (hall _ zw_483) (fun _ h9 => h9) rfl (by decide +kernel) rfl rfl (Nat.le_of_ble_eq_true rfl) dX16_clear__7 (fun H70006 L70007 hB hP' hD' hS' => ?_)
  replace hz0 : H70006.size = s.heap.size + 0 := hB.1.trans hz0
  clear hP hD hS hB
  have hP : va_P (dC, dI) vwCl [(h0, .inr (15, [.ref (d + 0), .int 0, .ref (d + 1), .int 0, .ref (d + 2), .ref (d + 3), .ref (d + 68), .ref (d + 77), .ref (d + 78), .int 0, .int 0, .ref (d + 79), .int 0, .int 0, .int 0, .ref (d + 80), .int 0, .int 0, .int 0, .int 0, .ref (d + 81), .ref (d + 82), .int (-1), .ref (d + 91), .int 0, .int 0, .ref (d + 92), .int 0, .ref (d + 93), .int 0, .ref (d + 94), .int 0, .ref (d + 95), .ref (d + 96), .ref (d + 97), .ref (d + 98), .int 0, .int 0, .ref (d + 99), .null, .null, .null, .null, .null, .ref (d + 148), .ref (d + 175), .ref (d + 176), .ref (d + 177), .int 0, .ref (d + 178), .ref (d + 179), .ref (d + 180), .ref (d + 185), .ref (d + 190), .ref (d + 191), .ref (d + 192), .ref (d + 193), .ref (d + 201), .ref (d + 209), .ref (d + 210), .ref (d + 211), .ref (d + 272), .ref (d + 273), .int 0, .ref (d + 274)]))] H70006 := hP'
  have hD : va_D A [(h0, .inr (15, [.ref (d + 0), .int 0, .ref (d + 1), .int 0, .ref (d + 2), .ref (d + 3), .ref (d + 68), .ref (d + 77), .ref (d + 78), .int 0, .int 0, .ref (d + 79), .int 0, .int 0, .int 0, .ref (d + 80), .int 0, .int 0, .int 0, .int 0, .ref (d + 81), .ref (d + 82), .int (-1), .ref (d + 91), .int 0, .int 0, .ref (d + 92), .int 0, .ref (d + 93), .int 0, .ref (d + 94), .int 0, .ref (d + 95), .ref (d + 96), .ref (d + 97), .ref (d + 98), .int 0, .int 0, .ref (d + 99), .null, .null, .null, .null, .null, .ref (d + 148), .ref (d + 175), .ref (d + 176), .ref (d + 177), .int 0, .ref (d + 178), .ref (d + 179), .ref (d + 180), .ref (d + 185), .ref (d + 190), .ref (d + 191), .ref (d + 192), .ref (d + 193), .ref (d + 201), .ref (d + 209), .ref (d + 210), .ref (d + 211), .ref (d + 272), .ref (d + 273), .int 0, .ref (d + 274)]))] := hD'
  have hS : va_S A s.heap H70006 L70007 := hS'
  clear hP' hD' hS'
  refine lv_iload_n hx hb dX16_clear__10 rfl (lv_at hl 0 rfl) ?_
  refine W.widen (k := 0) (n := 0) (Nat.le_of_ble_eq_true rfl) (Nat.le_of_ble_eq_true rfl) ?_
  rw [← hQ, hAe]
  have hP := zsubP (wc := []) hP [] rfl
  have hD := hD.sub (ws' := []) [] (by decide) rfl
  exact W.iret (v := 0) hx hb hr (fun zt ht hW => ⟨⟨0, (), rfl, rfl, by rw [ht]; exact hP, hD, by rw [ht]; exact hz0⟩, hS.F ht⟩) hS.2.2 dX16_clear__11

set_option maxHeartbeats 4000000 in
set_option maxRecDepth 100000 in
theorem c_X16_drop_out (l : Launch) (dC : Nat → ClassId) (dI : Nat → Nat → Nat) (aC : Nat → ClassId) (h0 d : Nat) (x : Int32) (sz : Nat) (hxm : ¬ zok x = true) : Met l yX16_drop w_X16_drop ({ frames := 2, cells := 0, slots := 0, locals := 44 }) (zPre (dC, dI) aC [(h0, .inr (15, [.ref (d + 0), .int 0, .ref (d + 1), .int 0, .ref (d + 2), .ref (d + 3), .ref (d + 68), .ref (d + 77), .ref (d + 78), .int 0, .int 0, .ref (d + 79), .int 0, .int 0, .int 0, .ref (d + 80), .int 0, .int 0, .int 0, .int 0, .ref (d + 81), .ref (d + 82), .int (-1), .ref (d + 91), .int 0, .int 0, .ref (d + 92), .int 0, .ref (d + 93), .int 0, .ref (d + 94), .int 0, .ref (d + 95), .ref (d + 96), .ref (d + 97), .ref (d + 98), .int 0, .int 0, .ref (d + 99), .null, .null, .null, .null, .null, .ref (d + 148), .ref (d + 175), .ref (d + 176), .ref (d + 177), .int 0, .ref (d + 178), .ref (d + 179), .ref (d + 180), .ref (d + 185), .ref (d + 190), .ref (d + 191), .ref (d + 192), .ref (d + 193), .ref (d + 201), .ref (d + 209), .ref (d + 210), .ref (d + 211), .ref (d + 272), .ref (d + 273), .int 0, .ref (d + 274)])), (d + 81, .inl (aC 6, 12, .inr (.inr (.inr (.inr (zrefs (fun i => d + (7485 + 9 * i)) 12))))))] sz [.ref h0, .int x]) (va_Qi (fun (r : Int32) (_ : Unit) => r = -1) (fun _ zt => zt.heap.size = sz) (zN sz)) 0 0 (zN sz) := by
  refine Met.ofW (cc := cX16_drop) (maxL := 3) (ret := (some .int)) (by decide) rfl ?_
  intro p e s m args below meth c s₁ B hml hv
  generalize hQ : MQ below _ _ s _ _ _ = QQ
  obtain ⟨rfl, hsz, hP, hK, hD0⟩ := hv
  have hx := B.exec
  have hb := B.bytes
  have hr := B.returns
  have hts := atoms_spec (ws := w_X16_drop) B.pre
  have hall := fun (w : Cond) (h : w ∈ zAll) => hts w (List.mem_cons_of_mem _ h)
  have hown : s.vm.findClass RX16 = some m.cls := findClass_of_methodNamed B.named
  have hlocks := B.notSynchronized
  subst hsz
  have hA : ∀ q : Nat, s.heap.size ≤ q → zN s.heap.size q := fun q h => h
  have hS : va_S (zN s.heap.size) s.heap s.heap [] := va_S.rf
  have hD := hD0
  have hl := lv_entry ([.ref h0, .int x]) (n := 3) (Nat.le_of_ble_eq_true rfl)
  rw [lg_entry_eq]
  generalize (lg_sl ([.ref h0, .int x]) ++ List.replicate (3 - (lg_sl ([.ref h0, .int x])).length) Slot.unset).toArray = ls at hl ⊢
  have hl : lv_has ls 3 [(0, .ref h0), (1, .int x)] := hl
  refine lv_iload_n hx hb dX16_drop_0 rfl (lv_at hl 1 rfl) ?_
  refine zro_i hS hA (va_runS (As := [.int x]) (rest := []) ⟨hx, hb, hml, hown, hall⟩ (c_X16_isSlot l dC dI aC x s.heap.size) (va_cwS 1 hall (zgS zw_434 zw_436 zw_812 g_X16_isSlot) rfl rfl rfl (by decide +kernel) ⟨Nat.le_of_ble_eq_true rfl, Nat.le_of_ble_eq_true rfl⟩) (zPre_S (As := [.int x]) hK hP hD [] rfl (by decide +kernel)) rfl rfl hl.1 rfl (lv_room (Nat.le_of_ble_eq_true rfl)) dX16_drop_1 ⟨Nat.le_of_ble_eq_true rfl, Nat.le_of_ble_eq_true rfl⟩) (fun r70008 L70009 hw hS' => ?_)
  clear hS
  have hS := hS'
  clear hS'
  obtain rfl : r70008 = 0 := hw.trans (zisl_0 hxm)
  try clear hw
  refine lv_if_ne (tgt := 9) hx hb dX16_drop_4 (by decide) (fun c_4_b70010 => absurd (by decide) c_4_b70010) (fun _ => ?_)
  refine lv_iconst (v := (-1)) hx hb dX16_drop_7 (by decide) ?_
  rw [← hQ]
  exact W.iret (v := (-1)) hx hb hr (fun zt ht hW => ⟨⟨(-1), (), rfl, rfl, (show zt.heap.size = s.heap.size by rw [ht])⟩, hS.F ht⟩) hS.2.2 dX16_drop_8

set_option maxHeartbeats 4000000 in
set_option maxRecDepth 100000 in
theorem c_X16_drop_in (l : Launch) (dC : Nat → ClassId) (dI : Nat → Nat → Nat) (aC : Nat → ClassId) (h0 d a : Nat) (x : Int32) (sz : Nat) (hxm : zok x = true) (ha : a = d + (7485 + 9 * x.toNatClampNeg)) : Met l yX16_drop w_X16_drop ({ frames := 2, cells := 0, slots := 0, locals := 44 }) (zPre (dC, dI) aC [(h0, .inr (15, [.ref (d + 0), .int 0, .ref (d + 1), .int 0, .ref (d + 2), .ref (d + 3), .ref (d + 68), .ref (d + 77), .ref (d + 78), .int 0, .int 0, .ref (d + 79), .int 0, .int 0, .int 0, .ref (d + 80), .int 0, .int 0, .int 0, .int 0, .ref (d + 81), .ref (d + 82), .int (-1), .ref (d + 91), .int 0, .int 0, .ref (d + 92), .int 0, .ref (d + 93), .int 0, .ref (d + 94), .int 0, .ref (d + 95), .ref (d + 96), .ref (d + 97), .ref (d + 98), .int 0, .int 0, .ref (d + 99), .null, .null, .null, .null, .null, .ref (d + 148), .ref (d + 175), .ref (d + 176), .ref (d + 177), .int 0, .ref (d + 178), .ref (d + 179), .ref (d + 180), .ref (d + 185), .ref (d + 190), .ref (d + 191), .ref (d + 192), .ref (d + 193), .ref (d + 201), .ref (d + 209), .ref (d + 210), .ref (d + 211), .ref (d + 272), .ref (d + 273), .int 0, .ref (d + 274)])), (d + 81, .inl (aC 6, 12, .inr (.inr (.inr (.inr (zrefs (fun i => d + (7485 + 9 * i)) 12)))))), (a, .inr (13, [.int 0, .ref (a + 1 + 0), .ref (a + 1 + 1), .int 0, .int 0, .int 0, .ref (a + 1 + 2), .ref (a + 1 + 3), .ref (a + 1 + 4), .ref (a + 1 + 5), .int 0, .ref (a + 1 + 6), .int 0, .int 0, .ref (a + 1 + 7)]))] sz [.ref h0, .int x]) (va_Qi (fun (r : Int32) (u : Unit) => r = 0) (fun u zt => zB (dC, dI) [] (va_A [(h0, .inr (15, [.ref (d + 0), .int 0, .ref (d + 1), .int 0, .ref (d + 2), .ref (d + 3), .ref (d + 68), .ref (d + 77), .ref (d + 78), .int 0, .int 0, .ref (d + 79), .int 0, .int 0, .int 0, .ref (d + 80), .int 0, .int 0, .int 0, .int 0, .ref (d + 81), .ref (d + 82), .int (-1), .ref (d + 91), .int 0, .int 0, .ref (d + 92), .int 0, .ref (d + 93), .int 0, .ref (d + 94), .int 0, .ref (d + 95), .ref (d + 96), .ref (d + 97), .ref (d + 98), .int 0, .int 0, .ref (d + 99), .null, .null, .null, .null, .null, .ref (d + 148), .ref (d + 175), .ref (d + 176), .ref (d + 177), .int 0, .ref (d + 178), .ref (d + 179), .ref (d + 180), .ref (d + 185), .ref (d + 190), .ref (d + 191), .ref (d + 192), .ref (d + 193), .ref (d + 201), .ref (d + 209), .ref (d + 210), .ref (d + 211), .ref (d + 272), .ref (d + 273), .int 0, .ref (d + 274)])), (d + 81, .inl (aC 6, 12, .inr (.inr (.inr (.inr (zrefs (fun i => d + (7485 + 9 * i)) 12)))))), (a, .inr (13, [.int 0, .ref (a + 1 + 0), .ref (a + 1 + 1), .int 0, .int 0, .int 0, .ref (a + 1 + 2), .ref (a + 1 + 3), .ref (a + 1 + 4), .ref (a + 1 + 5), .int 0, .ref (a + 1 + 6), .int 0, .int 0, .ref (a + 1 + 7)]))] sz) (sz + 0) zt) (va_A [(h0, .inr (15, [.ref (d + 0), .int 0, .ref (d + 1), .int 0, .ref (d + 2), .ref (d + 3), .ref (d + 68), .ref (d + 77), .ref (d + 78), .int 0, .int 0, .ref (d + 79), .int 0, .int 0, .int 0, .ref (d + 80), .int 0, .int 0, .int 0, .int 0, .ref (d + 81), .ref (d + 82), .int (-1), .ref (d + 91), .int 0, .int 0, .ref (d + 92), .int 0, .ref (d + 93), .int 0, .ref (d + 94), .int 0, .ref (d + 95), .ref (d + 96), .ref (d + 97), .ref (d + 98), .int 0, .int 0, .ref (d + 99), .null, .null, .null, .null, .null, .ref (d + 148), .ref (d + 175), .ref (d + 176), .ref (d + 177), .int 0, .ref (d + 178), .ref (d + 179), .ref (d + 180), .ref (d + 185), .ref (d + 190), .ref (d + 191), .ref (d + 192), .ref (d + 193), .ref (d + 201), .ref (d + 209), .ref (d + 210), .ref (d + 211), .ref (d + 272), .ref (d + 273), .int 0, .ref (d + 274)])), (d + 81, .inl (aC 6, 12, .inr (.inr (.inr (.inr (zrefs (fun i => d + (7485 + 9 * i)) 12)))))), (a, .inr (13, [.int 0, .ref (a + 1 + 0), .ref (a + 1 + 1), .int 0, .int 0, .int 0, .ref (a + 1 + 2), .ref (a + 1 + 3), .ref (a + 1 + 4), .ref (a + 1 + 5), .int 0, .ref (a + 1 + 6), .int 0, .int 0, .ref (a + 1 + 7)]))] sz)) 0 0 (va_A [(h0, .inr (15, [.ref (d + 0), .int 0, .ref (d + 1), .int 0, .ref (d + 2), .ref (d + 3), .ref (d + 68), .ref (d + 77), .ref (d + 78), .int 0, .int 0, .ref (d + 79), .int 0, .int 0, .int 0, .ref (d + 80), .int 0, .int 0, .int 0, .int 0, .ref (d + 81), .ref (d + 82), .int (-1), .ref (d + 91), .int 0, .int 0, .ref (d + 92), .int 0, .ref (d + 93), .int 0, .ref (d + 94), .int 0, .ref (d + 95), .ref (d + 96), .ref (d + 97), .ref (d + 98), .int 0, .int 0, .ref (d + 99), .null, .null, .null, .null, .null, .ref (d + 148), .ref (d + 175), .ref (d + 176), .ref (d + 177), .int 0, .ref (d + 178), .ref (d + 179), .ref (d + 180), .ref (d + 185), .ref (d + 190), .ref (d + 191), .ref (d + 192), .ref (d + 193), .ref (d + 201), .ref (d + 209), .ref (d + 210), .ref (d + 211), .ref (d + 272), .ref (d + 273), .int 0, .ref (d + 274)])), (d + 81, .inl (aC 6, 12, .inr (.inr (.inr (.inr (zrefs (fun i => d + (7485 + 9 * i)) 12)))))), (a, .inr (13, [.int 0, .ref (a + 1 + 0), .ref (a + 1 + 1), .int 0, .int 0, .int 0, .ref (a + 1 + 2), .ref (a + 1 + 3), .ref (a + 1 + 4), .ref (a + 1 + 5), .int 0, .ref (a + 1 + 6), .int 0, .int 0, .ref (a + 1 + 7)]))] sz) := by
  refine Met.ofW (cc := cX16_drop) (maxL := 3) (ret := (some .int)) (by decide) rfl ?_
  intro p e s m args below meth c s₁ B hml hv
  generalize hQ : MQ below _ _ s _ _ _ = QQ
  obtain ⟨rfl, hsz, hP, hK, hD0⟩ := hv
  have hx := B.exec
  have hb := B.bytes
  have hr := B.returns
  have hts := atoms_spec (ws := w_X16_drop) B.pre
  have hall := fun (w : Cond) (h : w ∈ zAll) => hts w (List.mem_cons_of_mem _ h)
  have hown : s.vm.findClass RX16 = some m.cls := findClass_of_methodNamed B.named
  have hlocks := B.notSynchronized
  subst hsz
  have hD := hD0.self (sz := s.heap.size)
  generalize hAe : va_A [(h0, .inr (15, [.ref (d + 0), .int 0, .ref (d + 1), .int 0, .ref (d + 2), .ref (d + 3), .ref (d + 68), .ref (d + 77), .ref (d + 78), .int 0, .int 0, .ref (d + 79), .int 0, .int 0, .int 0, .ref (d + 80), .int 0, .int 0, .int 0, .int 0, .ref (d + 81), .ref (d + 82), .int (-1), .ref (d + 91), .int 0, .int 0, .ref (d + 92), .int 0, .ref (d + 93), .int 0, .ref (d + 94), .int 0, .ref (d + 95), .ref (d + 96), .ref (d + 97), .ref (d + 98), .int 0, .int 0, .ref (d + 99), .null, .null, .null, .null, .null, .ref (d + 148), .ref (d + 175), .ref (d + 176), .ref (d + 177), .int 0, .ref (d + 178), .ref (d + 179), .ref (d + 180), .ref (d + 185), .ref (d + 190), .ref (d + 191), .ref (d + 192), .ref (d + 193), .ref (d + 201), .ref (d + 209), .ref (d + 210), .ref (d + 211), .ref (d + 272), .ref (d + 273), .int 0, .ref (d + 274)])), (d + 81, .inl (aC 6, 12, .inr (.inr (.inr (.inr (zrefs (fun i => d + (7485 + 9 * i)) 12)))))), (a, .inr (13, [.int 0, .ref (a + 1 + 0), .ref (a + 1 + 1), .int 0, .int 0, .int 0, .ref (a + 1 + 2), .ref (a + 1 + 3), .ref (a + 1 + 4), .ref (a + 1 + 5), .int 0, .ref (a + 1 + 6), .int 0, .int 0, .ref (a + 1 + 7)]))] s.heap.size = A at hD ⊢
  have hA : ∀ q : Nat, s.heap.size ≤ q → A q := fun q h => by rw [← hAe]; exact Or.inr h
  have hS : va_S A s.heap s.heap [] := va_S.rf
  have hz0 : s.heap.size = s.heap.size + 0 := rfl
  have hl := lv_entry ([.ref h0, .int x]) (n := 3) (Nat.le_of_ble_eq_true rfl)
  rw [lg_entry_eq]
  generalize (lg_sl ([.ref h0, .int x]) ++ List.replicate (3 - (lg_sl ([.ref h0, .int x])).length) Slot.unset).toArray = ls at hl ⊢
  have hl : lv_has ls 3 [(0, .ref h0), (1, .int x)] := hl
  refine lv_iload_n hx hb dX16_drop_0 rfl (lv_at hl 1 rfl) ?_
  refine zro_i hS hA (va_runS (As := [.int x]) (rest := []) ⟨hx, hb, hml, hown, hall⟩ (c_X16_isSlot l dC dI aC x s.heap.size) (va_cwS 1 hall (zgS zw_434 zw_436 zw_812 g_X16_isSlot) rfl rfl rfl (by decide +kernel) ⟨Nat.le_of_ble_eq_true rfl, Nat.le_of_ble_eq_true rfl⟩) (zPre_S (As := [.int x]) hK hP hD [] rfl (by decide +kernel)) rfl rfl hl.1 rfl (lv_room (Nat.le_of_ble_eq_true rfl)) dX16_drop_1 ⟨Nat.le_of_ble_eq_true rfl, Nat.le_of_ble_eq_true rfl⟩) (fun r70011 L70012 hw hS' => ?_)
  clear hS
  have hS := hS'
  clear hS'
  obtain rfl : r70011 = 1 := hw.trans (zisl_1 hxm)
  try clear hw
  refine lv_if_ne (tgt := 9) hx hb dX16_drop_4 (by decide) (fun _ => ?_) (fun c_4_b70013 => absurd c_4_b70013 (by decide))
  refine lv_aload_n hx hb dX16_drop_9 rfl (lv_at hl 0 rfl) ?_
  refine va_get (D := (dC, dI)) (ci := 15) (v := .ref (d + 81)) (C := RX16) (T := TX16) (N := 65) hx hb hall zx_16 hown hK.1 hP 0 rfl rfl 20 (by decide) (hall _ zw_336) (fun _ h9 => h9) rfl dX16_drop_10 ?_
  show W p l e _ s m _ below meth c _ _ _ _ QQ (F0 m 13 ls [.ref (d + 81)])
  refine lv_iload_n hx hb dX16_drop_13 rfl (lv_at hl 1 rfl) ?_
  refine zaldr hx hb hK.1 hP 1 6 rfl rfl (zok_in hxm) (zrefs_in (zok_in hxm)) dX16_drop_14 ?_
  rw [← ha]
  refine va_get (D := (dC, dI)) (ci := 13) (v := .int 0) (C := RX14) (T := TX14) (N := 15) hx hb hall zx_14 hown hK.1 hP 2 rfl rfl 0 (by decide) (hall _ zw_402) (fun _ h9 => h9) rfl dX16_drop_15 ?_
  refine lv_istore_n (lv' := [(2, .int 0), (0, .ref h0), (1, .int x)]) hx hb dX16_drop_18 rfl hl (by decide) rfl (fun ls70014 hl' => ?_)
  clear hl
  have hl : lv_has ls70014 3 [(2, .int 0), (0, .ref h0), (1, .int x)] := hl'
  clear hl'
  refine lv_aload_n hx hb dX16_drop_19 rfl (lv_at hl 1 rfl) ?_
  show W p l e _ s m _ below meth c _ _ _ _ QQ (F0 m 20 ls70014 [.ref h0])
  refine va_get (D := (dC, dI)) (ci := 15) (v := .ref (d + 81)) (C := RX16) (T := TX16) (N := 65) hx hb hall zx_16 hown hK.1 hP 0 rfl rfl 20 (by decide) (hall _ zw_336) (fun _ h9 => h9) rfl dX16_drop_20 ?_
  refine lv_iload_n hx hb dX16_drop_23 rfl (lv_at hl 2 rfl) ?_
  refine zaldr hx hb hK.1 hP 1 6 rfl rfl (zok_in hxm) (zrefs_in (zok_in hxm)) dX16_drop_24 ?_
  rw [← ha]
  refine lv_iconst (v := 0) hx hb dX16_drop_25 (by decide) ?_
  refine zput (D := (dC, dI)) (ci := 13) (v := .int 0) (ty := .int) (C := RX14) (T := TX14) (N := 15) hx hb hall zx_14 tyX14 tyX14_ok nmX14 hown hK.1 hP hD hS 2 rfl rfl 0 (by decide) (hall _ zw_402) (fun _ h9 => h9) rfl (by decide +kernel) rfl rfl (Nat.le_of_ble_eq_true rfl) dX16_drop_26 (fun H70015 L70016 hB hP' hD' hS' => ?_)
  replace hz0 : H70015.size = s.heap.size + 0 := hB.1.trans hz0
  clear hP hD hS hB
  have hP : va_P (dC, dI) vwCl [(h0, .inr (15, [.ref (d + 0), .int 0, .ref (d + 1), .int 0, .ref (d + 2), .ref (d + 3), .ref (d + 68), .ref (d + 77), .ref (d + 78), .int 0, .int 0, .ref (d + 79), .int 0, .int 0, .int 0, .ref (d + 80), .int 0, .int 0, .int 0, .int 0, .ref (d + 81), .ref (d + 82), .int (-1), .ref (d + 91), .int 0, .int 0, .ref (d + 92), .int 0, .ref (d + 93), .int 0, .ref (d + 94), .int 0, .ref (d + 95), .ref (d + 96), .ref (d + 97), .ref (d + 98), .int 0, .int 0, .ref (d + 99), .null, .null, .null, .null, .null, .ref (d + 148), .ref (d + 175), .ref (d + 176), .ref (d + 177), .int 0, .ref (d + 178), .ref (d + 179), .ref (d + 180), .ref (d + 185), .ref (d + 190), .ref (d + 191), .ref (d + 192), .ref (d + 193), .ref (d + 201), .ref (d + 209), .ref (d + 210), .ref (d + 211), .ref (d + 272), .ref (d + 273), .int 0, .ref (d + 274)])), (d + 81, .inl (aC 6, 12, .inr (.inr (.inr (.inr (zrefs (fun i => d + (7485 + 9 * i)) 12)))))), (a, .inr (13, [.int 0, .ref (a + 1 + 0), .ref (a + 1 + 1), .int 0, .int 0, .int 0, .ref (a + 1 + 2), .ref (a + 1 + 3), .ref (a + 1 + 4), .ref (a + 1 + 5), .int 0, .ref (a + 1 + 6), .int 0, .int 0, .ref (a + 1 + 7)]))] H70015 := hP'
  have hD : va_D A [(h0, .inr (15, [.ref (d + 0), .int 0, .ref (d + 1), .int 0, .ref (d + 2), .ref (d + 3), .ref (d + 68), .ref (d + 77), .ref (d + 78), .int 0, .int 0, .ref (d + 79), .int 0, .int 0, .int 0, .ref (d + 80), .int 0, .int 0, .int 0, .int 0, .ref (d + 81), .ref (d + 82), .int (-1), .ref (d + 91), .int 0, .int 0, .ref (d + 92), .int 0, .ref (d + 93), .int 0, .ref (d + 94), .int 0, .ref (d + 95), .ref (d + 96), .ref (d + 97), .ref (d + 98), .int 0, .int 0, .ref (d + 99), .null, .null, .null, .null, .null, .ref (d + 148), .ref (d + 175), .ref (d + 176), .ref (d + 177), .int 0, .ref (d + 178), .ref (d + 179), .ref (d + 180), .ref (d + 185), .ref (d + 190), .ref (d + 191), .ref (d + 192), .ref (d + 193), .ref (d + 201), .ref (d + 209), .ref (d + 210), .ref (d + 211), .ref (d + 272), .ref (d + 273), .int 0, .ref (d + 274)])), (d + 81, .inl (aC 6, 12, .inr (.inr (.inr (.inr (zrefs (fun i => d + (7485 + 9 * i)) 12)))))), (a, .inr (13, [.int 0, .ref (a + 1 + 0), .ref (a + 1 + 1), .int 0, .int 0, .int 0, .ref (a + 1 + 2), .ref (a + 1 + 3), .ref (a + 1 + 4), .ref (a + 1 + 5), .int 0, .ref (a + 1 + 6), .int 0, .int 0, .ref (a + 1 + 7)]))] := hD'
  have hS : va_S A s.heap H70015 L70016 := hS'
  clear hP' hD' hS'
  show W p l e _ s m _ below meth c _ _ _ _ QQ (F0 m 29 ls70014 [])
  refine lv_iload_n hx hb dX16_drop_29 rfl (lv_at hl 0 rfl) ?_
  refine W.widen (k := 0) (n := 0) (Nat.le_of_ble_eq_true rfl) (Nat.le_of_ble_eq_true rfl) ?_
  rw [← hQ, hAe]
  have hP := zsubP (wc := []) hP [] rfl
  have hD := hD.sub (ws' := []) [] (by decide) rfl
  exact W.iret (v := 0) hx hb hr (fun zt ht hW => ⟨⟨0, (), rfl, rfl, by rw [ht]; exact hP, hD, by rw [ht]; exact hz0⟩, hS.F ht⟩) hS.2.2 dX16_drop_30

set_option maxHeartbeats 4000000 in
set_option maxRecDepth 100000 in
theorem c_X16_rest (l : Launch) (dC : Nat → ClassId) (dI : Nat → Nat → Nat) (aC : Nat → ClassId)  (x : Int32) (sz : Nat) : Met l yX16_rest w_X16_rest ({ frames := 1, cells := 0, slots := 0, locals := 24 }) (zPre (dC, dI) aC [] sz [.int x]) (va_Qi (fun (r : Int32) (_ : Unit) => True) (fun _ zt => zt.heap.size = sz) (zN sz)) 0 0 (zN sz) := by
  refine Met.ofW (cc := cX16_rest) (maxL := 2) (ret := (some .int)) (by decide) rfl ?_
  intro p e s m args below meth c s₁ B hml hv
  generalize hQ : MQ below _ _ s _ _ _ = QQ
  obtain ⟨rfl, hsz, hP, hK, hD0⟩ := hv
  have hx := B.exec
  have hb := B.bytes
  have hr := B.returns
  have hts := atoms_spec (ws := w_X16_rest) B.pre
  have hall := fun (w : Cond) (h : w ∈ zAll) => hts w (List.mem_cons_of_mem _ h)
  have hown : s.vm.findClass RX16 = some m.cls := findClass_of_methodNamed B.named
  have hlocks := B.notSynchronized
  subst hsz
  have hA : ∀ q : Nat, s.heap.size ≤ q → zN s.heap.size q := fun q h => h
  have hS : va_S (zN s.heap.size) s.heap s.heap [] := va_S.rf
  have hD := hD0
  have hl := lv_entry ([.int x]) (n := 2) (Nat.le_of_ble_eq_true rfl)
  rw [lg_entry_eq]
  generalize (lg_sl ([.int x]) ++ List.replicate (2 - (lg_sl ([.int x])).length) Slot.unset).toArray = ls at hl ⊢
  have hl : lv_has ls 2 [(0, .int x)] := hl
  refine lv_iload_n hx hb dX16_rest_0 rfl (lv_at hl 0 rfl) ?_
  refine lv_ldc hx hb hown (hall _ zw_433) dX16_rest_1 ?_
  refine lv_irem hx hb dX16_rest_3 (by decide) ?_
  refine lv_topi (fun y70017 ey70017 => ?_)
  clear ey70017
  refine lv_istore_n (lv' := [(1, .int y70017), (0, .int x)]) hx hb dX16_rest_4 rfl hl (by decide) rfl (fun ls70018 hl' => ?_)
  clear hl
  have hl : lv_has ls70018 2 [(1, .int y70017), (0, .int x)] := hl'
  clear hl'
  refine lv_iload_n hx hb dX16_rest_5 rfl (lv_at hl 0 rfl) ?_
  refine lv_if_ge (tgt := 16) hx hb dX16_rest_6 (by decide) (fun c_6_b70019 => ?_) (fun c_6_b70019 => ?_)
  · refine lv_iload_n hx hb dX16_rest_16 rfl (lv_at hl 0 rfl) ?_
    rw [← hQ]
    exact W.iret (v := y70017) hx hb hr (fun zt ht hW => ⟨⟨y70017, (), rfl, trivial, (show zt.heap.size = s.heap.size by rw [ht])⟩, hS.F ht⟩) hS.2.2 dX16_rest_17
  · refine lv_iload_n hx hb dX16_rest_9 rfl (lv_at hl 0 rfl) ?_
    show W p l e _ s m _ below meth c _ _ _ _ QQ (F0 m 10 ls70018 [.int y70017])
    refine lv_ldc hx hb hown (hall _ zw_433) dX16_rest_10 ?_
    refine lv_iadd hx hb dX16_rest_12 ?_
    refine lv_goto (tgt := 17) hx hb dX16_rest_13 (by decide) ?_
    rw [← hQ]
    exact W.iret (v := y70017 + 2147483647) hx hb hr (fun zt ht hW => ⟨⟨y70017 + 2147483647, (), rfl, trivial, (show zt.heap.size = s.heap.size by rw [ht])⟩, hS.F ht⟩) hS.2.2 dX16_rest_17

set_option maxHeartbeats 4000000 in
set_option maxRecDepth 100000 in
theorem c_X16_feed (l : Launch) (dC : Nat → ClassId) (dI : Nat → Nat → Nat) (aC : Nat → ClassId) (h0 d : Nat) (x : Int32) (sz : Nat) : Met l yX16_feed w_X16_feed ({ frames := 2, cells := 0, slots := 0, locals := 45 }) (zPre (dC, dI) aC [(h0, .inr (15, [.ref (d + 0), .int 0, .ref (d + 1), .int 0, .ref (d + 2), .ref (d + 3), .ref (d + 68), .ref (d + 77), .ref (d + 78), .int 0, .int 0, .ref (d + 79), .int 0, .int 0, .int 0, .ref (d + 80), .int 0, .int 0, .int 0, .int 0, .ref (d + 81), .ref (d + 82), .int (-1), .ref (d + 91), .int 0, .int 0, .ref (d + 92), .int 0, .ref (d + 93), .int 0, .ref (d + 94), .int 0, .ref (d + 95), .ref (d + 96), .ref (d + 97), .ref (d + 98), .int 0, .int 0, .ref (d + 99), .null, .null, .null, .null, .null, .ref (d + 148), .ref (d + 175), .ref (d + 176), .ref (d + 177), .int 0, .ref (d + 178), .ref (d + 179), .ref (d + 180), .ref (d + 185), .ref (d + 190), .ref (d + 191), .ref (d + 192), .ref (d + 193), .ref (d + 201), .ref (d + 209), .ref (d + 210), .ref (d + 211), .ref (d + 272), .ref (d + 273), .int 0, .ref (d + 274)])), (d + 93, .inl (aC 0, 60, .inl (fun _ => 0)))] sz [.ref h0, .int x]) (va_Qi (fun (r : Int32) (u : Unit) => r = 1) (fun u zt => zB (dC, dI) [] (va_A [(h0, .inr (15, [.ref (d + 0), .int 0, .ref (d + 1), .int 0, .ref (d + 2), .ref (d + 3), .ref (d + 68), .ref (d + 77), .ref (d + 78), .int 0, .int 0, .ref (d + 79), .int 0, .int 0, .int 0, .ref (d + 80), .int 0, .int 0, .int 0, .int 0, .ref (d + 81), .ref (d + 82), .int (-1), .ref (d + 91), .int 0, .int 0, .ref (d + 92), .int 0, .ref (d + 93), .int 0, .ref (d + 94), .int 0, .ref (d + 95), .ref (d + 96), .ref (d + 97), .ref (d + 98), .int 0, .int 0, .ref (d + 99), .null, .null, .null, .null, .null, .ref (d + 148), .ref (d + 175), .ref (d + 176), .ref (d + 177), .int 0, .ref (d + 178), .ref (d + 179), .ref (d + 180), .ref (d + 185), .ref (d + 190), .ref (d + 191), .ref (d + 192), .ref (d + 193), .ref (d + 201), .ref (d + 209), .ref (d + 210), .ref (d + 211), .ref (d + 272), .ref (d + 273), .int 0, .ref (d + 274)])), (d + 93, .inl (aC 0, 60, .inl (fun _ => 0)))] sz) (sz + 0) zt) (va_A [(h0, .inr (15, [.ref (d + 0), .int 0, .ref (d + 1), .int 0, .ref (d + 2), .ref (d + 3), .ref (d + 68), .ref (d + 77), .ref (d + 78), .int 0, .int 0, .ref (d + 79), .int 0, .int 0, .int 0, .ref (d + 80), .int 0, .int 0, .int 0, .int 0, .ref (d + 81), .ref (d + 82), .int (-1), .ref (d + 91), .int 0, .int 0, .ref (d + 92), .int 0, .ref (d + 93), .int 0, .ref (d + 94), .int 0, .ref (d + 95), .ref (d + 96), .ref (d + 97), .ref (d + 98), .int 0, .int 0, .ref (d + 99), .null, .null, .null, .null, .null, .ref (d + 148), .ref (d + 175), .ref (d + 176), .ref (d + 177), .int 0, .ref (d + 178), .ref (d + 179), .ref (d + 180), .ref (d + 185), .ref (d + 190), .ref (d + 191), .ref (d + 192), .ref (d + 193), .ref (d + 201), .ref (d + 209), .ref (d + 210), .ref (d + 211), .ref (d + 272), .ref (d + 273), .int 0, .ref (d + 274)])), (d + 93, .inl (aC 0, 60, .inl (fun _ => 0)))] sz)) 0 0 (va_A [(h0, .inr (15, [.ref (d + 0), .int 0, .ref (d + 1), .int 0, .ref (d + 2), .ref (d + 3), .ref (d + 68), .ref (d + 77), .ref (d + 78), .int 0, .int 0, .ref (d + 79), .int 0, .int 0, .int 0, .ref (d + 80), .int 0, .int 0, .int 0, .int 0, .ref (d + 81), .ref (d + 82), .int (-1), .ref (d + 91), .int 0, .int 0, .ref (d + 92), .int 0, .ref (d + 93), .int 0, .ref (d + 94), .int 0, .ref (d + 95), .ref (d + 96), .ref (d + 97), .ref (d + 98), .int 0, .int 0, .ref (d + 99), .null, .null, .null, .null, .null, .ref (d + 148), .ref (d + 175), .ref (d + 176), .ref (d + 177), .int 0, .ref (d + 178), .ref (d + 179), .ref (d + 180), .ref (d + 185), .ref (d + 190), .ref (d + 191), .ref (d + 192), .ref (d + 193), .ref (d + 201), .ref (d + 209), .ref (d + 210), .ref (d + 211), .ref (d + 272), .ref (d + 273), .int 0, .ref (d + 274)])), (d + 93, .inl (aC 0, 60, .inl (fun _ => 0)))] sz) := by
  refine Met.ofW (cc := cX16_feed) (maxL := 2) (ret := (some .int)) (by decide) rfl ?_
  intro p e s m args below meth c s₁ B hml hv
  generalize hQ : MQ below _ _ s _ _ _ = QQ
  obtain ⟨rfl, hsz, hP, hK, hD0⟩ := hv
  have hx := B.exec
  have hb := B.bytes
  have hr := B.returns
  have hts := atoms_spec (ws := w_X16_feed) B.pre
  have hall := fun (w : Cond) (h : w ∈ zAll) => hts w (List.mem_cons_of_mem _ h)
  have hown : s.vm.findClass RX16 = some m.cls := findClass_of_methodNamed B.named
  have hlocks := B.notSynchronized
  subst hsz
  have hD := hD0.self (sz := s.heap.size)
  generalize hAe : va_A [(h0, .inr (15, [.ref (d + 0), .int 0, .ref (d + 1), .int 0, .ref (d + 2), .ref (d + 3), .ref (d + 68), .ref (d + 77), .ref (d + 78), .int 0, .int 0, .ref (d + 79), .int 0, .int 0, .int 0, .ref (d + 80), .int 0, .int 0, .int 0, .int 0, .ref (d + 81), .ref (d + 82), .int (-1), .ref (d + 91), .int 0, .int 0, .ref (d + 92), .int 0, .ref (d + 93), .int 0, .ref (d + 94), .int 0, .ref (d + 95), .ref (d + 96), .ref (d + 97), .ref (d + 98), .int 0, .int 0, .ref (d + 99), .null, .null, .null, .null, .null, .ref (d + 148), .ref (d + 175), .ref (d + 176), .ref (d + 177), .int 0, .ref (d + 178), .ref (d + 179), .ref (d + 180), .ref (d + 185), .ref (d + 190), .ref (d + 191), .ref (d + 192), .ref (d + 193), .ref (d + 201), .ref (d + 209), .ref (d + 210), .ref (d + 211), .ref (d + 272), .ref (d + 273), .int 0, .ref (d + 274)])), (d + 93, .inl (aC 0, 60, .inl (fun _ => 0)))] s.heap.size = A at hD ⊢
  have hA : ∀ q : Nat, s.heap.size ≤ q → A q := fun q h => by rw [← hAe]; exact Or.inr h
  have hS : va_S A s.heap s.heap [] := va_S.rf
  have hz0 : s.heap.size = s.heap.size + 0 := rfl
  have hl := lv_entry ([.ref h0, .int x]) (n := 2) (Nat.le_of_ble_eq_true rfl)
  rw [lg_entry_eq]
  generalize (lg_sl ([.ref h0, .int x]) ++ List.replicate (2 - (lg_sl ([.ref h0, .int x])).length) Slot.unset).toArray = ls at hl ⊢
  have hl : lv_has ls 2 [(0, .ref h0), (1, .int x)] := hl
  refine lv_aload_n hx hb dX16_feed_0 rfl (lv_at hl 0 rfl) ?_
  refine va_get (D := (dC, dI)) (ci := 15) (v := .int 0) (C := RX16) (T := TX16) (N := 65) hx hb hall zx_16 hown hK.1 hP 0 rfl rfl 29 (by decide) (hall _ zw_483) (fun _ h9 => h9) rfl dX16_feed_1 ?_
  refine lv_bipush (v := 60) hx hb dX16_feed_4 (by decide) ?_
  refine lv_icmp_ne (tgt := 12) hx hb dX16_feed_6 (by decide) (fun _ => ?_) (fun c_6_b70020 => absurd c_6_b70020 (by decide))
  refine lv_aload_n hx hb dX16_feed_12 rfl (lv_at hl 0 rfl) ?_
  show W p l e _ s m _ below meth c _ _ _ _ QQ (F0 m 13 ls [.ref h0])
  refine va_get (D := (dC, dI)) (ci := 15) (v := .ref (d + 93)) (C := RX16) (T := TX16) (N := 65) hx hb hall zx_16 hown hK.1 hP 0 rfl rfl 28 (by decide) (hall _ zw_341) (fun _ h9 => h9) rfl dX16_feed_13 ?_
  refine lv_aload_n hx hb dX16_feed_16 rfl (lv_at hl 0 rfl) ?_
  refine lv_dup hx hb dX16_feed_17 rfl ?_
  refine va_get (D := (dC, dI)) (ci := 15) (v := .int 0) (C := RX16) (T := TX16) (N := 65) hx hb hall zx_16 hown hK.1 hP 0 rfl rfl 29 (by decide) (hall _ zw_483) (fun _ h9 => h9) rfl dX16_feed_18 ?_
  refine lv_dup_x1 hx hb dX16_feed_21 rfl rfl ?_
  show W p l e _ s m _ below meth c _ _ _ _ QQ (F0 m 22 ls [.int 0, .ref h0, .int 0, .ref (d + 93)])
  refine lv_iconst (v := 1) hx hb dX16_feed_22 (by decide) ?_
  refine lv_iadd hx hb dX16_feed_23 ?_
  refine lv_topi (fun y70021 ey70021 => ?_)
  obtain rfl : y70021 = 1 := by rw [ey70021]; decide
  try clear ey70021
  refine zput (D := (dC, dI)) (ci := 15) (v := .int 1) (ty := .int) (C := RX16) (T := TX16) (N := 65) hx hb hall zx_16 tyX16 tyX16_ok nmX16 hown hK.1 hP hD hS 0 rfl rfl 29 (by decide) (hall _ zw_483) (fun _ h9 => h9) rfl (by decide +kernel) rfl rfl (Nat.le_of_ble_eq_true rfl) dX16_feed_24 (fun H70022 L70023 hB hP' hD' hS' => ?_)
  replace hz0 : H70022.size = s.heap.size + 0 := hB.1.trans hz0
  clear hP hD hS hB
  have hP : va_P (dC, dI) vwCl [(h0, .inr (15, [.ref (d + 0), .int 0, .ref (d + 1), .int 0, .ref (d + 2), .ref (d + 3), .ref (d + 68), .ref (d + 77), .ref (d + 78), .int 0, .int 0, .ref (d + 79), .int 0, .int 0, .int 0, .ref (d + 80), .int 0, .int 0, .int 0, .int 0, .ref (d + 81), .ref (d + 82), .int (-1), .ref (d + 91), .int 0, .int 0, .ref (d + 92), .int 0, .ref (d + 93), .int 1, .ref (d + 94), .int 0, .ref (d + 95), .ref (d + 96), .ref (d + 97), .ref (d + 98), .int 0, .int 0, .ref (d + 99), .null, .null, .null, .null, .null, .ref (d + 148), .ref (d + 175), .ref (d + 176), .ref (d + 177), .int 0, .ref (d + 178), .ref (d + 179), .ref (d + 180), .ref (d + 185), .ref (d + 190), .ref (d + 191), .ref (d + 192), .ref (d + 193), .ref (d + 201), .ref (d + 209), .ref (d + 210), .ref (d + 211), .ref (d + 272), .ref (d + 273), .int 0, .ref (d + 274)])), (d + 93, .inl (aC 0, 60, .inl (fun _ => 0)))] H70022 := hP'
  have hD : va_D A [(h0, .inr (15, [.ref (d + 0), .int 0, .ref (d + 1), .int 0, .ref (d + 2), .ref (d + 3), .ref (d + 68), .ref (d + 77), .ref (d + 78), .int 0, .int 0, .ref (d + 79), .int 0, .int 0, .int 0, .ref (d + 80), .int 0, .int 0, .int 0, .int 0, .ref (d + 81), .ref (d + 82), .int (-1), .ref (d + 91), .int 0, .int 0, .ref (d + 92), .int 0, .ref (d + 93), .int 1, .ref (d + 94), .int 0, .ref (d + 95), .ref (d + 96), .ref (d + 97), .ref (d + 98), .int 0, .int 0, .ref (d + 99), .null, .null, .null, .null, .null, .ref (d + 148), .ref (d + 175), .ref (d + 176), .ref (d + 177), .int 0, .ref (d + 178), .ref (d + 179), .ref (d + 180), .ref (d + 185), .ref (d + 190), .ref (d + 191), .ref (d + 192), .ref (d + 193), .ref (d + 201), .ref (d + 209), .ref (d + 210), .ref (d + 211), .ref (d + 272), .ref (d + 273), .int 0, .ref (d + 274)])), (d + 93, .inl (aC 0, 60, .inl (fun _ => 0)))] := hD'
  have hS : va_S A s.heap H70022 L70023 := hS'
  clear hP' hD' hS'
  refine lv_iload_n hx hb dX16_feed_27 rfl (lv_at hl 1 rfl) ?_
  refine zro_i hS hA (va_runS (As := [.int x]) (rest := [.int 0, .ref (d + 93)]) ⟨hx, hb, hml, hown, hall⟩ (c_X16_rest l dC dI aC x H70022.size) (va_cwS 1 hall (zgS zw_465 zw_467 zw_812 g_X16_rest) rfl rfl rfl (by decide +kernel) ⟨Nat.le_of_ble_eq_true rfl, Nat.le_of_ble_eq_true rfl⟩) (zPre_S (As := [.int x]) hK hP hD [] rfl (by decide +kernel)) rfl rfl hl.1 rfl (lv_room (Nat.le_of_ble_eq_true rfl)) dX16_feed_28 ⟨Nat.le_of_ble_eq_true rfl, Nat.le_of_ble_eq_true rfl⟩) (fun r70024 L70025 hw hS' => ?_)
  clear hS
  have hS := hS'
  clear hS'
  show W p l e _ s m _ below meth c _ _ _ _ QQ (F0 m 31 ls [.int r70024, .int 0, .ref (d + 93)])
  refine ziast hx hb hK.1 hP hD hS 1 0 rfl rfl (zvp (by decide)) dX16_feed_31 (fun H70026 L70027 hB hP' hD' hS' => ?_)
  replace hz0 : H70026.size = s.heap.size + 0 := hB.1.trans hz0
  clear hP hD hS hB
  have hP : va_P (dC, dI) vwCl [(h0, .inr (15, [.ref (d + 0), .int 0, .ref (d + 1), .int 0, .ref (d + 2), .ref (d + 3), .ref (d + 68), .ref (d + 77), .ref (d + 78), .int 0, .int 0, .ref (d + 79), .int 0, .int 0, .int 0, .ref (d + 80), .int 0, .int 0, .int 0, .int 0, .ref (d + 81), .ref (d + 82), .int (-1), .ref (d + 91), .int 0, .int 0, .ref (d + 92), .int 0, .ref (d + 93), .int 1, .ref (d + 94), .int 0, .ref (d + 95), .ref (d + 96), .ref (d + 97), .ref (d + 98), .int 0, .int 0, .ref (d + 99), .null, .null, .null, .null, .null, .ref (d + 148), .ref (d + 175), .ref (d + 176), .ref (d + 177), .int 0, .ref (d + 178), .ref (d + 179), .ref (d + 180), .ref (d + 185), .ref (d + 190), .ref (d + 191), .ref (d + 192), .ref (d + 193), .ref (d + 201), .ref (d + 209), .ref (d + 210), .ref (d + 211), .ref (d + 272), .ref (d + 273), .int 0, .ref (d + 274)])), (d + 93, .inl (aC 0, 60, .inl (upd (fun _ => 0) (0 : Int32).toNatClampNeg r70024)))] H70026 := hP'
  have hD : va_D A [(h0, .inr (15, [.ref (d + 0), .int 0, .ref (d + 1), .int 0, .ref (d + 2), .ref (d + 3), .ref (d + 68), .ref (d + 77), .ref (d + 78), .int 0, .int 0, .ref (d + 79), .int 0, .int 0, .int 0, .ref (d + 80), .int 0, .int 0, .int 0, .int 0, .ref (d + 81), .ref (d + 82), .int (-1), .ref (d + 91), .int 0, .int 0, .ref (d + 92), .int 0, .ref (d + 93), .int 1, .ref (d + 94), .int 0, .ref (d + 95), .ref (d + 96), .ref (d + 97), .ref (d + 98), .int 0, .int 0, .ref (d + 99), .null, .null, .null, .null, .null, .ref (d + 148), .ref (d + 175), .ref (d + 176), .ref (d + 177), .int 0, .ref (d + 178), .ref (d + 179), .ref (d + 180), .ref (d + 185), .ref (d + 190), .ref (d + 191), .ref (d + 192), .ref (d + 193), .ref (d + 201), .ref (d + 209), .ref (d + 210), .ref (d + 211), .ref (d + 272), .ref (d + 273), .int 0, .ref (d + 274)])), (d + 93, .inl (aC 0, 60, .inl (upd (fun _ => 0) (0 : Int32).toNatClampNeg r70024)))] := hD'
  have hS : va_S A s.heap H70026 L70027 := hS'
  clear hP' hD' hS'
  clear L70025 H70022
  refine lv_aload_n hx hb dX16_feed_32 rfl (lv_at hl 0 rfl) ?_
  refine va_get (D := (dC, dI)) (ci := 15) (v := .int 1) (C := RX16) (T := TX16) (N := 65) hx hb hall zx_16 hown hK.1 hP 0 rfl rfl 29 (by decide) (hall _ zw_483) (fun _ h9 => h9) rfl dX16_feed_33 ?_
  refine W.widen (k := 0) (n := 0) (Nat.le_of_ble_eq_true rfl) (Nat.le_of_ble_eq_true rfl) ?_
  rw [← hQ, hAe]
  have hP := zsubP (wc := []) hP [] rfl
  have hD := hD.sub (ws' := []) [] (by decide) rfl
  exact W.iret (v := 1) hx hb hr (fun zt ht hW => ⟨⟨1, (), rfl, rfl, by rw [ht]; exact hP, hD, by rw [ht]; exact hz0⟩, hS.F ht⟩) hS.2.2 dX16_feed_36

set_option maxHeartbeats 4000000 in
set_option maxRecDepth 100000 in
theorem c_X16_guess_out (l : Launch) (dC : Nat → ClassId) (dI : Nat → Nat → Nat) (aC : Nat → ClassId) (h0 d : Nat) (x : Int32) (sz : Nat) (hxm : ¬ zok x = true) : Met l yX16_guess w_X16_guess ({ frames := 2, cells := 0, slots := 0, locals := 44 }) (zPre (dC, dI) aC [(h0, .inr (15, [.ref (d + 0), .int 0, .ref (d + 1), .int 0, .ref (d + 2), .ref (d + 3), .ref (d + 68), .ref (d + 77), .ref (d + 78), .int 0, .int 0, .ref (d + 79), .int 0, .int 0, .int 0, .ref (d + 80), .int 0, .int 0, .int 0, .int 0, .ref (d + 81), .ref (d + 82), .int (-1), .ref (d + 91), .int 0, .int 0, .ref (d + 92), .int 0, .ref (d + 93), .int 0, .ref (d + 94), .int 0, .ref (d + 95), .ref (d + 96), .ref (d + 97), .ref (d + 98), .int 0, .int 0, .ref (d + 99), .null, .null, .null, .null, .null, .ref (d + 148), .ref (d + 175), .ref (d + 176), .ref (d + 177), .int 0, .ref (d + 178), .ref (d + 179), .ref (d + 180), .ref (d + 185), .ref (d + 190), .ref (d + 191), .ref (d + 192), .ref (d + 193), .ref (d + 201), .ref (d + 209), .ref (d + 210), .ref (d + 211), .ref (d + 272), .ref (d + 273), .int 0, .ref (d + 274)])), (d + 81, .inl (aC 6, 12, .inr (.inr (.inr (.inr (zrefs (fun i => d + (7485 + 9 * i)) 12))))))] sz [.ref h0, .int x]) (va_Qi (fun (r : Int32) (_ : Unit) => r = -1) (fun _ zt => zt.heap.size = sz) (zN sz)) 0 0 (zN sz) := by
  refine Met.ofW (cc := cX16_guess) (maxL := 4) (ret := (some .int)) (by decide) rfl ?_
  intro p e s m args below meth c s₁ B hml hv
  generalize hQ : MQ below _ _ s _ _ _ = QQ
  obtain ⟨rfl, hsz, hP, hK, hD0⟩ := hv
  have hx := B.exec
  have hb := B.bytes
  have hr := B.returns
  have hts := atoms_spec (ws := w_X16_guess) B.pre
  have hall := fun (w : Cond) (h : w ∈ zAll) => hts w (List.mem_cons_of_mem _ h)
  have hown : s.vm.findClass RX16 = some m.cls := findClass_of_methodNamed B.named
  have hlocks := B.notSynchronized
  subst hsz
  have hA : ∀ q : Nat, s.heap.size ≤ q → zN s.heap.size q := fun q h => h
  have hS : va_S (zN s.heap.size) s.heap s.heap [] := va_S.rf
  have hD := hD0
  have hl := lv_entry ([.ref h0, .int x]) (n := 4) (Nat.le_of_ble_eq_true rfl)
  rw [lg_entry_eq]
  generalize (lg_sl ([.ref h0, .int x]) ++ List.replicate (4 - (lg_sl ([.ref h0, .int x])).length) Slot.unset).toArray = ls at hl ⊢
  have hl : lv_has ls 4 [(0, .ref h0), (1, .int x)] := hl
  refine lv_iload_n hx hb dX16_guess_0 rfl (lv_at hl 1 rfl) ?_
  refine zro_i hS hA (va_runS (As := [.int x]) (rest := []) ⟨hx, hb, hml, hown, hall⟩ (c_X16_isSlot l dC dI aC x s.heap.size) (va_cwS 1 hall (zgS zw_434 zw_436 zw_812 g_X16_isSlot) rfl rfl rfl (by decide +kernel) ⟨Nat.le_of_ble_eq_true rfl, Nat.le_of_ble_eq_true rfl⟩) (zPre_S (As := [.int x]) hK hP hD [] rfl (by decide +kernel)) rfl rfl hl.1 rfl (lv_room (Nat.le_of_ble_eq_true rfl)) dX16_guess_1 ⟨Nat.le_of_ble_eq_true rfl, Nat.le_of_ble_eq_true rfl⟩) (fun r70028 L70029 hw hS' => ?_)
  clear hS
  have hS := hS'
  clear hS'
  obtain rfl : r70028 = 0 := hw.trans (zisl_0 hxm)
  try clear hw
  refine lv_if_ne (tgt := 9) hx hb dX16_guess_4 (by decide) (fun c_4_b70030 => absurd (by decide) c_4_b70030) (fun _ => ?_)
  refine lv_iconst (v := (-1)) hx hb dX16_guess_7 (by decide) ?_
  rw [← hQ]
  exact W.iret (v := (-1)) hx hb hr (fun zt ht hW => ⟨⟨(-1), (), rfl, rfl, (show zt.heap.size = s.heap.size by rw [ht])⟩, hS.F ht⟩) hS.2.2 dX16_guess_8

set_option maxHeartbeats 4000000 in
set_option maxRecDepth 100000 in
theorem c_X16_guess_in (l : Launch) (dC : Nat → ClassId) (dI : Nat → Nat → Nat) (aC : Nat → ClassId) (h0 d a : Nat) (x : Int32) (sz : Nat) (hxm : zok x = true) (ha : a = d + (7485 + 9 * x.toNatClampNeg)) : Met l yX16_guess w_X16_guess ({ frames := 2, cells := 0, slots := 0, locals := 44 }) (zPre (dC, dI) aC [(h0, .inr (15, [.ref (d + 0), .int 0, .ref (d + 1), .int 0, .ref (d + 2), .ref (d + 3), .ref (d + 68), .ref (d + 77), .ref (d + 78), .int 0, .int 0, .ref (d + 79), .int 0, .int 0, .int 0, .ref (d + 80), .int 0, .int 0, .int 0, .int 0, .ref (d + 81), .ref (d + 82), .int (-1), .ref (d + 91), .int 0, .int 0, .ref (d + 92), .int 0, .ref (d + 93), .int 0, .ref (d + 94), .int 0, .ref (d + 95), .ref (d + 96), .ref (d + 97), .ref (d + 98), .int 0, .int 0, .ref (d + 99), .null, .null, .null, .null, .null, .ref (d + 148), .ref (d + 175), .ref (d + 176), .ref (d + 177), .int 0, .ref (d + 178), .ref (d + 179), .ref (d + 180), .ref (d + 185), .ref (d + 190), .ref (d + 191), .ref (d + 192), .ref (d + 193), .ref (d + 201), .ref (d + 209), .ref (d + 210), .ref (d + 211), .ref (d + 272), .ref (d + 273), .int 0, .ref (d + 274)])), (d + 81, .inl (aC 6, 12, .inr (.inr (.inr (.inr (zrefs (fun i => d + (7485 + 9 * i)) 12)))))), (a, .inr (13, [.int 0, .ref (a + 1 + 0), .ref (a + 1 + 1), .int 0, .int 0, .int 0, .ref (a + 1 + 2), .ref (a + 1 + 3), .ref (a + 1 + 4), .ref (a + 1 + 5), .int 0, .ref (a + 1 + 6), .int 0, .int 0, .ref (a + 1 + 7)]))] sz [.ref h0, .int x]) (va_Qi (fun (r : Int32) (u : Unit) => r = -1) (fun u zt => zB (dC, dI) [] (va_A [(h0, .inr (15, [.ref (d + 0), .int 0, .ref (d + 1), .int 0, .ref (d + 2), .ref (d + 3), .ref (d + 68), .ref (d + 77), .ref (d + 78), .int 0, .int 0, .ref (d + 79), .int 0, .int 0, .int 0, .ref (d + 80), .int 0, .int 0, .int 0, .int 0, .ref (d + 81), .ref (d + 82), .int (-1), .ref (d + 91), .int 0, .int 0, .ref (d + 92), .int 0, .ref (d + 93), .int 0, .ref (d + 94), .int 0, .ref (d + 95), .ref (d + 96), .ref (d + 97), .ref (d + 98), .int 0, .int 0, .ref (d + 99), .null, .null, .null, .null, .null, .ref (d + 148), .ref (d + 175), .ref (d + 176), .ref (d + 177), .int 0, .ref (d + 178), .ref (d + 179), .ref (d + 180), .ref (d + 185), .ref (d + 190), .ref (d + 191), .ref (d + 192), .ref (d + 193), .ref (d + 201), .ref (d + 209), .ref (d + 210), .ref (d + 211), .ref (d + 272), .ref (d + 273), .int 0, .ref (d + 274)])), (d + 81, .inl (aC 6, 12, .inr (.inr (.inr (.inr (zrefs (fun i => d + (7485 + 9 * i)) 12)))))), (a, .inr (13, [.int 0, .ref (a + 1 + 0), .ref (a + 1 + 1), .int 0, .int 0, .int 0, .ref (a + 1 + 2), .ref (a + 1 + 3), .ref (a + 1 + 4), .ref (a + 1 + 5), .int 0, .ref (a + 1 + 6), .int 0, .int 0, .ref (a + 1 + 7)]))] sz) (sz + 0) zt) (va_A [(h0, .inr (15, [.ref (d + 0), .int 0, .ref (d + 1), .int 0, .ref (d + 2), .ref (d + 3), .ref (d + 68), .ref (d + 77), .ref (d + 78), .int 0, .int 0, .ref (d + 79), .int 0, .int 0, .int 0, .ref (d + 80), .int 0, .int 0, .int 0, .int 0, .ref (d + 81), .ref (d + 82), .int (-1), .ref (d + 91), .int 0, .int 0, .ref (d + 92), .int 0, .ref (d + 93), .int 0, .ref (d + 94), .int 0, .ref (d + 95), .ref (d + 96), .ref (d + 97), .ref (d + 98), .int 0, .int 0, .ref (d + 99), .null, .null, .null, .null, .null, .ref (d + 148), .ref (d + 175), .ref (d + 176), .ref (d + 177), .int 0, .ref (d + 178), .ref (d + 179), .ref (d + 180), .ref (d + 185), .ref (d + 190), .ref (d + 191), .ref (d + 192), .ref (d + 193), .ref (d + 201), .ref (d + 209), .ref (d + 210), .ref (d + 211), .ref (d + 272), .ref (d + 273), .int 0, .ref (d + 274)])), (d + 81, .inl (aC 6, 12, .inr (.inr (.inr (.inr (zrefs (fun i => d + (7485 + 9 * i)) 12)))))), (a, .inr (13, [.int 0, .ref (a + 1 + 0), .ref (a + 1 + 1), .int 0, .int 0, .int 0, .ref (a + 1 + 2), .ref (a + 1 + 3), .ref (a + 1 + 4), .ref (a + 1 + 5), .int 0, .ref (a + 1 + 6), .int 0, .int 0, .ref (a + 1 + 7)]))] sz)) 0 0 (va_A [(h0, .inr (15, [.ref (d + 0), .int 0, .ref (d + 1), .int 0, .ref (d + 2), .ref (d + 3), .ref (d + 68), .ref (d + 77), .ref (d + 78), .int 0, .int 0, .ref (d + 79), .int 0, .int 0, .int 0, .ref (d + 80), .int 0, .int 0, .int 0, .int 0, .ref (d + 81), .ref (d + 82), .int (-1), .ref (d + 91), .int 0, .int 0, .ref (d + 92), .int 0, .ref (d + 93), .int 0, .ref (d + 94), .int 0, .ref (d + 95), .ref (d + 96), .ref (d + 97), .ref (d + 98), .int 0, .int 0, .ref (d + 99), .null, .null, .null, .null, .null, .ref (d + 148), .ref (d + 175), .ref (d + 176), .ref (d + 177), .int 0, .ref (d + 178), .ref (d + 179), .ref (d + 180), .ref (d + 185), .ref (d + 190), .ref (d + 191), .ref (d + 192), .ref (d + 193), .ref (d + 201), .ref (d + 209), .ref (d + 210), .ref (d + 211), .ref (d + 272), .ref (d + 273), .int 0, .ref (d + 274)])), (d + 81, .inl (aC 6, 12, .inr (.inr (.inr (.inr (zrefs (fun i => d + (7485 + 9 * i)) 12)))))), (a, .inr (13, [.int 0, .ref (a + 1 + 0), .ref (a + 1 + 1), .int 0, .int 0, .int 0, .ref (a + 1 + 2), .ref (a + 1 + 3), .ref (a + 1 + 4), .ref (a + 1 + 5), .int 0, .ref (a + 1 + 6), .int 0, .int 0, .ref (a + 1 + 7)]))] sz) := by
  refine Met.ofW (cc := cX16_guess) (maxL := 4) (ret := (some .int)) (by decide) rfl ?_
  intro p e s m args below meth c s₁ B hml hv
  generalize hQ : MQ below _ _ s _ _ _ = QQ
  obtain ⟨rfl, hsz, hP, hK, hD0⟩ := hv
  have hx := B.exec
  have hb := B.bytes
  have hr := B.returns
  have hts := atoms_spec (ws := w_X16_guess) B.pre
  have hall := fun (w : Cond) (h : w ∈ zAll) => hts w (List.mem_cons_of_mem _ h)
  have hown : s.vm.findClass RX16 = some m.cls := findClass_of_methodNamed B.named
  have hlocks := B.notSynchronized
  subst hsz
  have hD := hD0.self (sz := s.heap.size)
  generalize hAe : va_A [(h0, .inr (15, [.ref (d + 0), .int 0, .ref (d + 1), .int 0, .ref (d + 2), .ref (d + 3), .ref (d + 68), .ref (d + 77), .ref (d + 78), .int 0, .int 0, .ref (d + 79), .int 0, .int 0, .int 0, .ref (d + 80), .int 0, .int 0, .int 0, .int 0, .ref (d + 81), .ref (d + 82), .int (-1), .ref (d + 91), .int 0, .int 0, .ref (d + 92), .int 0, .ref (d + 93), .int 0, .ref (d + 94), .int 0, .ref (d + 95), .ref (d + 96), .ref (d + 97), .ref (d + 98), .int 0, .int 0, .ref (d + 99), .null, .null, .null, .null, .null, .ref (d + 148), .ref (d + 175), .ref (d + 176), .ref (d + 177), .int 0, .ref (d + 178), .ref (d + 179), .ref (d + 180), .ref (d + 185), .ref (d + 190), .ref (d + 191), .ref (d + 192), .ref (d + 193), .ref (d + 201), .ref (d + 209), .ref (d + 210), .ref (d + 211), .ref (d + 272), .ref (d + 273), .int 0, .ref (d + 274)])), (d + 81, .inl (aC 6, 12, .inr (.inr (.inr (.inr (zrefs (fun i => d + (7485 + 9 * i)) 12)))))), (a, .inr (13, [.int 0, .ref (a + 1 + 0), .ref (a + 1 + 1), .int 0, .int 0, .int 0, .ref (a + 1 + 2), .ref (a + 1 + 3), .ref (a + 1 + 4), .ref (a + 1 + 5), .int 0, .ref (a + 1 + 6), .int 0, .int 0, .ref (a + 1 + 7)]))] s.heap.size = A at hD ⊢
  have hA : ∀ q : Nat, s.heap.size ≤ q → A q := fun q h => by rw [← hAe]; exact Or.inr h
  have hS : va_S A s.heap s.heap [] := va_S.rf
  have hz0 : s.heap.size = s.heap.size + 0 := rfl
  have hl := lv_entry ([.ref h0, .int x]) (n := 4) (Nat.le_of_ble_eq_true rfl)
  rw [lg_entry_eq]
  generalize (lg_sl ([.ref h0, .int x]) ++ List.replicate (4 - (lg_sl ([.ref h0, .int x])).length) Slot.unset).toArray = ls at hl ⊢
  have hl : lv_has ls 4 [(0, .ref h0), (1, .int x)] := hl
  refine lv_iload_n hx hb dX16_guess_0 rfl (lv_at hl 1 rfl) ?_
  refine zro_i hS hA (va_runS (As := [.int x]) (rest := []) ⟨hx, hb, hml, hown, hall⟩ (c_X16_isSlot l dC dI aC x s.heap.size) (va_cwS 1 hall (zgS zw_434 zw_436 zw_812 g_X16_isSlot) rfl rfl rfl (by decide +kernel) ⟨Nat.le_of_ble_eq_true rfl, Nat.le_of_ble_eq_true rfl⟩) (zPre_S (As := [.int x]) hK hP hD [] rfl (by decide +kernel)) rfl rfl hl.1 rfl (lv_room (Nat.le_of_ble_eq_true rfl)) dX16_guess_1 ⟨Nat.le_of_ble_eq_true rfl, Nat.le_of_ble_eq_true rfl⟩) (fun r70031 L70032 hw hS' => ?_)
  clear hS
  have hS := hS'
  clear hS'
  obtain rfl : r70031 = 1 := hw.trans (zisl_1 hxm)
  try clear hw
  refine lv_if_ne (tgt := 9) hx hb dX16_guess_4 (by decide) (fun _ => ?_) (fun c_4_b70033 => absurd c_4_b70033 (by decide))
  refine lv_aload_n hx hb dX16_guess_9 rfl (lv_at hl 0 rfl) ?_
  refine zrw_v (k := 0) (wr := [(d + 81, .inl (aC 6, 12, .inr (.inr (.inr (.inr (zrefs (fun i => d + (7485 + 9 * i)) 12)))))), (a, .inr (13, [.int 0, .ref (a + 1 + 0), .ref (a + 1 + 1), .int 0, .int 0, .int 0, .ref (a + 1 + 2), .ref (a + 1 + 3), .ref (a + 1 + 4), .ref (a + 1 + 5), .int 0, .ref (a + 1 + 6), .int 0, .int 0, .ref (a + 1 + 7)]))]) (wc := [(h0, .inr (15, [.ref (d + 0), .int 0, .ref (d + 1), .int 0, .ref (d + 2), .ref (d + 3), .ref (d + 68), .ref (d + 77), .ref (d + 78), .int 0, .int 0, .ref (d + 79), .int 0, .int 0, .int 0, .ref (d + 80), .int 0, .int 0, .int 0, .int 0, .ref (d + 81), .ref (d + 82), .int (-1), .ref (d + 91), .int 0, .int 0, .ref (d + 92), .int 0, .ref (d + 93), .int 0, .ref (d + 94), .int 0, .ref (d + 95), .ref (d + 96), .ref (d + 97), .ref (d + 98), .int 0, .int 0, .ref (d + 99), .null, .null, .null, .null, .null, .ref (d + 148), .ref (d + 175), .ref (d + 176), .ref (d + 177), .int 0, .ref (d + 178), .ref (d + 179), .ref (d + 180), .ref (d + 185), .ref (d + 190), .ref (d + 191), .ref (d + 192), .ref (d + 193), .ref (d + 201), .ref (d + 209), .ref (d + 210), .ref (d + 211), .ref (d + 272), .ref (d + 273), .int 0, .ref (d + 274)]))]) (w1 := fun _ => [(h0, .inr (15, [.ref (d + 0), .int 0, .ref (d + 1), .int 0, .ref (d + 2), .ref (d + 3), .ref (d + 68), .ref (d + 77), .ref (d + 78), .int 0, .int 0, .ref (d + 79), .int 0, .int 0, .int 0, .ref (d + 80), .int 0, .int 0, .int 0, .int 0, .ref (d + 81), .ref (d + 82), .int (-1), .ref (d + 91), .int 0, .int 0, .ref (d + 92), .int 0, .ref (d + 93), .int 0, .ref (d + 94), .int 0, .ref (d + 95), .ref (d + 96), .ref (d + 97), .ref (d + 98), .int 0, .int 0, .ref (d + 99), .null, .null, .null, .null, .null, .ref (d + 148), .ref (d + 175), .ref (d + 176), .ref (d + 177), .int 0, .ref (d + 178), .ref (d + 179), .ref (d + 180), .ref (d + 185), .ref (d + 190), .ref (d + 191), .ref (d + 192), .ref (d + 193), .ref (d + 201), .ref (d + 209), .ref (d + 210), .ref (d + 211), .ref (d + 272), .ref (d + 273), .int 0, .ref (d + 274)]))]) hP hD hS hA [0] [1, 2] rfl rfl (by decide +kernel) (by decide +kernel) (va_runV (As := []) (rest := []) ⟨hx, hb, hml, hown, hall⟩ (c_X16_begin l dC dI aC h0 d s.heap.size) (cwV 0 hall (zgV zw_437 zw_439 zw_440 zw_812 g_X16_begin rfl) rfl rfl rfl (by decide +kernel) ⟨Nat.le_of_ble_eq_true rfl, Nat.le_of_ble_eq_true rfl⟩) (zPre_V (As := []) hK hP hD [0] rfl (by decide +kernel) (ci := 15) (q0 := 0) rfl rfl) rfl rfl hl.1 rfl (lv_room (Nat.le_of_ble_eq_true rfl)) dX16_guess_10 ⟨Nat.le_of_ble_eq_true rfl, Nat.le_of_ble_eq_true rfl⟩) (fun u H70035 L70036 hw hz hk hP' hD' hS' => ?_)
  try rw [hz0] at hP'
  try rw [hz0] at hD'
  rw [hz0] at hz
  replace hz0 : H70035.size = s.heap.size + 0 := by omega
  clear hz
  clear hP hD hS hk
  have hP : va_P (dC, dI) vwCl [(d + 81, .inl (aC 6, 12, .inr (.inr (.inr (.inr (zrefs (fun i => d + (7485 + 9 * i)) 12)))))), (a, .inr (13, [.int 0, .ref (a + 1 + 0), .ref (a + 1 + 1), .int 0, .int 0, .int 0, .ref (a + 1 + 2), .ref (a + 1 + 3), .ref (a + 1 + 4), .ref (a + 1 + 5), .int 0, .ref (a + 1 + 6), .int 0, .int 0, .ref (a + 1 + 7)])), (h0, .inr (15, [.ref (d + 0), .int 0, .ref (d + 1), .int 0, .ref (d + 2), .ref (d + 3), .ref (d + 68), .ref (d + 77), .ref (d + 78), .int 0, .int 0, .ref (d + 79), .int 0, .int 0, .int 0, .ref (d + 80), .int 0, .int 0, .int 0, .int 0, .ref (d + 81), .ref (d + 82), .int (-1), .ref (d + 91), .int 0, .int 0, .ref (d + 92), .int 0, .ref (d + 93), .int 0, .ref (d + 94), .int 0, .ref (d + 95), .ref (d + 96), .ref (d + 97), .ref (d + 98), .int 0, .int 0, .ref (d + 99), .null, .null, .null, .null, .null, .ref (d + 148), .ref (d + 175), .ref (d + 176), .ref (d + 177), .int 0, .ref (d + 178), .ref (d + 179), .ref (d + 180), .ref (d + 185), .ref (d + 190), .ref (d + 191), .ref (d + 192), .ref (d + 193), .ref (d + 201), .ref (d + 209), .ref (d + 210), .ref (d + 211), .ref (d + 272), .ref (d + 273), .int 0, .ref (d + 274)]))] H70035 := hP'
  have hD : va_D A [(d + 81, .inl (aC 6, 12, .inr (.inr (.inr (.inr (zrefs (fun i => d + (7485 + 9 * i)) 12)))))), (a, .inr (13, [.int 0, .ref (a + 1 + 0), .ref (a + 1 + 1), .int 0, .int 0, .int 0, .ref (a + 1 + 2), .ref (a + 1 + 3), .ref (a + 1 + 4), .ref (a + 1 + 5), .int 0, .ref (a + 1 + 6), .int 0, .int 0, .ref (a + 1 + 7)])), (h0, .inr (15, [.ref (d + 0), .int 0, .ref (d + 1), .int 0, .ref (d + 2), .ref (d + 3), .ref (d + 68), .ref (d + 77), .ref (d + 78), .int 0, .int 0, .ref (d + 79), .int 0, .int 0, .int 0, .ref (d + 80), .int 0, .int 0, .int 0, .int 0, .ref (d + 81), .ref (d + 82), .int (-1), .ref (d + 91), .int 0, .int 0, .ref (d + 92), .int 0, .ref (d + 93), .int 0, .ref (d + 94), .int 0, .ref (d + 95), .ref (d + 96), .ref (d + 97), .ref (d + 98), .int 0, .int 0, .ref (d + 99), .null, .null, .null, .null, .null, .ref (d + 148), .ref (d + 175), .ref (d + 176), .ref (d + 177), .int 0, .ref (d + 178), .ref (d + 179), .ref (d + 180), .ref (d + 185), .ref (d + 190), .ref (d + 191), .ref (d + 192), .ref (d + 193), .ref (d + 201), .ref (d + 209), .ref (d + 210), .ref (d + 211), .ref (d + 272), .ref (d + 273), .int 0, .ref (d + 274)]))] := hD'
  have hS : va_S A s.heap H70035 L70036 := hS'
  clear hP' hD' hS'
  show W p l e _ s m _ below meth c _ _ _ _ QQ (F0 m 13 ls [])
  refine lv_iconst (v := 1) hx hb dX16_guess_13 (by decide) ?_
  refine lv_istore_n (lv' := [(2, .int 1), (0, .ref h0), (1, .int x)]) hx hb dX16_guess_14 rfl hl (by decide) rfl (fun ls70037 hl' => ?_)
  clear hl
  have hl : lv_has ls70037 4 [(2, .int 1), (0, .ref h0), (1, .int x)] := hl'
  clear hl'
  refine lv_iload_n hx hb dX16_guess_15 rfl (lv_at hl 0 rfl) ?_
  refine lv_iconst (v := 4) hx hb dX16_guess_16 (by decide) ?_
  refine lv_icmp_gt (tgt := 75) hx hb dX16_guess_17 (by decide) (fun c_17_b70038 => absurd c_17_b70038 (by decide)) (fun _ => ?_)
  show W p l e _ s m _ below meth c _ _ _ _ QQ (F0 m 20 ls70037 [])
  refine lv_iconst (v := 0) hx hb dX16_guess_20 (by decide) ?_
  refine lv_istore_n (lv' := [(3, .int 0), (2, .int 1), (0, .ref h0), (1, .int x)]) hx hb dX16_guess_21 rfl hl (by decide) rfl (fun ls70039 hl' => ?_)
  clear hl
  have hl : lv_has ls70039 4 [(3, .int 0), (2, .int 1), (0, .ref h0), (1, .int x)] := hl'
  clear hl'
  refine lv_iload_n hx hb dX16_guess_22 rfl (lv_at hl 0 rfl) ?_
  refine lv_bipush (v := 8) hx hb dX16_guess_23 (by decide) ?_
  refine lv_icmp_gt (tgt := 69) hx hb dX16_guess_25 (by decide) (fun c_25_b70040 => absurd c_25_b70040 (by decide)) (fun _ => ?_)
  show W p l e _ s m _ below meth c _ _ _ _ QQ (F0 m 28 ls70039 [])
  refine lv_iload_n hx hb dX16_guess_28 rfl (lv_at hl 1 rfl) ?_
  refine lv_iconst (v := 1) hx hb dX16_guess_29 (by decide) ?_
  refine lv_iadd hx hb dX16_guess_30 ?_
  refine lv_topi (fun y70041 ey70041 => ?_)
  obtain rfl : y70041 = 2 := by rw [ey70041]; decide
  try clear ey70041
  refine lv_iload_n hx hb dX16_guess_31 rfl (lv_at hl 0 rfl) ?_
  refine lv_iconst (v := 1) hx hb dX16_guess_32 (by decide) ?_
  show W p l e _ s m _ below meth c _ _ _ _ QQ (F0 m 33 ls70039 [.int 1, .int 0, .int 2])
  refine lv_iadd hx hb dX16_guess_33 ?_
  refine lv_topi (fun y70042 ey70042 => ?_)
  obtain rfl : y70042 = 1 := by rw [ey70042]; decide
  try clear ey70042
  refine lv_imul hx hb dX16_guess_34 ?_
  refine lv_topi (fun y70043 ey70043 => ?_)
  obtain rfl : y70043 = 2 := by rw [ey70043]; decide
  try clear ey70043
  refine lv_iconst (v := 4) hx hb dX16_guess_35 (by decide) ?_
  refine lv_iadd hx hb dX16_guess_36 ?_
  refine lv_topi (fun y70044 ey70044 => ?_)
  obtain rfl : y70044 = 6 := by rw [ey70044]; decide
  try clear ey70044
  refine lv_aload_n hx hb dX16_guess_37 rfl (lv_at hl 2 rfl) ?_
  show W p l e _ s m _ below meth c _ _ _ _ QQ (F0 m 38 ls70039 [.ref h0, .int 6])
  refine va_get (D := (dC, dI)) (ci := 15) (v := .int 0) (C := RX16) (T := TX16) (N := 65) hx hb hall zx_16 hown hK.1 hP 2 rfl rfl 29 (by decide) (hall _ zw_483) (fun _ h9 => h9) rfl dX16_guess_38 ?_
  refine lv_iload_n hx hb dX16_guess_41 rfl (lv_at hl 1 rfl) ?_
  refine lv_isub hx hb dX16_guess_42 ?_
  refine lv_topi (fun y70045 ey70045 => ?_)
  obtain rfl : y70045 = (-1) := by rw [ey70045]; decide
  try clear ey70045
  refine lv_icmp_gt (tgt := 69) hx hb dX16_guess_43 (by decide) (fun _ => ?_) (fun c_43_b70046 => absurd (by decide) c_43_b70046)
  refine lv_iinc (v := 2) (lv' := [(2, .int 2), (3, .int 0), (0, .ref h0), (1, .int x)]) hx hb dX16_guess_69 hl (k := 1) rfl (by decide) (by decide) rfl (fun ls70047 hl' => ?_)
  clear hl
  have hl : lv_has ls70047 4 [(2, .int 2), (3, .int 0), (0, .ref h0), (1, .int x)] := hl'
  clear hl'
  refine lv_goto (tgt := 15) hx hb dX16_guess_72 (by decide) ?_
  show W p l e _ s m _ below meth c _ _ _ _ QQ (F0 m 15 ls70047 [])
  refine lv_iload_n hx hb dX16_guess_15 rfl (lv_at hl 0 rfl) ?_
  refine lv_iconst (v := 4) hx hb dX16_guess_16 (by decide) ?_
  refine lv_icmp_gt (tgt := 75) hx hb dX16_guess_17 (by decide) (fun c_17_b70048 => absurd c_17_b70048 (by decide)) (fun _ => ?_)
  refine lv_iconst (v := 0) hx hb dX16_guess_20 (by decide) ?_
  refine lv_istore_n (lv' := [(3, .int 0), (2, .int 2), (0, .ref h0), (1, .int x)]) hx hb dX16_guess_21 rfl hl (by decide) rfl (fun ls70049 hl' => ?_)
  clear hl
  have hl : lv_has ls70049 4 [(3, .int 0), (2, .int 2), (0, .ref h0), (1, .int x)] := hl'
  clear hl'
  show W p l e _ s m _ below meth c _ _ _ _ QQ (F0 m 22 ls70049 [])
  refine lv_iload_n hx hb dX16_guess_22 rfl (lv_at hl 0 rfl) ?_
  refine lv_bipush (v := 8) hx hb dX16_guess_23 (by decide) ?_
  refine lv_icmp_gt (tgt := 69) hx hb dX16_guess_25 (by decide) (fun c_25_b70050 => absurd c_25_b70050 (by decide)) (fun _ => ?_)
  refine lv_iload_n hx hb dX16_guess_28 rfl (lv_at hl 1 rfl) ?_
  refine lv_iconst (v := 1) hx hb dX16_guess_29 (by decide) ?_
  show W p l e _ s m _ below meth c _ _ _ _ QQ (F0 m 30 ls70049 [.int 1, .int 2])
  refine lv_iadd hx hb dX16_guess_30 ?_
  refine lv_topi (fun y70051 ey70051 => ?_)
  obtain rfl : y70051 = 3 := by rw [ey70051]; decide
  try clear ey70051
  refine lv_iload_n hx hb dX16_guess_31 rfl (lv_at hl 0 rfl) ?_
  refine lv_iconst (v := 1) hx hb dX16_guess_32 (by decide) ?_
  refine lv_iadd hx hb dX16_guess_33 ?_
  refine lv_topi (fun y70052 ey70052 => ?_)
  obtain rfl : y70052 = 1 := by rw [ey70052]; decide
  try clear ey70052
  refine lv_imul hx hb dX16_guess_34 ?_
  refine lv_topi (fun y70053 ey70053 => ?_)
  obtain rfl : y70053 = 3 := by rw [ey70053]; decide
  try clear ey70053
  show W p l e _ s m _ below meth c _ _ _ _ QQ (F0 m 35 ls70049 [.int 3])
  refine lv_iconst (v := 4) hx hb dX16_guess_35 (by decide) ?_
  refine lv_iadd hx hb dX16_guess_36 ?_
  refine lv_topi (fun y70054 ey70054 => ?_)
  obtain rfl : y70054 = 7 := by rw [ey70054]; decide
  try clear ey70054
  refine lv_aload_n hx hb dX16_guess_37 rfl (lv_at hl 2 rfl) ?_
  refine va_get (D := (dC, dI)) (ci := 15) (v := .int 0) (C := RX16) (T := TX16) (N := 65) hx hb hall zx_16 hown hK.1 hP 2 rfl rfl 29 (by decide) (hall _ zw_483) (fun _ h9 => h9) rfl dX16_guess_38 ?_
  refine lv_iload_n hx hb dX16_guess_41 rfl (lv_at hl 1 rfl) ?_
  show W p l e _ s m _ below meth c _ _ _ _ QQ (F0 m 42 ls70049 [.int 2, .int 0, .int 7])
  refine lv_isub hx hb dX16_guess_42 ?_
  refine lv_topi (fun y70055 ey70055 => ?_)
  obtain rfl : y70055 = (-2) := by rw [ey70055]; decide
  try clear ey70055
  refine lv_icmp_gt (tgt := 69) hx hb dX16_guess_43 (by decide) (fun _ => ?_) (fun c_43_b70056 => absurd (by decide) c_43_b70056)
  refine lv_iinc (v := 3) (lv' := [(2, .int 3), (3, .int 0), (0, .ref h0), (1, .int x)]) hx hb dX16_guess_69 hl (k := 1) rfl (by decide) (by decide) rfl (fun ls70057 hl' => ?_)
  clear hl
  have hl : lv_has ls70057 4 [(2, .int 3), (3, .int 0), (0, .ref h0), (1, .int x)] := hl'
  clear hl'
  refine lv_goto (tgt := 15) hx hb dX16_guess_72 (by decide) ?_
  refine lv_iload_n hx hb dX16_guess_15 rfl (lv_at hl 0 rfl) ?_
  show W p l e _ s m _ below meth c _ _ _ _ QQ (F0 m 16 ls70057 [.int 3])
  refine lv_iconst (v := 4) hx hb dX16_guess_16 (by decide) ?_
  refine lv_icmp_gt (tgt := 75) hx hb dX16_guess_17 (by decide) (fun c_17_b70058 => absurd c_17_b70058 (by decide)) (fun _ => ?_)
  refine lv_iconst (v := 0) hx hb dX16_guess_20 (by decide) ?_
  refine lv_istore_n (lv' := [(3, .int 0), (2, .int 3), (0, .ref h0), (1, .int x)]) hx hb dX16_guess_21 rfl hl (by decide) rfl (fun ls70059 hl' => ?_)
  clear hl
  have hl : lv_has ls70059 4 [(3, .int 0), (2, .int 3), (0, .ref h0), (1, .int x)] := hl'
  clear hl'
  refine lv_iload_n hx hb dX16_guess_22 rfl (lv_at hl 0 rfl) ?_
  show W p l e _ s m _ below meth c _ _ _ _ QQ (F0 m 23 ls70059 [.int 0])
  refine lv_bipush (v := 8) hx hb dX16_guess_23 (by decide) ?_
  refine lv_icmp_gt (tgt := 69) hx hb dX16_guess_25 (by decide) (fun c_25_b70060 => absurd c_25_b70060 (by decide)) (fun _ => ?_)
  refine lv_iload_n hx hb dX16_guess_28 rfl (lv_at hl 1 rfl) ?_
  refine lv_iconst (v := 1) hx hb dX16_guess_29 (by decide) ?_
  refine lv_iadd hx hb dX16_guess_30 ?_
  refine lv_topi (fun y70061 ey70061 => ?_)
  obtain rfl : y70061 = 4 := by rw [ey70061]; decide
  try clear ey70061
  show W p l e _ s m _ below meth c _ _ _ _ QQ (F0 m 31 ls70059 [.int 4])
  refine lv_iload_n hx hb dX16_guess_31 rfl (lv_at hl 0 rfl) ?_
  refine lv_iconst (v := 1) hx hb dX16_guess_32 (by decide) ?_
  refine lv_iadd hx hb dX16_guess_33 ?_
  refine lv_topi (fun y70062 ey70062 => ?_)
  obtain rfl : y70062 = 1 := by rw [ey70062]; decide
  try clear ey70062
  refine lv_imul hx hb dX16_guess_34 ?_
  refine lv_topi (fun y70063 ey70063 => ?_)
  obtain rfl : y70063 = 4 := by rw [ey70063]; decide
  try clear ey70063
  refine lv_iconst (v := 4) hx hb dX16_guess_35 (by decide) ?_
  show W p l e _ s m _ below meth c _ _ _ _ QQ (F0 m 36 ls70059 [.int 4, .int 4])
  refine lv_iadd hx hb dX16_guess_36 ?_
  refine lv_topi (fun y70064 ey70064 => ?_)
  obtain rfl : y70064 = 8 := by rw [ey70064]; decide
  try clear ey70064
  refine lv_aload_n hx hb dX16_guess_37 rfl (lv_at hl 2 rfl) ?_
  refine va_get (D := (dC, dI)) (ci := 15) (v := .int 0) (C := RX16) (T := TX16) (N := 65) hx hb hall zx_16 hown hK.1 hP 2 rfl rfl 29 (by decide) (hall _ zw_483) (fun _ h9 => h9) rfl dX16_guess_38 ?_
  refine lv_iload_n hx hb dX16_guess_41 rfl (lv_at hl 1 rfl) ?_
  refine lv_isub hx hb dX16_guess_42 ?_
  refine lv_topi (fun y70065 ey70065 => ?_)
  obtain rfl : y70065 = (-3) := by rw [ey70065]; decide
  try clear ey70065
  refine lv_icmp_gt (tgt := 69) hx hb dX16_guess_43 (by decide) (fun _ => ?_) (fun c_43_b70066 => absurd (by decide) c_43_b70066)
  show W p l e _ s m _ below meth c _ _ _ _ QQ (F0 m 69 ls70059 [])
  refine lv_iinc (v := 4) (lv' := [(2, .int 4), (3, .int 0), (0, .ref h0), (1, .int x)]) hx hb dX16_guess_69 hl (k := 1) rfl (by decide) (by decide) rfl (fun ls70067 hl' => ?_)
  clear hl
  have hl : lv_has ls70067 4 [(2, .int 4), (3, .int 0), (0, .ref h0), (1, .int x)] := hl'
  clear hl'
  refine lv_goto (tgt := 15) hx hb dX16_guess_72 (by decide) ?_
  refine lv_iload_n hx hb dX16_guess_15 rfl (lv_at hl 0 rfl) ?_
  refine lv_iconst (v := 4) hx hb dX16_guess_16 (by decide) ?_
  refine lv_icmp_gt (tgt := 75) hx hb dX16_guess_17 (by decide) (fun c_17_b70068 => absurd c_17_b70068 (by decide)) (fun _ => ?_)
  show W p l e _ s m _ below meth c _ _ _ _ QQ (F0 m 20 ls70067 [])
  refine lv_iconst (v := 0) hx hb dX16_guess_20 (by decide) ?_
  refine lv_istore_n (lv' := [(3, .int 0), (2, .int 4), (0, .ref h0), (1, .int x)]) hx hb dX16_guess_21 rfl hl (by decide) rfl (fun ls70069 hl' => ?_)
  clear hl
  have hl : lv_has ls70069 4 [(3, .int 0), (2, .int 4), (0, .ref h0), (1, .int x)] := hl'
  clear hl'
  refine lv_iload_n hx hb dX16_guess_22 rfl (lv_at hl 0 rfl) ?_
  refine lv_bipush (v := 8) hx hb dX16_guess_23 (by decide) ?_
  refine lv_icmp_gt (tgt := 69) hx hb dX16_guess_25 (by decide) (fun c_25_b70070 => absurd c_25_b70070 (by decide)) (fun _ => ?_)
  show W p l e _ s m _ below meth c _ _ _ _ QQ (F0 m 28 ls70069 [])
  refine lv_iload_n hx hb dX16_guess_28 rfl (lv_at hl 1 rfl) ?_
  refine lv_iconst (v := 1) hx hb dX16_guess_29 (by decide) ?_
  refine lv_iadd hx hb dX16_guess_30 ?_
  refine lv_topi (fun y70071 ey70071 => ?_)
  obtain rfl : y70071 = 5 := by rw [ey70071]; decide
  try clear ey70071
  refine lv_iload_n hx hb dX16_guess_31 rfl (lv_at hl 0 rfl) ?_
  refine lv_iconst (v := 1) hx hb dX16_guess_32 (by decide) ?_
  show W p l e _ s m _ below meth c _ _ _ _ QQ (F0 m 33 ls70069 [.int 1, .int 0, .int 5])
  refine lv_iadd hx hb dX16_guess_33 ?_
  refine lv_topi (fun y70072 ey70072 => ?_)
  obtain rfl : y70072 = 1 := by rw [ey70072]; decide
  try clear ey70072
  refine lv_imul hx hb dX16_guess_34 ?_
  refine lv_topi (fun y70073 ey70073 => ?_)
  obtain rfl : y70073 = 5 := by rw [ey70073]; decide
  try clear ey70073
  refine lv_iconst (v := 4) hx hb dX16_guess_35 (by decide) ?_
  refine lv_iadd hx hb dX16_guess_36 ?_
  refine lv_topi (fun y70074 ey70074 => ?_)
  obtain rfl : y70074 = 9 := by rw [ey70074]; decide
  try clear ey70074
  refine lv_aload_n hx hb dX16_guess_37 rfl (lv_at hl 2 rfl) ?_
  show W p l e _ s m _ below meth c _ _ _ _ QQ (F0 m 38 ls70069 [.ref h0, .int 9])
  refine va_get (D := (dC, dI)) (ci := 15) (v := .int 0) (C := RX16) (T := TX16) (N := 65) hx hb hall zx_16 hown hK.1 hP 2 rfl rfl 29 (by decide) (hall _ zw_483) (fun _ h9 => h9) rfl dX16_guess_38 ?_
  refine lv_iload_n hx hb dX16_guess_41 rfl (lv_at hl 1 rfl) ?_
  refine lv_isub hx hb dX16_guess_42 ?_
  refine lv_topi (fun y70075 ey70075 => ?_)
  obtain rfl : y70075 = (-4) := by rw [ey70075]; decide
  try clear ey70075
  refine lv_icmp_gt (tgt := 69) hx hb dX16_guess_43 (by decide) (fun _ => ?_) (fun c_43_b70076 => absurd (by decide) c_43_b70076)
  refine lv_iinc (v := 5) (lv' := [(2, .int 5), (3, .int 0), (0, .ref h0), (1, .int x)]) hx hb dX16_guess_69 hl (k := 1) rfl (by decide) (by decide) rfl (fun ls70077 hl' => ?_)
  clear hl
  have hl : lv_has ls70077 4 [(2, .int 5), (3, .int 0), (0, .ref h0), (1, .int x)] := hl'
  clear hl'
  refine lv_goto (tgt := 15) hx hb dX16_guess_72 (by decide) ?_
  show W p l e _ s m _ below meth c _ _ _ _ QQ (F0 m 15 ls70077 [])
  refine lv_iload_n hx hb dX16_guess_15 rfl (lv_at hl 0 rfl) ?_
  refine lv_iconst (v := 4) hx hb dX16_guess_16 (by decide) ?_
  refine lv_icmp_gt (tgt := 75) hx hb dX16_guess_17 (by decide) (fun _ => ?_) (fun c_17_b70078 => absurd (by decide) c_17_b70078)
  refine lv_iconst (v := (-1)) hx hb dX16_guess_75 (by decide) ?_
  refine W.widen (k := 0) (n := 0) (Nat.le_of_ble_eq_true rfl) (Nat.le_of_ble_eq_true rfl) ?_
  rw [← hQ, hAe]
  have hP := zsubP (wc := []) hP [] rfl
  have hD := hD.sub (ws' := []) [] (by decide) rfl
  exact W.iret (v := (-1)) hx hb hr (fun zt ht hW => ⟨⟨(-1), (), rfl, rfl, by rw [ht]; exact hP, hD, by rw [ht]; exact hz0⟩, hS.F ht⟩) hS.2.2 dX16_guess_76

set_option maxHeartbeats 4000000 in
set_option maxRecDepth 100000 in
theorem c_X16_type (l : Launch) (dC : Nat → ClassId) (dI : Nat → Nat → Nat) (aC : Nat → ClassId) (h0 d : Nat) (v : Int64) (x : Int32) (sz : Nat) : Met l yX16_type w_X16_type ({ frames := 1, cells := 0, slots := 0, locals := 24 }) (zPre (dC, dI) aC [(h0, .inr (15, [.ref (d + 0), .int 0, .ref (d + 1), .int 0, .ref (d + 2), .ref (d + 3), .ref (d + 68), .ref (d + 77), .ref (d + 78), .int 0, .int 0, .ref (d + 79), .int 0, .int 0, .int 0, .ref (d + 80), .int 0, .int 0, .int 0, .int 0, .ref (d + 81), .ref (d + 82), .int (-1), .ref (d + 91), .int 0, .int 0, .ref (d + 92), .int 0, .ref (d + 93), .int 0, .ref (d + 94), .int 0, .ref (d + 95), .ref (d + 96), .ref (d + 97), .ref (d + 98), .int 0, .int 0, .ref (d + 99), .null, .null, .null, .null, .null, .ref (d + 148), .ref (d + 175), .ref (d + 176), .ref (d + 177), .int 0, .ref (d + 178), .ref (d + 179), .ref (d + 180), .ref (d + 185), .ref (d + 190), .ref (d + 191), .ref (d + 192), .ref (d + 193), .ref (d + 201), .ref (d + 209), .ref (d + 210), .ref (d + 211), .ref (d + 272), .ref (d + 273), .int 0, .ref (d + 274)])), (d + 79, .inl (aC 1, 400, .inl (fun _ => 0)))] sz [.ref h0, .long v, .int x]) (va_Qi (fun (r : Int32) (u : Unit) => r = ztype x) (fun u zt => zB (dC, dI) [] (va_A [(h0, .inr (15, [.ref (d + 0), .int 0, .ref (d + 1), .int 0, .ref (d + 2), .ref (d + 3), .ref (d + 68), .ref (d + 77), .ref (d + 78), .int 0, .int 0, .ref (d + 79), .int 0, .int 0, .int 0, .ref (d + 80), .int 0, .int 0, .int 0, .int 0, .ref (d + 81), .ref (d + 82), .int (-1), .ref (d + 91), .int 0, .int 0, .ref (d + 92), .int 0, .ref (d + 93), .int 0, .ref (d + 94), .int 0, .ref (d + 95), .ref (d + 96), .ref (d + 97), .ref (d + 98), .int 0, .int 0, .ref (d + 99), .null, .null, .null, .null, .null, .ref (d + 148), .ref (d + 175), .ref (d + 176), .ref (d + 177), .int 0, .ref (d + 178), .ref (d + 179), .ref (d + 180), .ref (d + 185), .ref (d + 190), .ref (d + 191), .ref (d + 192), .ref (d + 193), .ref (d + 201), .ref (d + 209), .ref (d + 210), .ref (d + 211), .ref (d + 272), .ref (d + 273), .int 0, .ref (d + 274)])), (d + 79, .inl (aC 1, 400, .inl (fun _ => 0)))] sz) (sz + 0) zt) (va_A [(h0, .inr (15, [.ref (d + 0), .int 0, .ref (d + 1), .int 0, .ref (d + 2), .ref (d + 3), .ref (d + 68), .ref (d + 77), .ref (d + 78), .int 0, .int 0, .ref (d + 79), .int 0, .int 0, .int 0, .ref (d + 80), .int 0, .int 0, .int 0, .int 0, .ref (d + 81), .ref (d + 82), .int (-1), .ref (d + 91), .int 0, .int 0, .ref (d + 92), .int 0, .ref (d + 93), .int 0, .ref (d + 94), .int 0, .ref (d + 95), .ref (d + 96), .ref (d + 97), .ref (d + 98), .int 0, .int 0, .ref (d + 99), .null, .null, .null, .null, .null, .ref (d + 148), .ref (d + 175), .ref (d + 176), .ref (d + 177), .int 0, .ref (d + 178), .ref (d + 179), .ref (d + 180), .ref (d + 185), .ref (d + 190), .ref (d + 191), .ref (d + 192), .ref (d + 193), .ref (d + 201), .ref (d + 209), .ref (d + 210), .ref (d + 211), .ref (d + 272), .ref (d + 273), .int 0, .ref (d + 274)])), (d + 79, .inl (aC 1, 400, .inl (fun _ => 0)))] sz)) 0 0 (va_A [(h0, .inr (15, [.ref (d + 0), .int 0, .ref (d + 1), .int 0, .ref (d + 2), .ref (d + 3), .ref (d + 68), .ref (d + 77), .ref (d + 78), .int 0, .int 0, .ref (d + 79), .int 0, .int 0, .int 0, .ref (d + 80), .int 0, .int 0, .int 0, .int 0, .ref (d + 81), .ref (d + 82), .int (-1), .ref (d + 91), .int 0, .int 0, .ref (d + 92), .int 0, .ref (d + 93), .int 0, .ref (d + 94), .int 0, .ref (d + 95), .ref (d + 96), .ref (d + 97), .ref (d + 98), .int 0, .int 0, .ref (d + 99), .null, .null, .null, .null, .null, .ref (d + 148), .ref (d + 175), .ref (d + 176), .ref (d + 177), .int 0, .ref (d + 178), .ref (d + 179), .ref (d + 180), .ref (d + 185), .ref (d + 190), .ref (d + 191), .ref (d + 192), .ref (d + 193), .ref (d + 201), .ref (d + 209), .ref (d + 210), .ref (d + 211), .ref (d + 272), .ref (d + 273), .int 0, .ref (d + 274)])), (d + 79, .inl (aC 1, 400, .inl (fun _ => 0)))] sz) := by
  refine Met.ofW (cc := cX16_type) (maxL := 5) (ret := (some .int)) (by decide) rfl ?_
  intro p e s m args below meth c s₁ B hml hv
  generalize hQ : MQ below _ _ s _ _ _ = QQ
  obtain ⟨rfl, hsz, hP, hK, hD0⟩ := hv
  have hx := B.exec
  have hb := B.bytes
  have hr := B.returns
  have hts := atoms_spec (ws := w_X16_type) B.pre
  have hall := fun (w : Cond) (h : w ∈ zAll) => hts w (List.mem_cons_of_mem _ h)
  have hown : s.vm.findClass RX16 = some m.cls := findClass_of_methodNamed B.named
  have hlocks := B.notSynchronized
  subst hsz
  have hD := hD0.self (sz := s.heap.size)
  generalize hAe : va_A [(h0, .inr (15, [.ref (d + 0), .int 0, .ref (d + 1), .int 0, .ref (d + 2), .ref (d + 3), .ref (d + 68), .ref (d + 77), .ref (d + 78), .int 0, .int 0, .ref (d + 79), .int 0, .int 0, .int 0, .ref (d + 80), .int 0, .int 0, .int 0, .int 0, .ref (d + 81), .ref (d + 82), .int (-1), .ref (d + 91), .int 0, .int 0, .ref (d + 92), .int 0, .ref (d + 93), .int 0, .ref (d + 94), .int 0, .ref (d + 95), .ref (d + 96), .ref (d + 97), .ref (d + 98), .int 0, .int 0, .ref (d + 99), .null, .null, .null, .null, .null, .ref (d + 148), .ref (d + 175), .ref (d + 176), .ref (d + 177), .int 0, .ref (d + 178), .ref (d + 179), .ref (d + 180), .ref (d + 185), .ref (d + 190), .ref (d + 191), .ref (d + 192), .ref (d + 193), .ref (d + 201), .ref (d + 209), .ref (d + 210), .ref (d + 211), .ref (d + 272), .ref (d + 273), .int 0, .ref (d + 274)])), (d + 79, .inl (aC 1, 400, .inl (fun _ => 0)))] s.heap.size = A at hD ⊢
  have hA : ∀ q : Nat, s.heap.size ≤ q → A q := fun q h => by rw [← hAe]; exact Or.inr h
  have hS : va_S A s.heap s.heap [] := va_S.rf
  have hz0 : s.heap.size = s.heap.size + 0 := rfl
  have hl := lv_entry ([.ref h0, .long v, .int x]) (n := 5) (Nat.le_of_ble_eq_true rfl)
  rw [lg_entry_eq]
  generalize (lg_sl ([.ref h0, .long v, .int x]) ++ List.replicate (5 - (lg_sl ([.ref h0, .long v, .int x])).length) Slot.unset).toArray = ls at hl ⊢
  have hl : lv_has ls 5 [(0, .ref h0), (1, .long v), (3, .int x)] := hl
  refine lv_iload_n hx hb dX16_type_0 rfl (lv_at hl 2 rfl) ?_
  refine lv_iconst (v := 1) hx hb dX16_type_1 (by decide) ?_
  refine lv_icmp_lt (tgt := 23) hx hb dX16_type_2 (by decide) (fun c_2_b70079 => ?_) (fun c_2_b70079 => ?_)
  · refine lv_iconst (v := (-1)) hx hb dX16_type_23 (by decide) ?_
    refine W.widen (k := 0) (n := 0) (Nat.le_of_ble_eq_true rfl) (Nat.le_of_ble_eq_true rfl) ?_
    rw [← hQ, hAe]
    have hP := zsubP (wc := []) hP [] rfl
    have hD := hD.sub (ws' := []) [] (by decide) rfl
    exact W.iret (v := (-1)) hx hb hr (fun zt ht hW => ⟨⟨(-1), (), rfl, by simp [ztype, c_2_b70079], by rw [ht]; exact hP, hD, by rw [ht]; exact hz0⟩, hS.F ht⟩) hS.2.2 dX16_type_24
  · refine lv_iload_n hx hb dX16_type_5 rfl (lv_at hl 2 rfl) ?_
    refine lv_bipush (v := 8) hx hb dX16_type_6 (by decide) ?_
    refine lv_icmp_gt (tgt := 23) hx hb dX16_type_8 (by decide) (fun c_8_b70080 => ?_) (fun c_8_b70080 => ?_)
    · refine lv_iconst (v := (-1)) hx hb dX16_type_23 (by decide) ?_
      refine W.widen (k := 0) (n := 0) (Nat.le_of_ble_eq_true rfl) (Nat.le_of_ble_eq_true rfl) ?_
      rw [← hQ, hAe]
      have hP := zsubP (wc := []) hP [] rfl
      have hD := hD.sub (ws' := []) [] (by decide) rfl
      exact W.iret (v := (-1)) hx hb hr (fun zt ht hW => ⟨⟨(-1), (), rfl, by simp [ztype, c_2_b70079, c_8_b70080], by rw [ht]; exact hP, hD, by rw [ht]; exact hz0⟩, hS.F ht⟩) hS.2.2 dX16_type_24
    · refine lv_aload_n hx hb dX16_type_11 rfl (lv_at hl 0 rfl) ?_
      show W p l e _ s m _ below meth c _ _ _ _ QQ (F0 m 12 ls [.ref h0])
      refine va_get (D := (dC, dI)) (ci := 15) (v := .int 0) (C := RX16) (T := TX16) (N := 65) hx hb hall zx_16 hown hK.1 hP 0 rfl rfl 12 (by decide) (hall _ zw_375) (fun _ h9 => h9) rfl dX16_type_12 ?_
      refine lv_iload_n hx hb dX16_type_15 rfl (lv_at hl 2 rfl) ?_
      refine lv_iadd hx hb dX16_type_16 ?_
      refine lv_sipush (v := 400) hx hb dX16_type_17 (by decide) ?_
      refine lv_icmp_le (tgt := 25) hx hb dX16_type_20 (by decide) (fun _ => ?_) (fun c_20_b70081 => absurd (show (0 : Int32) + x ≤ 400 from by rw [Int32.zero_add]; exact Int32.le_trans (Int32.not_lt.mp c_8_b70080) (by decide)) c_20_b70081)
      show W p l e _ s m _ below meth c _ _ _ _ QQ (F0 m 25 ls [])
      obtain ⟨N, hN, rfl⟩ := ztyp c_2_b70079 c_8_b70080
      refine lv_iload_n hx hb dX16_type_25 rfl (lv_at hl 2 rfl) ?_
      refine lv_iconst (v := 1) hx hb dX16_type_26 (by decide) ?_
      refine lv_isub hx hb dX16_type_27 ?_
      refine lv_topi (fun y70082 ey70082 => ?_)
      obtain rfl : y70082 = (nI N) - 1 - (nI 0) := by rw [ey70082]; exact zd0 N hN
      refine lv_istore (lv' := [(4, .int ((nI N) - 1 - (nI 0))), (0, .ref h0), (1, .long v), (3, .int (nI N))]) hx hb dX16_type_28 hl (by decide) rfl (fun ls70083 hl' => ?_)
      clear hl
      have hl : lv_has ls70083 5 [(4, .int ((nI N) - 1 - (nI 0))), (0, .ref h0), (1, .long v), (3, .int (nI N))] := hl'
      clear hl'
      have key : ∀ (n i : Nat), i ≤ N → N < i + n → ∀ (H : Heap) (locs : List Loc) (ls : Array Slot), H.size = s.heap.size + 0 → va_P (dC, dI) vwCl [(h0, .inr (15, [.ref (d + 0), .int 0, .ref (d + 1), .int 0, .ref (d + 2), .ref (d + 3), .ref (d + 68), .ref (d + 77), .ref (d + 78), .int 0, .int 0, .ref (d + 79), .int (nI i), .int 0, .int 0, .ref (d + 80), .int 0, .int 0, .int 0, .int 0, .ref (d + 81), .ref (d + 82), .int (-1), .ref (d + 91), .int 0, .int 0, .ref (d + 92), .int 0, .ref (d + 93), .int 0, .ref (d + 94), .int 0, .ref (d + 95), .ref (d + 96), .ref (d + 97), .ref (d + 98), .int 0, .int 0, .ref (d + 99), .null, .null, .null, .null, .null, .ref (d + 148), .ref (d + 175), .ref (d + 176), .ref (d + 177), .int 0, .ref (d + 178), .ref (d + 179), .ref (d + 180), .ref (d + 185), .ref (d + 190), .ref (d + 191), .ref (d + 192), .ref (d + 193), .ref (d + 201), .ref (d + 209), .ref (d + 210), .ref (d + 211), .ref (d + 272), .ref (d + 273), .int 0, .ref (d + 274)])), (d + 79, .inl (aC 1, 400, .inl (zmtape v N i)))] H → va_D A [(h0, .inr (15, [.ref (d + 0), .int 0, .ref (d + 1), .int 0, .ref (d + 2), .ref (d + 3), .ref (d + 68), .ref (d + 77), .ref (d + 78), .int 0, .int 0, .ref (d + 79), .int (nI i), .int 0, .int 0, .ref (d + 80), .int 0, .int 0, .int 0, .int 0, .ref (d + 81), .ref (d + 82), .int (-1), .ref (d + 91), .int 0, .int 0, .ref (d + 92), .int 0, .ref (d + 93), .int 0, .ref (d + 94), .int 0, .ref (d + 95), .ref (d + 96), .ref (d + 97), .ref (d + 98), .int 0, .int 0, .ref (d + 99), .null, .null, .null, .null, .null, .ref (d + 148), .ref (d + 175), .ref (d + 176), .ref (d + 177), .int 0, .ref (d + 178), .ref (d + 179), .ref (d + 180), .ref (d + 185), .ref (d + 190), .ref (d + 191), .ref (d + 192), .ref (d + 193), .ref (d + 201), .ref (d + 209), .ref (d + 210), .ref (d + 211), .ref (d + 272), .ref (d + 273), .int 0, .ref (d + 274)])), (d + 79, .inl (aC 1, 400, .inl (zmtape v N i)))] → va_S A s.heap H locs → lv_has ls 5 [(4, .int ((nI N) - 1 - (nI i))), (0, .ref h0), (1, .long v), (3, .int (nI N))] → W p l e (headSpec w_X16_type ({ frames := 1, cells := 0, slots := 0, locals := 24 })).room s m ([.ref h0, .long v, .int (nI N)] : List Value).toArray below meth c H locs 0 0 QQ (F0 m 30 ls []) := by
        intro n
        induction n with
        | zero => exact fun i h1 h2 => absurd h2 (by omega)
        | succ n ih =>
          intro i hi hfu H locs ls hz0 hP hD hS hl
          rcases Nat.lt_or_ge i N with hlt | hge
          · refine lv_iload hx hb dX16_type_30 (lv_at hl 0 rfl) ?_
            refine lv_if_lt (tgt := 66) hx hb dX16_type_32 (by decide) (fun c_32_b70084 => absurd c_32_b70084 (zdl N hN i hlt)) (fun _ => ?_)
            show W p l e _ s m _ below meth c _ _ _ _ QQ (F0 m 35 ls [])
            refine lv_aload_n hx hb dX16_type_35 rfl (lv_at hl 1 rfl) ?_
            refine va_get (D := (dC, dI)) (ci := 15) (v := .ref (d + 79)) (C := RX16) (T := TX16) (N := 65) hx hb hall zx_16 hown hK.1 hP 0 rfl rfl 11 (by decide) (hall _ zw_334) (fun _ h9 => h9) rfl dX16_type_36 ?_
            refine lv_aload_n hx hb dX16_type_39 rfl (lv_at hl 1 rfl) ?_
            refine lv_dup hx hb dX16_type_40 rfl ?_
            refine va_get (D := (dC, dI)) (ci := 15) (v := .int (nI i)) (C := RX16) (T := TX16) (N := 65) hx hb hall zx_16 hown hK.1 hP 0 rfl rfl 12 (by decide) (hall _ zw_375) (fun _ h9 => h9) rfl dX16_type_41 ?_
            show W p l e _ s m _ below meth c _ _ _ _ QQ (F0 m 44 ls [.int (nI i), .ref h0, .ref (d + 79)])
            refine lv_dup_x1 hx hb dX16_type_44 rfl rfl ?_
            refine lv_iconst (v := 1) hx hb dX16_type_45 (by decide) ?_
            refine lv_iadd hx hb dX16_type_46 ?_
            refine lv_topi (fun f70085 ef70085 => ?_)
            obtain rfl : f70085 = nI (i + 1) := by rw [ef70085]; exact nI_1 i
            refine zput (D := (dC, dI)) (ci := 15) (v := .int (nI (i + 1))) (ty := .int) (C := RX16) (T := TX16) (N := 65) hx hb hall zx_16 tyX16 tyX16_ok nmX16 hown hK.1 hP hD hS 0 rfl rfl 12 (by decide) (hall _ zw_375) (fun _ h9 => h9) rfl (by decide +kernel) rfl rfl (Nat.le_of_ble_eq_true rfl) dX16_type_47 (fun H70086 L70087 hB hP' hD' hS' => ?_)
            replace hz0 : H70086.size = s.heap.size + 0 := hB.1.trans hz0
            clear hP hD hS hB
            have hP : va_P (dC, dI) vwCl [(h0, .inr (15, [.ref (d + 0), .int 0, .ref (d + 1), .int 0, .ref (d + 2), .ref (d + 3), .ref (d + 68), .ref (d + 77), .ref (d + 78), .int 0, .int 0, .ref (d + 79), .int (nI (i + 1)), .int 0, .int 0, .ref (d + 80), .int 0, .int 0, .int 0, .int 0, .ref (d + 81), .ref (d + 82), .int (-1), .ref (d + 91), .int 0, .int 0, .ref (d + 92), .int 0, .ref (d + 93), .int 0, .ref (d + 94), .int 0, .ref (d + 95), .ref (d + 96), .ref (d + 97), .ref (d + 98), .int 0, .int 0, .ref (d + 99), .null, .null, .null, .null, .null, .ref (d + 148), .ref (d + 175), .ref (d + 176), .ref (d + 177), .int 0, .ref (d + 178), .ref (d + 179), .ref (d + 180), .ref (d + 185), .ref (d + 190), .ref (d + 191), .ref (d + 192), .ref (d + 193), .ref (d + 201), .ref (d + 209), .ref (d + 210), .ref (d + 211), .ref (d + 272), .ref (d + 273), .int 0, .ref (d + 274)])), (d + 79, .inl (aC 1, 400, .inl (zmtape v N i)))] H70086 := hP'
            have hD : va_D A [(h0, .inr (15, [.ref (d + 0), .int 0, .ref (d + 1), .int 0, .ref (d + 2), .ref (d + 3), .ref (d + 68), .ref (d + 77), .ref (d + 78), .int 0, .int 0, .ref (d + 79), .int (nI (i + 1)), .int 0, .int 0, .ref (d + 80), .int 0, .int 0, .int 0, .int 0, .ref (d + 81), .ref (d + 82), .int (-1), .ref (d + 91), .int 0, .int 0, .ref (d + 92), .int 0, .ref (d + 93), .int 0, .ref (d + 94), .int 0, .ref (d + 95), .ref (d + 96), .ref (d + 97), .ref (d + 98), .int 0, .int 0, .ref (d + 99), .null, .null, .null, .null, .null, .ref (d + 148), .ref (d + 175), .ref (d + 176), .ref (d + 177), .int 0, .ref (d + 178), .ref (d + 179), .ref (d + 180), .ref (d + 185), .ref (d + 190), .ref (d + 191), .ref (d + 192), .ref (d + 193), .ref (d + 201), .ref (d + 209), .ref (d + 210), .ref (d + 211), .ref (d + 272), .ref (d + 273), .int 0, .ref (d + 274)])), (d + 79, .inl (aC 1, 400, .inl (zmtape v N i)))] := hD'
            have hS : va_S A s.heap H70086 L70087 := hS'
            clear hP' hD' hS'
            refine lv_lload_n hx hb dX16_type_50 rfl (lv_at hl 2 rfl) ?_
            show W p l e _ s m _ below meth c _ _ _ _ QQ (F0 m 51 ls [.long v, .int (nI i), .ref (d + 79)])
            refine lv_bipush (v := 8) hx hb dX16_type_51 (by decide) ?_
            refine lv_iload hx hb dX16_type_53 (lv_at hl 0 rfl) ?_
            refine lv_imul hx hb dX16_type_55 ?_
            refine lv_lshr hx hb dX16_type_56 rfl ?_
            refine lv_l2i (v := (v >>> ((8 * ((nI N) - 1 - (nI i))).toInt64 &&& 63)).toInt32) hx hb dX16_type_57 rfl ?_
            show W p l e _ s m _ below meth c _ _ _ _ QQ (F0 m 58 ls [.int ((v >>> ((8 * ((nI N) - 1 - (nI i))).toInt64 &&& 63)).toInt32), .int (nI i), .ref (d + 79)])
            refine lv_i2b (v := ((v >>> ((8 * ((nI N) - 1 - (nI i))).toInt64 &&& 63)).toInt32).toInt8.toInt32) hx hb dX16_type_58 rfl ?_
            refine zbast hx hb hK.1 hP hD hS 1 1 rfl rfl (vp_in_nI (show i < 400 by omega) (by decide)) dX16_type_59 (fun H70088 L70089 hB hP' hD' hS' => ?_)
            replace hz0 : H70088.size = s.heap.size + 0 := hB.1.trans hz0
            clear hP hD hS hB
            have hP : va_P (dC, dI) vwCl [(h0, .inr (15, [.ref (d + 0), .int 0, .ref (d + 1), .int 0, .ref (d + 2), .ref (d + 3), .ref (d + 68), .ref (d + 77), .ref (d + 78), .int 0, .int 0, .ref (d + 79), .int (nI (i + 1)), .int 0, .int 0, .ref (d + 80), .int 0, .int 0, .int 0, .int 0, .ref (d + 81), .ref (d + 82), .int (-1), .ref (d + 91), .int 0, .int 0, .ref (d + 92), .int 0, .ref (d + 93), .int 0, .ref (d + 94), .int 0, .ref (d + 95), .ref (d + 96), .ref (d + 97), .ref (d + 98), .int 0, .int 0, .ref (d + 99), .null, .null, .null, .null, .null, .ref (d + 148), .ref (d + 175), .ref (d + 176), .ref (d + 177), .int 0, .ref (d + 178), .ref (d + 179), .ref (d + 180), .ref (d + 185), .ref (d + 190), .ref (d + 191), .ref (d + 192), .ref (d + 193), .ref (d + 201), .ref (d + 209), .ref (d + 210), .ref (d + 211), .ref (d + 272), .ref (d + 273), .int 0, .ref (d + 274)])), (d + 79, .inl (aC 1, 400, .inl (upd (zmtape v N i) (nI i).toNatClampNeg (vp_nar .byte (((v >>> ((8 * ((nI N) - 1 - (nI i))).toInt64 &&& 63)).toInt32).toInt8.toInt32)))))] H70088 := hP'
            have hD : va_D A [(h0, .inr (15, [.ref (d + 0), .int 0, .ref (d + 1), .int 0, .ref (d + 2), .ref (d + 3), .ref (d + 68), .ref (d + 77), .ref (d + 78), .int 0, .int 0, .ref (d + 79), .int (nI (i + 1)), .int 0, .int 0, .ref (d + 80), .int 0, .int 0, .int 0, .int 0, .ref (d + 81), .ref (d + 82), .int (-1), .ref (d + 91), .int 0, .int 0, .ref (d + 92), .int 0, .ref (d + 93), .int 0, .ref (d + 94), .int 0, .ref (d + 95), .ref (d + 96), .ref (d + 97), .ref (d + 98), .int 0, .int 0, .ref (d + 99), .null, .null, .null, .null, .null, .ref (d + 148), .ref (d + 175), .ref (d + 176), .ref (d + 177), .int 0, .ref (d + 178), .ref (d + 179), .ref (d + 180), .ref (d + 185), .ref (d + 190), .ref (d + 191), .ref (d + 192), .ref (d + 193), .ref (d + 201), .ref (d + 209), .ref (d + 210), .ref (d + 211), .ref (d + 272), .ref (d + 273), .int 0, .ref (d + 274)])), (d + 79, .inl (aC 1, 400, .inl (upd (zmtape v N i) (nI i).toNatClampNeg (vp_nar .byte (((v >>> ((8 * ((nI N) - 1 - (nI i))).toInt64 &&& 63)).toInt32).toInt8.toInt32)))))] := hD'
            have hS : va_S A s.heap H70088 L70089 := hS'
            clear hP' hD' hS'
            clear L70087 H70086
            rw [nI_clamp (show i < 2 ^ 31 by omega)] at hP hD
            replace hP : va_P (dC, dI) vwCl [(h0, .inr (15, [.ref (d + 0), .int 0, .ref (d + 1), .int 0, .ref (d + 2), .ref (d + 3), .ref (d + 68), .ref (d + 77), .ref (d + 78), .int 0, .int 0, .ref (d + 79), .int (nI (i + 1)), .int 0, .int 0, .ref (d + 80), .int 0, .int 0, .int 0, .int 0, .ref (d + 81), .ref (d + 82), .int (-1), .ref (d + 91), .int 0, .int 0, .ref (d + 92), .int 0, .ref (d + 93), .int 0, .ref (d + 94), .int 0, .ref (d + 95), .ref (d + 96), .ref (d + 97), .ref (d + 98), .int 0, .int 0, .ref (d + 99), .null, .null, .null, .null, .null, .ref (d + 148), .ref (d + 175), .ref (d + 176), .ref (d + 177), .int 0, .ref (d + 178), .ref (d + 179), .ref (d + 180), .ref (d + 185), .ref (d + 190), .ref (d + 191), .ref (d + 192), .ref (d + 193), .ref (d + 201), .ref (d + 209), .ref (d + 210), .ref (d + 211), .ref (d + 272), .ref (d + 273), .int 0, .ref (d + 274)])), (d + 79, .inl (aC 1, 400, .inl (upd (zmtape v N i) i (vp_nar .byte (((v >>> ((8 * ((nI N) - 1 - (nI i))).toInt64 &&& 63)).toInt32).toInt8.toInt32)))))] H70088 := hP
            replace hD : va_D A [(h0, .inr (15, [.ref (d + 0), .int 0, .ref (d + 1), .int 0, .ref (d + 2), .ref (d + 3), .ref (d + 68), .ref (d + 77), .ref (d + 78), .int 0, .int 0, .ref (d + 79), .int (nI (i + 1)), .int 0, .int 0, .ref (d + 80), .int 0, .int 0, .int 0, .int 0, .ref (d + 81), .ref (d + 82), .int (-1), .ref (d + 91), .int 0, .int 0, .ref (d + 92), .int 0, .ref (d + 93), .int 0, .ref (d + 94), .int 0, .ref (d + 95), .ref (d + 96), .ref (d + 97), .ref (d + 98), .int 0, .int 0, .ref (d + 99), .null, .null, .null, .null, .null, .ref (d + 148), .ref (d + 175), .ref (d + 176), .ref (d + 177), .int 0, .ref (d + 178), .ref (d + 179), .ref (d + 180), .ref (d + 185), .ref (d + 190), .ref (d + 191), .ref (d + 192), .ref (d + 193), .ref (d + 201), .ref (d + 209), .ref (d + 210), .ref (d + 211), .ref (d + 272), .ref (d + 273), .int 0, .ref (d + 274)])), (d + 79, .inl (aC 1, 400, .inl (upd (zmtape v N i) i (vp_nar .byte (((v >>> ((8 * ((nI N) - 1 - (nI i))).toInt64 &&& 63)).toInt32).toInt8.toInt32)))))] := hD
            replace hP : va_P (dC, dI) vwCl [(h0, .inr (15, [.ref (d + 0), .int 0, .ref (d + 1), .int 0, .ref (d + 2), .ref (d + 3), .ref (d + 68), .ref (d + 77), .ref (d + 78), .int 0, .int 0, .ref (d + 79), .int (nI (i + 1)), .int 0, .int 0, .ref (d + 80), .int 0, .int 0, .int 0, .int 0, .ref (d + 81), .ref (d + 82), .int (-1), .ref (d + 91), .int 0, .int 0, .ref (d + 92), .int 0, .ref (d + 93), .int 0, .ref (d + 94), .int 0, .ref (d + 95), .ref (d + 96), .ref (d + 97), .ref (d + 98), .int 0, .int 0, .ref (d + 99), .null, .null, .null, .null, .null, .ref (d + 148), .ref (d + 175), .ref (d + 176), .ref (d + 177), .int 0, .ref (d + 178), .ref (d + 179), .ref (d + 180), .ref (d + 185), .ref (d + 190), .ref (d + 191), .ref (d + 192), .ref (d + 193), .ref (d + 201), .ref (d + 209), .ref (d + 210), .ref (d + 211), .ref (d + 272), .ref (d + 273), .int 0, .ref (d + 274)])), (d + 79, .inl (aC 1, 400, .inl (zmtape v N (i + 1))))] H70088 := hP
            replace hD : va_D A [(h0, .inr (15, [.ref (d + 0), .int 0, .ref (d + 1), .int 0, .ref (d + 2), .ref (d + 3), .ref (d + 68), .ref (d + 77), .ref (d + 78), .int 0, .int 0, .ref (d + 79), .int (nI (i + 1)), .int 0, .int 0, .ref (d + 80), .int 0, .int 0, .int 0, .int 0, .ref (d + 81), .ref (d + 82), .int (-1), .ref (d + 91), .int 0, .int 0, .ref (d + 92), .int 0, .ref (d + 93), .int 0, .ref (d + 94), .int 0, .ref (d + 95), .ref (d + 96), .ref (d + 97), .ref (d + 98), .int 0, .int 0, .ref (d + 99), .null, .null, .null, .null, .null, .ref (d + 148), .ref (d + 175), .ref (d + 176), .ref (d + 177), .int 0, .ref (d + 178), .ref (d + 179), .ref (d + 180), .ref (d + 185), .ref (d + 190), .ref (d + 191), .ref (d + 192), .ref (d + 193), .ref (d + 201), .ref (d + 209), .ref (d + 210), .ref (d + 211), .ref (d + 272), .ref (d + 273), .int 0, .ref (d + 274)])), (d + 79, .inl (aC 1, 400, .inl (zmtape v N (i + 1))))] := hD
            obtain ⟨y70090, ey70090⟩ : ∃ z : Int32, z = ((nI N) - 1 - (nI i)) + (-1) := ⟨_, rfl⟩
            refine lv_iinc (v := y70090) (lv' := [(4, .int y70090), (0, .ref h0), (1, .long v), (3, .int (nI N))]) hx hb dX16_type_60 hl (k := 0) rfl (by rw [ey70090]; rfl) (by decide) rfl (fun ls70091 hl' => ?_)
            clear hl
            have hl : lv_has ls70091 5 [(4, .int y70090), (0, .ref h0), (1, .long v), (3, .int (nI N))] := hl'
            clear hl'
            refine lv_goto (tgt := 30) hx hb dX16_type_63 (by decide) ?_
            have ey : y70090 = (nI N) - 1 - (nI (i + 1)) := by rw [ey70090]; exact zdn N hN i hlt
            rw [ey] at hl
            exact ih (i + 1) hlt (by omega) H70088 L70089 ls70091 hz0 hP hD hS (lv_sub hl [0, 1, 2, 3] rfl)
          · have ei : i = N := by omega
            try rw [ei] at hP
            try rw [ei] at hD
            try rw [ei] at hl
            refine lv_iload hx hb dX16_type_30 (lv_at hl 0 rfl) ?_
            refine lv_if_lt (tgt := 66) hx hb dX16_type_32 (by decide) (fun _ => ?_) (fun c_32_b70092 => absurd (zde N hN) c_32_b70092)
            show W p l e _ s m _ below meth c _ _ _ _ QQ (F0 m 66 ls [])
            refine lv_aload_n hx hb dX16_type_66 rfl (lv_at hl 1 rfl) ?_
            refine va_get (D := (dC, dI)) (ci := 15) (v := .int (nI N)) (C := RX16) (T := TX16) (N := 65) hx hb hall zx_16 hown hK.1 hP 0 rfl rfl 12 (by decide) (hall _ zw_375) (fun _ h9 => h9) rfl dX16_type_67 ?_
            refine W.widen (k := 0) (n := 0) (Nat.le_of_ble_eq_true rfl) (Nat.le_of_ble_eq_true rfl) ?_
            rw [← hQ, hAe]
            have hP := zsubP (wc := []) hP [] rfl
            have hD := hD.sub (ws' := []) [] (by decide) rfl
            exact W.iret (v := nI N) hx hb hr (fun zt ht hW => ⟨⟨nI N, (), rfl, by simp [ztype, c_2_b70079, c_8_b70080], by rw [ht]; exact hP, hD, by rw [ht]; exact hz0⟩, hS.F ht⟩) hS.2.2 dX16_type_70
      exact key (N + 1) 0 (Nat.zero_le _) (by omega) _ _ ls70083 hz0 hP hD hS (lv_sub hl [0, 1, 2, 3] rfl)

set_option maxHeartbeats 4000000 in
set_option maxRecDepth 100000 in
theorem c_X16_count (l : Launch) (dC : Nat → ClassId) (dI : Nat → Nat → Nat) (aC : Nat → ClassId) (h0 d : Nat) (x : Int32) (sz : Nat) : Met l yX16_count w_X16_count ({ frames := 1, cells := 0, slots := 0, locals := 24 }) (zPre (dC, dI) aC [(h0, .inr (15, [.ref (d + 0), .int 0, .ref (d + 1), .int 0, .ref (d + 2), .ref (d + 3), .ref (d + 68), .ref (d + 77), .ref (d + 78), .int 0, .int 0, .ref (d + 79), .int 0, .int 0, .int 0, .ref (d + 80), .int 0, .int 0, .int 0, .int 0, .ref (d + 81), .ref (d + 82), .int (-1), .ref (d + 91), .int 0, .int 0, .ref (d + 92), .int 0, .ref (d + 93), .int 0, .ref (d + 94), .int 0, .ref (d + 95), .ref (d + 96), .ref (d + 97), .ref (d + 98), .int 0, .int 0, .ref (d + 99), .null, .null, .null, .null, .null, .ref (d + 148), .ref (d + 175), .ref (d + 176), .ref (d + 177), .int 0, .ref (d + 178), .ref (d + 179), .ref (d + 180), .ref (d + 185), .ref (d + 190), .ref (d + 191), .ref (d + 192), .ref (d + 193), .ref (d + 201), .ref (d + 209), .ref (d + 210), .ref (d + 211), .ref (d + 272), .ref (d + 273), .int 0, .ref (d + 274)])), (d + 81, .inl (aC 6, 12, .inr (.inr (.inr (.inr (zrefs (fun i => d + (7485 + 9 * i)) 12)))))), (d + 7485, .inr (13, [.int 0, .ref (d + 7486), .ref (d + 7487), .int 0, .int 0, .int 0, .ref (d + 7488), .ref (d + 7489), .ref (d + 7490), .ref (d + 7491), .int 0, .ref (d + 7492), .int 0, .int 0, .ref (d + 7493)])), (d + 7494, .inr (13, [.int 0, .ref (d + 7495), .ref (d + 7496), .int 0, .int 0, .int 0, .ref (d + 7497), .ref (d + 7498), .ref (d + 7499), .ref (d + 7500), .int 0, .ref (d + 7501), .int 0, .int 0, .ref (d + 7502)])), (d + 7503, .inr (13, [.int 0, .ref (d + 7504), .ref (d + 7505), .int 0, .int 0, .int 0, .ref (d + 7506), .ref (d + 7507), .ref (d + 7508), .ref (d + 7509), .int 0, .ref (d + 7510), .int 0, .int 0, .ref (d + 7511)])), (d + 7512, .inr (13, [.int 0, .ref (d + 7513), .ref (d + 7514), .int 0, .int 0, .int 0, .ref (d + 7515), .ref (d + 7516), .ref (d + 7517), .ref (d + 7518), .int 0, .ref (d + 7519), .int 0, .int 0, .ref (d + 7520)])), (d + 7521, .inr (13, [.int 0, .ref (d + 7522), .ref (d + 7523), .int 0, .int 0, .int 0, .ref (d + 7524), .ref (d + 7525), .ref (d + 7526), .ref (d + 7527), .int 0, .ref (d + 7528), .int 0, .int 0, .ref (d + 7529)])), (d + 7530, .inr (13, [.int 0, .ref (d + 7531), .ref (d + 7532), .int 0, .int 0, .int 0, .ref (d + 7533), .ref (d + 7534), .ref (d + 7535), .ref (d + 7536), .int 0, .ref (d + 7537), .int 0, .int 0, .ref (d + 7538)])), (d + 7539, .inr (13, [.int 0, .ref (d + 7540), .ref (d + 7541), .int 0, .int 0, .int 0, .ref (d + 7542), .ref (d + 7543), .ref (d + 7544), .ref (d + 7545), .int 0, .ref (d + 7546), .int 0, .int 0, .ref (d + 7547)])), (d + 7548, .inr (13, [.int 0, .ref (d + 7549), .ref (d + 7550), .int 0, .int 0, .int 0, .ref (d + 7551), .ref (d + 7552), .ref (d + 7553), .ref (d + 7554), .int 0, .ref (d + 7555), .int 0, .int 0, .ref (d + 7556)])), (d + 7557, .inr (13, [.int 0, .ref (d + 7558), .ref (d + 7559), .int 0, .int 0, .int 0, .ref (d + 7560), .ref (d + 7561), .ref (d + 7562), .ref (d + 7563), .int 0, .ref (d + 7564), .int 0, .int 0, .ref (d + 7565)])), (d + 7566, .inr (13, [.int 0, .ref (d + 7567), .ref (d + 7568), .int 0, .int 0, .int 0, .ref (d + 7569), .ref (d + 7570), .ref (d + 7571), .ref (d + 7572), .int 0, .ref (d + 7573), .int 0, .int 0, .ref (d + 7574)])), (d + 7575, .inr (13, [.int 0, .ref (d + 7576), .ref (d + 7577), .int 0, .int 0, .int 0, .ref (d + 7578), .ref (d + 7579), .ref (d + 7580), .ref (d + 7581), .int 0, .ref (d + 7582), .int 0, .int 0, .ref (d + 7583)])), (d + 7584, .inr (13, [.int 0, .ref (d + 7585), .ref (d + 7586), .int 0, .int 0, .int 0, .ref (d + 7587), .ref (d + 7588), .ref (d + 7589), .ref (d + 7590), .int 0, .ref (d + 7591), .int 0, .int 0, .ref (d + 7592)]))] sz [.ref h0, .int x]) (va_Qi (fun (r : Int32) (_ : Unit) => r = zcount x) (fun _ zt => zt.heap.size = sz) (zN sz)) 0 0 (zN sz) := by
  refine Met.ofW (cc := cX16_count) (maxL := 5) (ret := (some .int)) (by decide) rfl ?_
  intro p e s m args below meth c s₁ B hml hv
  generalize hQ : MQ below _ _ s _ _ _ = QQ
  obtain ⟨rfl, hsz, hP, hK, hD0⟩ := hv
  have hx := B.exec
  have hb := B.bytes
  have hr := B.returns
  have hts := atoms_spec (ws := w_X16_count) B.pre
  have hall := fun (w : Cond) (h : w ∈ zAll) => hts w (List.mem_cons_of_mem _ h)
  have hown : s.vm.findClass RX16 = some m.cls := findClass_of_methodNamed B.named
  have hlocks := B.notSynchronized
  subst hsz
  have hA : ∀ q : Nat, s.heap.size ≤ q → zN s.heap.size q := fun q h => h
  have hS : va_S (zN s.heap.size) s.heap s.heap [] := va_S.rf
  have hD := hD0
  have hl := lv_entry ([.ref h0, .int x]) (n := 5) (Nat.le_of_ble_eq_true rfl)
  rw [lg_entry_eq]
  generalize (lg_sl ([.ref h0, .int x]) ++ List.replicate (5 - (lg_sl ([.ref h0, .int x])).length) Slot.unset).toArray = ls at hl ⊢
  have hl : lv_has ls 5 [(0, .ref h0), (1, .int x)] := hl
  refine lv_iconst (v := 0) hx hb dX16_count_0 (by decide) ?_
  refine lv_istore_n (lv' := [(2, .int 0), (0, .ref h0), (1, .int x)]) hx hb dX16_count_1 rfl hl (by decide) rfl (fun ls70093 hl' => ?_)
  clear hl
  have hl : lv_has ls70093 5 [(2, .int 0), (0, .ref h0), (1, .int x)] := hl'
  clear hl'
  refine lv_iconst (v := 0) hx hb dX16_count_2 (by decide) ?_
  refine lv_istore_n (lv' := [(3, .int 0), (2, .int 0), (0, .ref h0), (1, .int x)]) hx hb dX16_count_3 rfl hl (by decide) rfl (fun ls70094 hl' => ?_)
  clear hl
  have hl : lv_has ls70094 5 [(3, .int 0), (2, .int 0), (0, .ref h0), (1, .int x)] := hl'
  clear hl'
  refine lv_iconst (v := 0) hx hb dX16_count_4 (by decide) ?_
  show W p l e _ s m _ below meth c _ _ _ _ QQ (F0 m 5 ls70094 [.int 0])
  refine lv_istore (lv' := [(4, .int 0), (3, .int 0), (2, .int 0), (0, .ref h0), (1, .int x)]) hx hb dX16_count_5 hl (by decide) rfl (fun ls70095 hl' => ?_)
  clear hl
  have hl : lv_has ls70095 5 [(4, .int 0), (3, .int 0), (2, .int 0), (0, .ref h0), (1, .int x)] := hl'
  clear hl'
  refine lv_iload hx hb dX16_count_7 (lv_at hl 0 rfl) ?_
  refine lv_bipush (v := 12) hx hb dX16_count_9 (by decide) ?_
  refine lv_icmp_ge (tgt := 63) hx hb dX16_count_11 (by decide) (fun c_11_b70096 => absurd c_11_b70096 (by decide)) (fun _ => ?_)
  refine lv_iload_n hx hb dX16_count_14 rfl (lv_at hl 2 rfl) ?_
  show W p l e _ s m _ below meth c _ _ _ _ QQ (F0 m 15 ls70095 [.int 0])
  refine lv_aload_n hx hb dX16_count_15 rfl (lv_at hl 3 rfl) ?_
  refine va_get (D := (dC, dI)) (ci := 15) (v := .ref (d + 81)) (C := RX16) (T := TX16) (N := 65) hx hb hall zx_16 hown hK.1 hP 0 rfl rfl 20 (by decide) (hall _ zw_336) (fun _ h9 => h9) rfl dX16_count_16 ?_
  refine lv_iload hx hb dX16_count_19 (lv_at hl 0 rfl) ?_
  refine zaldr hx hb hK.1 hP 1 6 rfl rfl (zvp (by decide)) (zrefs_k (k := 0) (by decide +kernel) (by decide)) dX16_count_21 ?_
  refine va_get (D := (dC, dI)) (ci := 13) (v := .int 0) (C := RX14) (T := TX14) (N := 15) hx hb hall zx_14 hown hK.1 hP 2 rfl rfl 0 (by decide) (hall _ zw_402) (fun _ h9 => h9) rfl dX16_count_22 ?_
  refine lv_if_eq (tgt := 32) hx hb dX16_count_25 (by decide) (fun _ => ?_) (fun c_25_b70097 => absurd (by decide) c_25_b70097)
  show W p l e _ s m _ below meth c _ _ _ _ QQ (F0 m 32 ls70095 [.int 0])
  refine lv_iconst (v := 0) hx hb dX16_count_32 (by decide) ?_
  refine lv_iadd hx hb dX16_count_33 ?_
  refine lv_topi (fun y70098 ey70098 => ?_)
  obtain rfl : y70098 = 0 := by rw [ey70098]; decide
  try clear ey70098
  refine lv_istore_n (lv' := [(2, .int 0), (4, .int 0), (3, .int 0), (0, .ref h0), (1, .int x)]) hx hb dX16_count_34 rfl hl (by decide) rfl (fun ls70099 hl' => ?_)
  clear hl
  have hl : lv_has ls70099 5 [(2, .int 0), (4, .int 0), (3, .int 0), (0, .ref h0), (1, .int x)] := hl'
  clear hl'
  refine lv_iload_n hx hb dX16_count_35 rfl (lv_at hl 2 rfl) ?_
  refine lv_aload_n hx hb dX16_count_36 rfl (lv_at hl 3 rfl) ?_
  show W p l e _ s m _ below meth c _ _ _ _ QQ (F0 m 37 ls70099 [.ref h0, .int 0])
  refine va_get (D := (dC, dI)) (ci := 15) (v := .ref (d + 81)) (C := RX16) (T := TX16) (N := 65) hx hb hall zx_16 hown hK.1 hP 0 rfl rfl 20 (by decide) (hall _ zw_336) (fun _ h9 => h9) rfl dX16_count_37 ?_
  refine lv_iload hx hb dX16_count_40 (lv_at hl 1 rfl) ?_
  refine zaldr hx hb hK.1 hP 1 6 rfl rfl (zvp (by decide)) (zrefs_k (k := 0) (by decide +kernel) (by decide)) dX16_count_42 ?_
  refine va_get (D := (dC, dI)) (ci := 13) (v := .int 0) (C := RX14) (T := TX14) (N := 15) hx hb hall zx_14 hown hK.1 hP 2 rfl rfl 0 (by decide) (hall _ zw_402) (fun _ h9 => h9) rfl dX16_count_43 ?_
  refine lv_iconst (v := 3) hx hb dX16_count_46 (by decide) ?_
  refine lv_icmp_ne (tgt := 54) hx hb dX16_count_47 (by decide) (fun _ => ?_) (fun c_47_b70100 => absurd c_47_b70100 (by decide))
  show W p l e _ s m _ below meth c _ _ _ _ QQ (F0 m 54 ls70099 [.int 0])
  refine lv_iconst (v := 0) hx hb dX16_count_54 (by decide) ?_
  refine lv_iadd hx hb dX16_count_55 ?_
  refine lv_topi (fun y70101 ey70101 => ?_)
  obtain rfl : y70101 = 0 := by rw [ey70101]; decide
  try clear ey70101
  refine lv_istore_n (lv' := [(3, .int 0), (2, .int 0), (4, .int 0), (0, .ref h0), (1, .int x)]) hx hb dX16_count_56 rfl hl (by decide) rfl (fun ls70102 hl' => ?_)
  clear hl
  have hl : lv_has ls70102 5 [(3, .int 0), (2, .int 0), (4, .int 0), (0, .ref h0), (1, .int x)] := hl'
  clear hl'
  refine lv_iinc (v := 1) (lv' := [(4, .int 1), (3, .int 0), (2, .int 0), (0, .ref h0), (1, .int x)]) hx hb dX16_count_57 hl (k := 2) rfl (by decide) (by decide) rfl (fun ls70103 hl' => ?_)
  clear hl
  have hl : lv_has ls70103 5 [(4, .int 1), (3, .int 0), (2, .int 0), (0, .ref h0), (1, .int x)] := hl'
  clear hl'
  refine lv_goto (tgt := 7) hx hb dX16_count_60 (by decide) ?_
  show W p l e _ s m _ below meth c _ _ _ _ QQ (F0 m 7 ls70103 [])
  refine lv_iload hx hb dX16_count_7 (lv_at hl 0 rfl) ?_
  refine lv_bipush (v := 12) hx hb dX16_count_9 (by decide) ?_
  refine lv_icmp_ge (tgt := 63) hx hb dX16_count_11 (by decide) (fun c_11_b70104 => absurd c_11_b70104 (by decide)) (fun _ => ?_)
  refine lv_iload_n hx hb dX16_count_14 rfl (lv_at hl 2 rfl) ?_
  refine lv_aload_n hx hb dX16_count_15 rfl (lv_at hl 3 rfl) ?_
  show W p l e _ s m _ below meth c _ _ _ _ QQ (F0 m 16 ls70103 [.ref h0, .int 0])
  refine va_get (D := (dC, dI)) (ci := 15) (v := .ref (d + 81)) (C := RX16) (T := TX16) (N := 65) hx hb hall zx_16 hown hK.1 hP 0 rfl rfl 20 (by decide) (hall _ zw_336) (fun _ h9 => h9) rfl dX16_count_16 ?_
  refine lv_iload hx hb dX16_count_19 (lv_at hl 0 rfl) ?_
  refine zaldr hx hb hK.1 hP 1 6 rfl rfl (zvp (by decide)) (zrefs_k (k := 1) (by decide +kernel) (by decide)) dX16_count_21 ?_
  refine va_get (D := (dC, dI)) (ci := 13) (v := .int 0) (C := RX14) (T := TX14) (N := 15) hx hb hall zx_14 hown hK.1 hP 3 rfl rfl 0 (by decide) (hall _ zw_402) (fun _ h9 => h9) rfl dX16_count_22 ?_
  refine lv_if_eq (tgt := 32) hx hb dX16_count_25 (by decide) (fun _ => ?_) (fun c_25_b70105 => absurd (by decide) c_25_b70105)
  show W p l e _ s m _ below meth c _ _ _ _ QQ (F0 m 32 ls70103 [.int 0])
  refine lv_iconst (v := 0) hx hb dX16_count_32 (by decide) ?_
  refine lv_iadd hx hb dX16_count_33 ?_
  refine lv_topi (fun y70106 ey70106 => ?_)
  obtain rfl : y70106 = 0 := by rw [ey70106]; decide
  try clear ey70106
  refine lv_istore_n (lv' := [(2, .int 0), (4, .int 1), (3, .int 0), (0, .ref h0), (1, .int x)]) hx hb dX16_count_34 rfl hl (by decide) rfl (fun ls70107 hl' => ?_)
  clear hl
  have hl : lv_has ls70107 5 [(2, .int 0), (4, .int 1), (3, .int 0), (0, .ref h0), (1, .int x)] := hl'
  clear hl'
  refine lv_iload_n hx hb dX16_count_35 rfl (lv_at hl 2 rfl) ?_
  refine lv_aload_n hx hb dX16_count_36 rfl (lv_at hl 3 rfl) ?_
  show W p l e _ s m _ below meth c _ _ _ _ QQ (F0 m 37 ls70107 [.ref h0, .int 0])
  refine va_get (D := (dC, dI)) (ci := 15) (v := .ref (d + 81)) (C := RX16) (T := TX16) (N := 65) hx hb hall zx_16 hown hK.1 hP 0 rfl rfl 20 (by decide) (hall _ zw_336) (fun _ h9 => h9) rfl dX16_count_37 ?_
  refine lv_iload hx hb dX16_count_40 (lv_at hl 1 rfl) ?_
  refine zaldr hx hb hK.1 hP 1 6 rfl rfl (zvp (by decide)) (zrefs_k (k := 1) (by decide +kernel) (by decide)) dX16_count_42 ?_
  refine va_get (D := (dC, dI)) (ci := 13) (v := .int 0) (C := RX14) (T := TX14) (N := 15) hx hb hall zx_14 hown hK.1 hP 3 rfl rfl 0 (by decide) (hall _ zw_402) (fun _ h9 => h9) rfl dX16_count_43 ?_
  refine lv_iconst (v := 3) hx hb dX16_count_46 (by decide) ?_
  refine lv_icmp_ne (tgt := 54) hx hb dX16_count_47 (by decide) (fun _ => ?_) (fun c_47_b70108 => absurd c_47_b70108 (by decide))
  show W p l e _ s m _ below meth c _ _ _ _ QQ (F0 m 54 ls70107 [.int 0])
  refine lv_iconst (v := 0) hx hb dX16_count_54 (by decide) ?_
  refine lv_iadd hx hb dX16_count_55 ?_
  refine lv_topi (fun y70109 ey70109 => ?_)
  obtain rfl : y70109 = 0 := by rw [ey70109]; decide
  try clear ey70109
  refine lv_istore_n (lv' := [(3, .int 0), (2, .int 0), (4, .int 1), (0, .ref h0), (1, .int x)]) hx hb dX16_count_56 rfl hl (by decide) rfl (fun ls70110 hl' => ?_)
  clear hl
  have hl : lv_has ls70110 5 [(3, .int 0), (2, .int 0), (4, .int 1), (0, .ref h0), (1, .int x)] := hl'
  clear hl'
  refine lv_iinc (v := 2) (lv' := [(4, .int 2), (3, .int 0), (2, .int 0), (0, .ref h0), (1, .int x)]) hx hb dX16_count_57 hl (k := 2) rfl (by decide) (by decide) rfl (fun ls70111 hl' => ?_)
  clear hl
  have hl : lv_has ls70111 5 [(4, .int 2), (3, .int 0), (2, .int 0), (0, .ref h0), (1, .int x)] := hl'
  clear hl'
  refine lv_goto (tgt := 7) hx hb dX16_count_60 (by decide) ?_
  show W p l e _ s m _ below meth c _ _ _ _ QQ (F0 m 7 ls70111 [])
  refine lv_iload hx hb dX16_count_7 (lv_at hl 0 rfl) ?_
  refine lv_bipush (v := 12) hx hb dX16_count_9 (by decide) ?_
  refine lv_icmp_ge (tgt := 63) hx hb dX16_count_11 (by decide) (fun c_11_b70112 => absurd c_11_b70112 (by decide)) (fun _ => ?_)
  refine lv_iload_n hx hb dX16_count_14 rfl (lv_at hl 2 rfl) ?_
  refine lv_aload_n hx hb dX16_count_15 rfl (lv_at hl 3 rfl) ?_
  show W p l e _ s m _ below meth c _ _ _ _ QQ (F0 m 16 ls70111 [.ref h0, .int 0])
  refine va_get (D := (dC, dI)) (ci := 15) (v := .ref (d + 81)) (C := RX16) (T := TX16) (N := 65) hx hb hall zx_16 hown hK.1 hP 0 rfl rfl 20 (by decide) (hall _ zw_336) (fun _ h9 => h9) rfl dX16_count_16 ?_
  refine lv_iload hx hb dX16_count_19 (lv_at hl 0 rfl) ?_
  refine zaldr hx hb hK.1 hP 1 6 rfl rfl (zvp (by decide)) (zrefs_k (k := 2) (by decide +kernel) (by decide)) dX16_count_21 ?_
  refine va_get (D := (dC, dI)) (ci := 13) (v := .int 0) (C := RX14) (T := TX14) (N := 15) hx hb hall zx_14 hown hK.1 hP 4 rfl rfl 0 (by decide) (hall _ zw_402) (fun _ h9 => h9) rfl dX16_count_22 ?_
  refine lv_if_eq (tgt := 32) hx hb dX16_count_25 (by decide) (fun _ => ?_) (fun c_25_b70113 => absurd (by decide) c_25_b70113)
  show W p l e _ s m _ below meth c _ _ _ _ QQ (F0 m 32 ls70111 [.int 0])
  refine lv_iconst (v := 0) hx hb dX16_count_32 (by decide) ?_
  refine lv_iadd hx hb dX16_count_33 ?_
  refine lv_topi (fun y70114 ey70114 => ?_)
  obtain rfl : y70114 = 0 := by rw [ey70114]; decide
  try clear ey70114
  refine lv_istore_n (lv' := [(2, .int 0), (4, .int 2), (3, .int 0), (0, .ref h0), (1, .int x)]) hx hb dX16_count_34 rfl hl (by decide) rfl (fun ls70115 hl' => ?_)
  clear hl
  have hl : lv_has ls70115 5 [(2, .int 0), (4, .int 2), (3, .int 0), (0, .ref h0), (1, .int x)] := hl'
  clear hl'
  refine lv_iload_n hx hb dX16_count_35 rfl (lv_at hl 2 rfl) ?_
  refine lv_aload_n hx hb dX16_count_36 rfl (lv_at hl 3 rfl) ?_
  show W p l e _ s m _ below meth c _ _ _ _ QQ (F0 m 37 ls70115 [.ref h0, .int 0])
  refine va_get (D := (dC, dI)) (ci := 15) (v := .ref (d + 81)) (C := RX16) (T := TX16) (N := 65) hx hb hall zx_16 hown hK.1 hP 0 rfl rfl 20 (by decide) (hall _ zw_336) (fun _ h9 => h9) rfl dX16_count_37 ?_
  refine lv_iload hx hb dX16_count_40 (lv_at hl 1 rfl) ?_
  refine zaldr hx hb hK.1 hP 1 6 rfl rfl (zvp (by decide)) (zrefs_k (k := 2) (by decide +kernel) (by decide)) dX16_count_42 ?_
  refine va_get (D := (dC, dI)) (ci := 13) (v := .int 0) (C := RX14) (T := TX14) (N := 15) hx hb hall zx_14 hown hK.1 hP 4 rfl rfl 0 (by decide) (hall _ zw_402) (fun _ h9 => h9) rfl dX16_count_43 ?_
  refine lv_iconst (v := 3) hx hb dX16_count_46 (by decide) ?_
  refine lv_icmp_ne (tgt := 54) hx hb dX16_count_47 (by decide) (fun _ => ?_) (fun c_47_b70116 => absurd c_47_b70116 (by decide))
  show W p l e _ s m _ below meth c _ _ _ _ QQ (F0 m 54 ls70115 [.int 0])
  refine lv_iconst (v := 0) hx hb dX16_count_54 (by decide) ?_
  refine lv_iadd hx hb dX16_count_55 ?_
  refine lv_topi (fun y70117 ey70117 => ?_)
  obtain rfl : y70117 = 0 := by rw [ey70117]; decide
  try clear ey70117
  refine lv_istore_n (lv' := [(3, .int 0), (2, .int 0), (4, .int 2), (0, .ref h0), (1, .int x)]) hx hb dX16_count_56 rfl hl (by decide) rfl (fun ls70118 hl' => ?_)
  clear hl
  have hl : lv_has ls70118 5 [(3, .int 0), (2, .int 0), (4, .int 2), (0, .ref h0), (1, .int x)] := hl'
  clear hl'
  refine lv_iinc (v := 3) (lv' := [(4, .int 3), (3, .int 0), (2, .int 0), (0, .ref h0), (1, .int x)]) hx hb dX16_count_57 hl (k := 2) rfl (by decide) (by decide) rfl (fun ls70119 hl' => ?_)
  clear hl
  have hl : lv_has ls70119 5 [(4, .int 3), (3, .int 0), (2, .int 0), (0, .ref h0), (1, .int x)] := hl'
  clear hl'
  refine lv_goto (tgt := 7) hx hb dX16_count_60 (by decide) ?_
  show W p l e _ s m _ below meth c _ _ _ _ QQ (F0 m 7 ls70119 [])
  refine lv_iload hx hb dX16_count_7 (lv_at hl 0 rfl) ?_
  refine lv_bipush (v := 12) hx hb dX16_count_9 (by decide) ?_
  refine lv_icmp_ge (tgt := 63) hx hb dX16_count_11 (by decide) (fun c_11_b70120 => absurd c_11_b70120 (by decide)) (fun _ => ?_)
  refine lv_iload_n hx hb dX16_count_14 rfl (lv_at hl 2 rfl) ?_
  refine lv_aload_n hx hb dX16_count_15 rfl (lv_at hl 3 rfl) ?_
  show W p l e _ s m _ below meth c _ _ _ _ QQ (F0 m 16 ls70119 [.ref h0, .int 0])
  refine va_get (D := (dC, dI)) (ci := 15) (v := .ref (d + 81)) (C := RX16) (T := TX16) (N := 65) hx hb hall zx_16 hown hK.1 hP 0 rfl rfl 20 (by decide) (hall _ zw_336) (fun _ h9 => h9) rfl dX16_count_16 ?_
  refine lv_iload hx hb dX16_count_19 (lv_at hl 0 rfl) ?_
  refine zaldr hx hb hK.1 hP 1 6 rfl rfl (zvp (by decide)) (zrefs_k (k := 3) (by decide +kernel) (by decide)) dX16_count_21 ?_
  refine va_get (D := (dC, dI)) (ci := 13) (v := .int 0) (C := RX14) (T := TX14) (N := 15) hx hb hall zx_14 hown hK.1 hP 5 rfl rfl 0 (by decide) (hall _ zw_402) (fun _ h9 => h9) rfl dX16_count_22 ?_
  refine lv_if_eq (tgt := 32) hx hb dX16_count_25 (by decide) (fun _ => ?_) (fun c_25_b70121 => absurd (by decide) c_25_b70121)
  show W p l e _ s m _ below meth c _ _ _ _ QQ (F0 m 32 ls70119 [.int 0])
  refine lv_iconst (v := 0) hx hb dX16_count_32 (by decide) ?_
  refine lv_iadd hx hb dX16_count_33 ?_
  refine lv_topi (fun y70122 ey70122 => ?_)
  obtain rfl : y70122 = 0 := by rw [ey70122]; decide
  try clear ey70122
  refine lv_istore_n (lv' := [(2, .int 0), (4, .int 3), (3, .int 0), (0, .ref h0), (1, .int x)]) hx hb dX16_count_34 rfl hl (by decide) rfl (fun ls70123 hl' => ?_)
  clear hl
  have hl : lv_has ls70123 5 [(2, .int 0), (4, .int 3), (3, .int 0), (0, .ref h0), (1, .int x)] := hl'
  clear hl'
  refine lv_iload_n hx hb dX16_count_35 rfl (lv_at hl 2 rfl) ?_
  refine lv_aload_n hx hb dX16_count_36 rfl (lv_at hl 3 rfl) ?_
  show W p l e _ s m _ below meth c _ _ _ _ QQ (F0 m 37 ls70123 [.ref h0, .int 0])
  refine va_get (D := (dC, dI)) (ci := 15) (v := .ref (d + 81)) (C := RX16) (T := TX16) (N := 65) hx hb hall zx_16 hown hK.1 hP 0 rfl rfl 20 (by decide) (hall _ zw_336) (fun _ h9 => h9) rfl dX16_count_37 ?_
  refine lv_iload hx hb dX16_count_40 (lv_at hl 1 rfl) ?_
  refine zaldr hx hb hK.1 hP 1 6 rfl rfl (zvp (by decide)) (zrefs_k (k := 3) (by decide +kernel) (by decide)) dX16_count_42 ?_
  refine va_get (D := (dC, dI)) (ci := 13) (v := .int 0) (C := RX14) (T := TX14) (N := 15) hx hb hall zx_14 hown hK.1 hP 5 rfl rfl 0 (by decide) (hall _ zw_402) (fun _ h9 => h9) rfl dX16_count_43 ?_
  refine lv_iconst (v := 3) hx hb dX16_count_46 (by decide) ?_
  refine lv_icmp_ne (tgt := 54) hx hb dX16_count_47 (by decide) (fun _ => ?_) (fun c_47_b70124 => absurd c_47_b70124 (by decide))
  show W p l e _ s m _ below meth c _ _ _ _ QQ (F0 m 54 ls70123 [.int 0])
  refine lv_iconst (v := 0) hx hb dX16_count_54 (by decide) ?_
  refine lv_iadd hx hb dX16_count_55 ?_
  refine lv_topi (fun y70125 ey70125 => ?_)
  obtain rfl : y70125 = 0 := by rw [ey70125]; decide
  try clear ey70125
  refine lv_istore_n (lv' := [(3, .int 0), (2, .int 0), (4, .int 3), (0, .ref h0), (1, .int x)]) hx hb dX16_count_56 rfl hl (by decide) rfl (fun ls70126 hl' => ?_)
  clear hl
  have hl : lv_has ls70126 5 [(3, .int 0), (2, .int 0), (4, .int 3), (0, .ref h0), (1, .int x)] := hl'
  clear hl'
  refine lv_iinc (v := 4) (lv' := [(4, .int 4), (3, .int 0), (2, .int 0), (0, .ref h0), (1, .int x)]) hx hb dX16_count_57 hl (k := 2) rfl (by decide) (by decide) rfl (fun ls70127 hl' => ?_)
  clear hl
  have hl : lv_has ls70127 5 [(4, .int 4), (3, .int 0), (2, .int 0), (0, .ref h0), (1, .int x)] := hl'
  clear hl'
  refine lv_goto (tgt := 7) hx hb dX16_count_60 (by decide) ?_
  show W p l e _ s m _ below meth c _ _ _ _ QQ (F0 m 7 ls70127 [])
  refine lv_iload hx hb dX16_count_7 (lv_at hl 0 rfl) ?_
  refine lv_bipush (v := 12) hx hb dX16_count_9 (by decide) ?_
  refine lv_icmp_ge (tgt := 63) hx hb dX16_count_11 (by decide) (fun c_11_b70128 => absurd c_11_b70128 (by decide)) (fun _ => ?_)
  refine lv_iload_n hx hb dX16_count_14 rfl (lv_at hl 2 rfl) ?_
  refine lv_aload_n hx hb dX16_count_15 rfl (lv_at hl 3 rfl) ?_
  show W p l e _ s m _ below meth c _ _ _ _ QQ (F0 m 16 ls70127 [.ref h0, .int 0])
  refine va_get (D := (dC, dI)) (ci := 15) (v := .ref (d + 81)) (C := RX16) (T := TX16) (N := 65) hx hb hall zx_16 hown hK.1 hP 0 rfl rfl 20 (by decide) (hall _ zw_336) (fun _ h9 => h9) rfl dX16_count_16 ?_
  refine lv_iload hx hb dX16_count_19 (lv_at hl 0 rfl) ?_
  refine zaldr hx hb hK.1 hP 1 6 rfl rfl (zvp (by decide)) (zrefs_k (k := 4) (by decide +kernel) (by decide)) dX16_count_21 ?_
  refine va_get (D := (dC, dI)) (ci := 13) (v := .int 0) (C := RX14) (T := TX14) (N := 15) hx hb hall zx_14 hown hK.1 hP 6 rfl rfl 0 (by decide) (hall _ zw_402) (fun _ h9 => h9) rfl dX16_count_22 ?_
  refine lv_if_eq (tgt := 32) hx hb dX16_count_25 (by decide) (fun _ => ?_) (fun c_25_b70129 => absurd (by decide) c_25_b70129)
  show W p l e _ s m _ below meth c _ _ _ _ QQ (F0 m 32 ls70127 [.int 0])
  refine lv_iconst (v := 0) hx hb dX16_count_32 (by decide) ?_
  refine lv_iadd hx hb dX16_count_33 ?_
  refine lv_topi (fun y70130 ey70130 => ?_)
  obtain rfl : y70130 = 0 := by rw [ey70130]; decide
  try clear ey70130
  refine lv_istore_n (lv' := [(2, .int 0), (4, .int 4), (3, .int 0), (0, .ref h0), (1, .int x)]) hx hb dX16_count_34 rfl hl (by decide) rfl (fun ls70131 hl' => ?_)
  clear hl
  have hl : lv_has ls70131 5 [(2, .int 0), (4, .int 4), (3, .int 0), (0, .ref h0), (1, .int x)] := hl'
  clear hl'
  refine lv_iload_n hx hb dX16_count_35 rfl (lv_at hl 2 rfl) ?_
  refine lv_aload_n hx hb dX16_count_36 rfl (lv_at hl 3 rfl) ?_
  show W p l e _ s m _ below meth c _ _ _ _ QQ (F0 m 37 ls70131 [.ref h0, .int 0])
  refine va_get (D := (dC, dI)) (ci := 15) (v := .ref (d + 81)) (C := RX16) (T := TX16) (N := 65) hx hb hall zx_16 hown hK.1 hP 0 rfl rfl 20 (by decide) (hall _ zw_336) (fun _ h9 => h9) rfl dX16_count_37 ?_
  refine lv_iload hx hb dX16_count_40 (lv_at hl 1 rfl) ?_
  refine zaldr hx hb hK.1 hP 1 6 rfl rfl (zvp (by decide)) (zrefs_k (k := 4) (by decide +kernel) (by decide)) dX16_count_42 ?_
  refine va_get (D := (dC, dI)) (ci := 13) (v := .int 0) (C := RX14) (T := TX14) (N := 15) hx hb hall zx_14 hown hK.1 hP 6 rfl rfl 0 (by decide) (hall _ zw_402) (fun _ h9 => h9) rfl dX16_count_43 ?_
  refine lv_iconst (v := 3) hx hb dX16_count_46 (by decide) ?_
  refine lv_icmp_ne (tgt := 54) hx hb dX16_count_47 (by decide) (fun _ => ?_) (fun c_47_b70132 => absurd c_47_b70132 (by decide))
  show W p l e _ s m _ below meth c _ _ _ _ QQ (F0 m 54 ls70131 [.int 0])
  refine lv_iconst (v := 0) hx hb dX16_count_54 (by decide) ?_
  refine lv_iadd hx hb dX16_count_55 ?_
  refine lv_topi (fun y70133 ey70133 => ?_)
  obtain rfl : y70133 = 0 := by rw [ey70133]; decide
  try clear ey70133
  refine lv_istore_n (lv' := [(3, .int 0), (2, .int 0), (4, .int 4), (0, .ref h0), (1, .int x)]) hx hb dX16_count_56 rfl hl (by decide) rfl (fun ls70134 hl' => ?_)
  clear hl
  have hl : lv_has ls70134 5 [(3, .int 0), (2, .int 0), (4, .int 4), (0, .ref h0), (1, .int x)] := hl'
  clear hl'
  refine lv_iinc (v := 5) (lv' := [(4, .int 5), (3, .int 0), (2, .int 0), (0, .ref h0), (1, .int x)]) hx hb dX16_count_57 hl (k := 2) rfl (by decide) (by decide) rfl (fun ls70135 hl' => ?_)
  clear hl
  have hl : lv_has ls70135 5 [(4, .int 5), (3, .int 0), (2, .int 0), (0, .ref h0), (1, .int x)] := hl'
  clear hl'
  refine lv_goto (tgt := 7) hx hb dX16_count_60 (by decide) ?_
  show W p l e _ s m _ below meth c _ _ _ _ QQ (F0 m 7 ls70135 [])
  refine lv_iload hx hb dX16_count_7 (lv_at hl 0 rfl) ?_
  refine lv_bipush (v := 12) hx hb dX16_count_9 (by decide) ?_
  refine lv_icmp_ge (tgt := 63) hx hb dX16_count_11 (by decide) (fun c_11_b70136 => absurd c_11_b70136 (by decide)) (fun _ => ?_)
  refine lv_iload_n hx hb dX16_count_14 rfl (lv_at hl 2 rfl) ?_
  refine lv_aload_n hx hb dX16_count_15 rfl (lv_at hl 3 rfl) ?_
  show W p l e _ s m _ below meth c _ _ _ _ QQ (F0 m 16 ls70135 [.ref h0, .int 0])
  refine va_get (D := (dC, dI)) (ci := 15) (v := .ref (d + 81)) (C := RX16) (T := TX16) (N := 65) hx hb hall zx_16 hown hK.1 hP 0 rfl rfl 20 (by decide) (hall _ zw_336) (fun _ h9 => h9) rfl dX16_count_16 ?_
  refine lv_iload hx hb dX16_count_19 (lv_at hl 0 rfl) ?_
  refine zaldr hx hb hK.1 hP 1 6 rfl rfl (zvp (by decide)) (zrefs_k (k := 5) (by decide +kernel) (by decide)) dX16_count_21 ?_
  refine va_get (D := (dC, dI)) (ci := 13) (v := .int 0) (C := RX14) (T := TX14) (N := 15) hx hb hall zx_14 hown hK.1 hP 7 rfl rfl 0 (by decide) (hall _ zw_402) (fun _ h9 => h9) rfl dX16_count_22 ?_
  refine lv_if_eq (tgt := 32) hx hb dX16_count_25 (by decide) (fun _ => ?_) (fun c_25_b70137 => absurd (by decide) c_25_b70137)
  show W p l e _ s m _ below meth c _ _ _ _ QQ (F0 m 32 ls70135 [.int 0])
  refine lv_iconst (v := 0) hx hb dX16_count_32 (by decide) ?_
  refine lv_iadd hx hb dX16_count_33 ?_
  refine lv_topi (fun y70138 ey70138 => ?_)
  obtain rfl : y70138 = 0 := by rw [ey70138]; decide
  try clear ey70138
  refine lv_istore_n (lv' := [(2, .int 0), (4, .int 5), (3, .int 0), (0, .ref h0), (1, .int x)]) hx hb dX16_count_34 rfl hl (by decide) rfl (fun ls70139 hl' => ?_)
  clear hl
  have hl : lv_has ls70139 5 [(2, .int 0), (4, .int 5), (3, .int 0), (0, .ref h0), (1, .int x)] := hl'
  clear hl'
  refine lv_iload_n hx hb dX16_count_35 rfl (lv_at hl 2 rfl) ?_
  refine lv_aload_n hx hb dX16_count_36 rfl (lv_at hl 3 rfl) ?_
  show W p l e _ s m _ below meth c _ _ _ _ QQ (F0 m 37 ls70139 [.ref h0, .int 0])
  refine va_get (D := (dC, dI)) (ci := 15) (v := .ref (d + 81)) (C := RX16) (T := TX16) (N := 65) hx hb hall zx_16 hown hK.1 hP 0 rfl rfl 20 (by decide) (hall _ zw_336) (fun _ h9 => h9) rfl dX16_count_37 ?_
  refine lv_iload hx hb dX16_count_40 (lv_at hl 1 rfl) ?_
  refine zaldr hx hb hK.1 hP 1 6 rfl rfl (zvp (by decide)) (zrefs_k (k := 5) (by decide +kernel) (by decide)) dX16_count_42 ?_
  refine va_get (D := (dC, dI)) (ci := 13) (v := .int 0) (C := RX14) (T := TX14) (N := 15) hx hb hall zx_14 hown hK.1 hP 7 rfl rfl 0 (by decide) (hall _ zw_402) (fun _ h9 => h9) rfl dX16_count_43 ?_
  refine lv_iconst (v := 3) hx hb dX16_count_46 (by decide) ?_
  refine lv_icmp_ne (tgt := 54) hx hb dX16_count_47 (by decide) (fun _ => ?_) (fun c_47_b70140 => absurd c_47_b70140 (by decide))
  show W p l e _ s m _ below meth c _ _ _ _ QQ (F0 m 54 ls70139 [.int 0])
  refine lv_iconst (v := 0) hx hb dX16_count_54 (by decide) ?_
  refine lv_iadd hx hb dX16_count_55 ?_
  refine lv_topi (fun y70141 ey70141 => ?_)
  obtain rfl : y70141 = 0 := by rw [ey70141]; decide
  try clear ey70141
  refine lv_istore_n (lv' := [(3, .int 0), (2, .int 0), (4, .int 5), (0, .ref h0), (1, .int x)]) hx hb dX16_count_56 rfl hl (by decide) rfl (fun ls70142 hl' => ?_)
  clear hl
  have hl : lv_has ls70142 5 [(3, .int 0), (2, .int 0), (4, .int 5), (0, .ref h0), (1, .int x)] := hl'
  clear hl'
  refine lv_iinc (v := 6) (lv' := [(4, .int 6), (3, .int 0), (2, .int 0), (0, .ref h0), (1, .int x)]) hx hb dX16_count_57 hl (k := 2) rfl (by decide) (by decide) rfl (fun ls70143 hl' => ?_)
  clear hl
  have hl : lv_has ls70143 5 [(4, .int 6), (3, .int 0), (2, .int 0), (0, .ref h0), (1, .int x)] := hl'
  clear hl'
  refine lv_goto (tgt := 7) hx hb dX16_count_60 (by decide) ?_
  show W p l e _ s m _ below meth c _ _ _ _ QQ (F0 m 7 ls70143 [])
  refine lv_iload hx hb dX16_count_7 (lv_at hl 0 rfl) ?_
  refine lv_bipush (v := 12) hx hb dX16_count_9 (by decide) ?_
  refine lv_icmp_ge (tgt := 63) hx hb dX16_count_11 (by decide) (fun c_11_b70144 => absurd c_11_b70144 (by decide)) (fun _ => ?_)
  refine lv_iload_n hx hb dX16_count_14 rfl (lv_at hl 2 rfl) ?_
  refine lv_aload_n hx hb dX16_count_15 rfl (lv_at hl 3 rfl) ?_
  show W p l e _ s m _ below meth c _ _ _ _ QQ (F0 m 16 ls70143 [.ref h0, .int 0])
  refine va_get (D := (dC, dI)) (ci := 15) (v := .ref (d + 81)) (C := RX16) (T := TX16) (N := 65) hx hb hall zx_16 hown hK.1 hP 0 rfl rfl 20 (by decide) (hall _ zw_336) (fun _ h9 => h9) rfl dX16_count_16 ?_
  refine lv_iload hx hb dX16_count_19 (lv_at hl 0 rfl) ?_
  refine zaldr hx hb hK.1 hP 1 6 rfl rfl (zvp (by decide)) (zrefs_k (k := 6) (by decide +kernel) (by decide)) dX16_count_21 ?_
  refine va_get (D := (dC, dI)) (ci := 13) (v := .int 0) (C := RX14) (T := TX14) (N := 15) hx hb hall zx_14 hown hK.1 hP 8 rfl rfl 0 (by decide) (hall _ zw_402) (fun _ h9 => h9) rfl dX16_count_22 ?_
  refine lv_if_eq (tgt := 32) hx hb dX16_count_25 (by decide) (fun _ => ?_) (fun c_25_b70145 => absurd (by decide) c_25_b70145)
  show W p l e _ s m _ below meth c _ _ _ _ QQ (F0 m 32 ls70143 [.int 0])
  refine lv_iconst (v := 0) hx hb dX16_count_32 (by decide) ?_
  refine lv_iadd hx hb dX16_count_33 ?_
  refine lv_topi (fun y70146 ey70146 => ?_)
  obtain rfl : y70146 = 0 := by rw [ey70146]; decide
  try clear ey70146
  refine lv_istore_n (lv' := [(2, .int 0), (4, .int 6), (3, .int 0), (0, .ref h0), (1, .int x)]) hx hb dX16_count_34 rfl hl (by decide) rfl (fun ls70147 hl' => ?_)
  clear hl
  have hl : lv_has ls70147 5 [(2, .int 0), (4, .int 6), (3, .int 0), (0, .ref h0), (1, .int x)] := hl'
  clear hl'
  refine lv_iload_n hx hb dX16_count_35 rfl (lv_at hl 2 rfl) ?_
  refine lv_aload_n hx hb dX16_count_36 rfl (lv_at hl 3 rfl) ?_
  show W p l e _ s m _ below meth c _ _ _ _ QQ (F0 m 37 ls70147 [.ref h0, .int 0])
  refine va_get (D := (dC, dI)) (ci := 15) (v := .ref (d + 81)) (C := RX16) (T := TX16) (N := 65) hx hb hall zx_16 hown hK.1 hP 0 rfl rfl 20 (by decide) (hall _ zw_336) (fun _ h9 => h9) rfl dX16_count_37 ?_
  refine lv_iload hx hb dX16_count_40 (lv_at hl 1 rfl) ?_
  refine zaldr hx hb hK.1 hP 1 6 rfl rfl (zvp (by decide)) (zrefs_k (k := 6) (by decide +kernel) (by decide)) dX16_count_42 ?_
  refine va_get (D := (dC, dI)) (ci := 13) (v := .int 0) (C := RX14) (T := TX14) (N := 15) hx hb hall zx_14 hown hK.1 hP 8 rfl rfl 0 (by decide) (hall _ zw_402) (fun _ h9 => h9) rfl dX16_count_43 ?_
  refine lv_iconst (v := 3) hx hb dX16_count_46 (by decide) ?_
  refine lv_icmp_ne (tgt := 54) hx hb dX16_count_47 (by decide) (fun _ => ?_) (fun c_47_b70148 => absurd c_47_b70148 (by decide))
  show W p l e _ s m _ below meth c _ _ _ _ QQ (F0 m 54 ls70147 [.int 0])
  refine lv_iconst (v := 0) hx hb dX16_count_54 (by decide) ?_
  refine lv_iadd hx hb dX16_count_55 ?_
  refine lv_topi (fun y70149 ey70149 => ?_)
  obtain rfl : y70149 = 0 := by rw [ey70149]; decide
  try clear ey70149
  refine lv_istore_n (lv' := [(3, .int 0), (2, .int 0), (4, .int 6), (0, .ref h0), (1, .int x)]) hx hb dX16_count_56 rfl hl (by decide) rfl (fun ls70150 hl' => ?_)
  clear hl
  have hl : lv_has ls70150 5 [(3, .int 0), (2, .int 0), (4, .int 6), (0, .ref h0), (1, .int x)] := hl'
  clear hl'
  refine lv_iinc (v := 7) (lv' := [(4, .int 7), (3, .int 0), (2, .int 0), (0, .ref h0), (1, .int x)]) hx hb dX16_count_57 hl (k := 2) rfl (by decide) (by decide) rfl (fun ls70151 hl' => ?_)
  clear hl
  have hl : lv_has ls70151 5 [(4, .int 7), (3, .int 0), (2, .int 0), (0, .ref h0), (1, .int x)] := hl'
  clear hl'
  refine lv_goto (tgt := 7) hx hb dX16_count_60 (by decide) ?_
  show W p l e _ s m _ below meth c _ _ _ _ QQ (F0 m 7 ls70151 [])
  refine lv_iload hx hb dX16_count_7 (lv_at hl 0 rfl) ?_
  refine lv_bipush (v := 12) hx hb dX16_count_9 (by decide) ?_
  refine lv_icmp_ge (tgt := 63) hx hb dX16_count_11 (by decide) (fun c_11_b70152 => absurd c_11_b70152 (by decide)) (fun _ => ?_)
  refine lv_iload_n hx hb dX16_count_14 rfl (lv_at hl 2 rfl) ?_
  refine lv_aload_n hx hb dX16_count_15 rfl (lv_at hl 3 rfl) ?_
  show W p l e _ s m _ below meth c _ _ _ _ QQ (F0 m 16 ls70151 [.ref h0, .int 0])
  refine va_get (D := (dC, dI)) (ci := 15) (v := .ref (d + 81)) (C := RX16) (T := TX16) (N := 65) hx hb hall zx_16 hown hK.1 hP 0 rfl rfl 20 (by decide) (hall _ zw_336) (fun _ h9 => h9) rfl dX16_count_16 ?_
  refine lv_iload hx hb dX16_count_19 (lv_at hl 0 rfl) ?_
  refine zaldr hx hb hK.1 hP 1 6 rfl rfl (zvp (by decide)) (zrefs_k (k := 7) (by decide +kernel) (by decide)) dX16_count_21 ?_
  refine va_get (D := (dC, dI)) (ci := 13) (v := .int 0) (C := RX14) (T := TX14) (N := 15) hx hb hall zx_14 hown hK.1 hP 9 rfl rfl 0 (by decide) (hall _ zw_402) (fun _ h9 => h9) rfl dX16_count_22 ?_
  refine lv_if_eq (tgt := 32) hx hb dX16_count_25 (by decide) (fun _ => ?_) (fun c_25_b70153 => absurd (by decide) c_25_b70153)
  show W p l e _ s m _ below meth c _ _ _ _ QQ (F0 m 32 ls70151 [.int 0])
  refine lv_iconst (v := 0) hx hb dX16_count_32 (by decide) ?_
  refine lv_iadd hx hb dX16_count_33 ?_
  refine lv_topi (fun y70154 ey70154 => ?_)
  obtain rfl : y70154 = 0 := by rw [ey70154]; decide
  try clear ey70154
  refine lv_istore_n (lv' := [(2, .int 0), (4, .int 7), (3, .int 0), (0, .ref h0), (1, .int x)]) hx hb dX16_count_34 rfl hl (by decide) rfl (fun ls70155 hl' => ?_)
  clear hl
  have hl : lv_has ls70155 5 [(2, .int 0), (4, .int 7), (3, .int 0), (0, .ref h0), (1, .int x)] := hl'
  clear hl'
  refine lv_iload_n hx hb dX16_count_35 rfl (lv_at hl 2 rfl) ?_
  refine lv_aload_n hx hb dX16_count_36 rfl (lv_at hl 3 rfl) ?_
  show W p l e _ s m _ below meth c _ _ _ _ QQ (F0 m 37 ls70155 [.ref h0, .int 0])
  refine va_get (D := (dC, dI)) (ci := 15) (v := .ref (d + 81)) (C := RX16) (T := TX16) (N := 65) hx hb hall zx_16 hown hK.1 hP 0 rfl rfl 20 (by decide) (hall _ zw_336) (fun _ h9 => h9) rfl dX16_count_37 ?_
  refine lv_iload hx hb dX16_count_40 (lv_at hl 1 rfl) ?_
  refine zaldr hx hb hK.1 hP 1 6 rfl rfl (zvp (by decide)) (zrefs_k (k := 7) (by decide +kernel) (by decide)) dX16_count_42 ?_
  refine va_get (D := (dC, dI)) (ci := 13) (v := .int 0) (C := RX14) (T := TX14) (N := 15) hx hb hall zx_14 hown hK.1 hP 9 rfl rfl 0 (by decide) (hall _ zw_402) (fun _ h9 => h9) rfl dX16_count_43 ?_
  refine lv_iconst (v := 3) hx hb dX16_count_46 (by decide) ?_
  refine lv_icmp_ne (tgt := 54) hx hb dX16_count_47 (by decide) (fun _ => ?_) (fun c_47_b70156 => absurd c_47_b70156 (by decide))
  show W p l e _ s m _ below meth c _ _ _ _ QQ (F0 m 54 ls70155 [.int 0])
  refine lv_iconst (v := 0) hx hb dX16_count_54 (by decide) ?_
  refine lv_iadd hx hb dX16_count_55 ?_
  refine lv_topi (fun y70157 ey70157 => ?_)
  obtain rfl : y70157 = 0 := by rw [ey70157]; decide
  try clear ey70157
  refine lv_istore_n (lv' := [(3, .int 0), (2, .int 0), (4, .int 7), (0, .ref h0), (1, .int x)]) hx hb dX16_count_56 rfl hl (by decide) rfl (fun ls70158 hl' => ?_)
  clear hl
  have hl : lv_has ls70158 5 [(3, .int 0), (2, .int 0), (4, .int 7), (0, .ref h0), (1, .int x)] := hl'
  clear hl'
  refine lv_iinc (v := 8) (lv' := [(4, .int 8), (3, .int 0), (2, .int 0), (0, .ref h0), (1, .int x)]) hx hb dX16_count_57 hl (k := 2) rfl (by decide) (by decide) rfl (fun ls70159 hl' => ?_)
  clear hl
  have hl : lv_has ls70159 5 [(4, .int 8), (3, .int 0), (2, .int 0), (0, .ref h0), (1, .int x)] := hl'
  clear hl'
  refine lv_goto (tgt := 7) hx hb dX16_count_60 (by decide) ?_
  show W p l e _ s m _ below meth c _ _ _ _ QQ (F0 m 7 ls70159 [])
  refine lv_iload hx hb dX16_count_7 (lv_at hl 0 rfl) ?_
  refine lv_bipush (v := 12) hx hb dX16_count_9 (by decide) ?_
  refine lv_icmp_ge (tgt := 63) hx hb dX16_count_11 (by decide) (fun c_11_b70160 => absurd c_11_b70160 (by decide)) (fun _ => ?_)
  refine lv_iload_n hx hb dX16_count_14 rfl (lv_at hl 2 rfl) ?_
  refine lv_aload_n hx hb dX16_count_15 rfl (lv_at hl 3 rfl) ?_
  show W p l e _ s m _ below meth c _ _ _ _ QQ (F0 m 16 ls70159 [.ref h0, .int 0])
  refine va_get (D := (dC, dI)) (ci := 15) (v := .ref (d + 81)) (C := RX16) (T := TX16) (N := 65) hx hb hall zx_16 hown hK.1 hP 0 rfl rfl 20 (by decide) (hall _ zw_336) (fun _ h9 => h9) rfl dX16_count_16 ?_
  refine lv_iload hx hb dX16_count_19 (lv_at hl 0 rfl) ?_
  refine zaldr hx hb hK.1 hP 1 6 rfl rfl (zvp (by decide)) (zrefs_k (k := 8) (by decide +kernel) (by decide)) dX16_count_21 ?_
  refine va_get (D := (dC, dI)) (ci := 13) (v := .int 0) (C := RX14) (T := TX14) (N := 15) hx hb hall zx_14 hown hK.1 hP 10 rfl rfl 0 (by decide) (hall _ zw_402) (fun _ h9 => h9) rfl dX16_count_22 ?_
  refine lv_if_eq (tgt := 32) hx hb dX16_count_25 (by decide) (fun _ => ?_) (fun c_25_b70161 => absurd (by decide) c_25_b70161)
  show W p l e _ s m _ below meth c _ _ _ _ QQ (F0 m 32 ls70159 [.int 0])
  refine lv_iconst (v := 0) hx hb dX16_count_32 (by decide) ?_
  refine lv_iadd hx hb dX16_count_33 ?_
  refine lv_topi (fun y70162 ey70162 => ?_)
  obtain rfl : y70162 = 0 := by rw [ey70162]; decide
  try clear ey70162
  refine lv_istore_n (lv' := [(2, .int 0), (4, .int 8), (3, .int 0), (0, .ref h0), (1, .int x)]) hx hb dX16_count_34 rfl hl (by decide) rfl (fun ls70163 hl' => ?_)
  clear hl
  have hl : lv_has ls70163 5 [(2, .int 0), (4, .int 8), (3, .int 0), (0, .ref h0), (1, .int x)] := hl'
  clear hl'
  refine lv_iload_n hx hb dX16_count_35 rfl (lv_at hl 2 rfl) ?_
  refine lv_aload_n hx hb dX16_count_36 rfl (lv_at hl 3 rfl) ?_
  show W p l e _ s m _ below meth c _ _ _ _ QQ (F0 m 37 ls70163 [.ref h0, .int 0])
  refine va_get (D := (dC, dI)) (ci := 15) (v := .ref (d + 81)) (C := RX16) (T := TX16) (N := 65) hx hb hall zx_16 hown hK.1 hP 0 rfl rfl 20 (by decide) (hall _ zw_336) (fun _ h9 => h9) rfl dX16_count_37 ?_
  refine lv_iload hx hb dX16_count_40 (lv_at hl 1 rfl) ?_
  refine zaldr hx hb hK.1 hP 1 6 rfl rfl (zvp (by decide)) (zrefs_k (k := 8) (by decide +kernel) (by decide)) dX16_count_42 ?_
  refine va_get (D := (dC, dI)) (ci := 13) (v := .int 0) (C := RX14) (T := TX14) (N := 15) hx hb hall zx_14 hown hK.1 hP 10 rfl rfl 0 (by decide) (hall _ zw_402) (fun _ h9 => h9) rfl dX16_count_43 ?_
  refine lv_iconst (v := 3) hx hb dX16_count_46 (by decide) ?_
  refine lv_icmp_ne (tgt := 54) hx hb dX16_count_47 (by decide) (fun _ => ?_) (fun c_47_b70164 => absurd c_47_b70164 (by decide))
  show W p l e _ s m _ below meth c _ _ _ _ QQ (F0 m 54 ls70163 [.int 0])
  refine lv_iconst (v := 0) hx hb dX16_count_54 (by decide) ?_
  refine lv_iadd hx hb dX16_count_55 ?_
  refine lv_topi (fun y70165 ey70165 => ?_)
  obtain rfl : y70165 = 0 := by rw [ey70165]; decide
  try clear ey70165
  refine lv_istore_n (lv' := [(3, .int 0), (2, .int 0), (4, .int 8), (0, .ref h0), (1, .int x)]) hx hb dX16_count_56 rfl hl (by decide) rfl (fun ls70166 hl' => ?_)
  clear hl
  have hl : lv_has ls70166 5 [(3, .int 0), (2, .int 0), (4, .int 8), (0, .ref h0), (1, .int x)] := hl'
  clear hl'
  refine lv_iinc (v := 9) (lv' := [(4, .int 9), (3, .int 0), (2, .int 0), (0, .ref h0), (1, .int x)]) hx hb dX16_count_57 hl (k := 2) rfl (by decide) (by decide) rfl (fun ls70167 hl' => ?_)
  clear hl
  have hl : lv_has ls70167 5 [(4, .int 9), (3, .int 0), (2, .int 0), (0, .ref h0), (1, .int x)] := hl'
  clear hl'
  refine lv_goto (tgt := 7) hx hb dX16_count_60 (by decide) ?_
  show W p l e _ s m _ below meth c _ _ _ _ QQ (F0 m 7 ls70167 [])
  refine lv_iload hx hb dX16_count_7 (lv_at hl 0 rfl) ?_
  refine lv_bipush (v := 12) hx hb dX16_count_9 (by decide) ?_
  refine lv_icmp_ge (tgt := 63) hx hb dX16_count_11 (by decide) (fun c_11_b70168 => absurd c_11_b70168 (by decide)) (fun _ => ?_)
  refine lv_iload_n hx hb dX16_count_14 rfl (lv_at hl 2 rfl) ?_
  refine lv_aload_n hx hb dX16_count_15 rfl (lv_at hl 3 rfl) ?_
  show W p l e _ s m _ below meth c _ _ _ _ QQ (F0 m 16 ls70167 [.ref h0, .int 0])
  refine va_get (D := (dC, dI)) (ci := 15) (v := .ref (d + 81)) (C := RX16) (T := TX16) (N := 65) hx hb hall zx_16 hown hK.1 hP 0 rfl rfl 20 (by decide) (hall _ zw_336) (fun _ h9 => h9) rfl dX16_count_16 ?_
  refine lv_iload hx hb dX16_count_19 (lv_at hl 0 rfl) ?_
  refine zaldr hx hb hK.1 hP 1 6 rfl rfl (zvp (by decide)) (zrefs_k (k := 9) (by decide +kernel) (by decide)) dX16_count_21 ?_
  refine va_get (D := (dC, dI)) (ci := 13) (v := .int 0) (C := RX14) (T := TX14) (N := 15) hx hb hall zx_14 hown hK.1 hP 11 rfl rfl 0 (by decide) (hall _ zw_402) (fun _ h9 => h9) rfl dX16_count_22 ?_
  refine lv_if_eq (tgt := 32) hx hb dX16_count_25 (by decide) (fun _ => ?_) (fun c_25_b70169 => absurd (by decide) c_25_b70169)
  show W p l e _ s m _ below meth c _ _ _ _ QQ (F0 m 32 ls70167 [.int 0])
  refine lv_iconst (v := 0) hx hb dX16_count_32 (by decide) ?_
  refine lv_iadd hx hb dX16_count_33 ?_
  refine lv_topi (fun y70170 ey70170 => ?_)
  obtain rfl : y70170 = 0 := by rw [ey70170]; decide
  try clear ey70170
  refine lv_istore_n (lv' := [(2, .int 0), (4, .int 9), (3, .int 0), (0, .ref h0), (1, .int x)]) hx hb dX16_count_34 rfl hl (by decide) rfl (fun ls70171 hl' => ?_)
  clear hl
  have hl : lv_has ls70171 5 [(2, .int 0), (4, .int 9), (3, .int 0), (0, .ref h0), (1, .int x)] := hl'
  clear hl'
  refine lv_iload_n hx hb dX16_count_35 rfl (lv_at hl 2 rfl) ?_
  refine lv_aload_n hx hb dX16_count_36 rfl (lv_at hl 3 rfl) ?_
  show W p l e _ s m _ below meth c _ _ _ _ QQ (F0 m 37 ls70171 [.ref h0, .int 0])
  refine va_get (D := (dC, dI)) (ci := 15) (v := .ref (d + 81)) (C := RX16) (T := TX16) (N := 65) hx hb hall zx_16 hown hK.1 hP 0 rfl rfl 20 (by decide) (hall _ zw_336) (fun _ h9 => h9) rfl dX16_count_37 ?_
  refine lv_iload hx hb dX16_count_40 (lv_at hl 1 rfl) ?_
  refine zaldr hx hb hK.1 hP 1 6 rfl rfl (zvp (by decide)) (zrefs_k (k := 9) (by decide +kernel) (by decide)) dX16_count_42 ?_
  refine va_get (D := (dC, dI)) (ci := 13) (v := .int 0) (C := RX14) (T := TX14) (N := 15) hx hb hall zx_14 hown hK.1 hP 11 rfl rfl 0 (by decide) (hall _ zw_402) (fun _ h9 => h9) rfl dX16_count_43 ?_
  refine lv_iconst (v := 3) hx hb dX16_count_46 (by decide) ?_
  refine lv_icmp_ne (tgt := 54) hx hb dX16_count_47 (by decide) (fun _ => ?_) (fun c_47_b70172 => absurd c_47_b70172 (by decide))
  show W p l e _ s m _ below meth c _ _ _ _ QQ (F0 m 54 ls70171 [.int 0])
  refine lv_iconst (v := 0) hx hb dX16_count_54 (by decide) ?_
  refine lv_iadd hx hb dX16_count_55 ?_
  refine lv_topi (fun y70173 ey70173 => ?_)
  obtain rfl : y70173 = 0 := by rw [ey70173]; decide
  try clear ey70173
  refine lv_istore_n (lv' := [(3, .int 0), (2, .int 0), (4, .int 9), (0, .ref h0), (1, .int x)]) hx hb dX16_count_56 rfl hl (by decide) rfl (fun ls70174 hl' => ?_)
  clear hl
  have hl : lv_has ls70174 5 [(3, .int 0), (2, .int 0), (4, .int 9), (0, .ref h0), (1, .int x)] := hl'
  clear hl'
  refine lv_iinc (v := 10) (lv' := [(4, .int 10), (3, .int 0), (2, .int 0), (0, .ref h0), (1, .int x)]) hx hb dX16_count_57 hl (k := 2) rfl (by decide) (by decide) rfl (fun ls70175 hl' => ?_)
  clear hl
  have hl : lv_has ls70175 5 [(4, .int 10), (3, .int 0), (2, .int 0), (0, .ref h0), (1, .int x)] := hl'
  clear hl'
  refine lv_goto (tgt := 7) hx hb dX16_count_60 (by decide) ?_
  show W p l e _ s m _ below meth c _ _ _ _ QQ (F0 m 7 ls70175 [])
  refine lv_iload hx hb dX16_count_7 (lv_at hl 0 rfl) ?_
  refine lv_bipush (v := 12) hx hb dX16_count_9 (by decide) ?_
  refine lv_icmp_ge (tgt := 63) hx hb dX16_count_11 (by decide) (fun c_11_b70176 => absurd c_11_b70176 (by decide)) (fun _ => ?_)
  refine lv_iload_n hx hb dX16_count_14 rfl (lv_at hl 2 rfl) ?_
  refine lv_aload_n hx hb dX16_count_15 rfl (lv_at hl 3 rfl) ?_
  show W p l e _ s m _ below meth c _ _ _ _ QQ (F0 m 16 ls70175 [.ref h0, .int 0])
  refine va_get (D := (dC, dI)) (ci := 15) (v := .ref (d + 81)) (C := RX16) (T := TX16) (N := 65) hx hb hall zx_16 hown hK.1 hP 0 rfl rfl 20 (by decide) (hall _ zw_336) (fun _ h9 => h9) rfl dX16_count_16 ?_
  refine lv_iload hx hb dX16_count_19 (lv_at hl 0 rfl) ?_
  refine zaldr hx hb hK.1 hP 1 6 rfl rfl (zvp (by decide)) (zrefs_k (k := 10) (by decide +kernel) (by decide)) dX16_count_21 ?_
  refine va_get (D := (dC, dI)) (ci := 13) (v := .int 0) (C := RX14) (T := TX14) (N := 15) hx hb hall zx_14 hown hK.1 hP 12 rfl rfl 0 (by decide) (hall _ zw_402) (fun _ h9 => h9) rfl dX16_count_22 ?_
  refine lv_if_eq (tgt := 32) hx hb dX16_count_25 (by decide) (fun _ => ?_) (fun c_25_b70177 => absurd (by decide) c_25_b70177)
  show W p l e _ s m _ below meth c _ _ _ _ QQ (F0 m 32 ls70175 [.int 0])
  refine lv_iconst (v := 0) hx hb dX16_count_32 (by decide) ?_
  refine lv_iadd hx hb dX16_count_33 ?_
  refine lv_topi (fun y70178 ey70178 => ?_)
  obtain rfl : y70178 = 0 := by rw [ey70178]; decide
  try clear ey70178
  refine lv_istore_n (lv' := [(2, .int 0), (4, .int 10), (3, .int 0), (0, .ref h0), (1, .int x)]) hx hb dX16_count_34 rfl hl (by decide) rfl (fun ls70179 hl' => ?_)
  clear hl
  have hl : lv_has ls70179 5 [(2, .int 0), (4, .int 10), (3, .int 0), (0, .ref h0), (1, .int x)] := hl'
  clear hl'
  refine lv_iload_n hx hb dX16_count_35 rfl (lv_at hl 2 rfl) ?_
  refine lv_aload_n hx hb dX16_count_36 rfl (lv_at hl 3 rfl) ?_
  show W p l e _ s m _ below meth c _ _ _ _ QQ (F0 m 37 ls70179 [.ref h0, .int 0])
  refine va_get (D := (dC, dI)) (ci := 15) (v := .ref (d + 81)) (C := RX16) (T := TX16) (N := 65) hx hb hall zx_16 hown hK.1 hP 0 rfl rfl 20 (by decide) (hall _ zw_336) (fun _ h9 => h9) rfl dX16_count_37 ?_
  refine lv_iload hx hb dX16_count_40 (lv_at hl 1 rfl) ?_
  refine zaldr hx hb hK.1 hP 1 6 rfl rfl (zvp (by decide)) (zrefs_k (k := 10) (by decide +kernel) (by decide)) dX16_count_42 ?_
  refine va_get (D := (dC, dI)) (ci := 13) (v := .int 0) (C := RX14) (T := TX14) (N := 15) hx hb hall zx_14 hown hK.1 hP 12 rfl rfl 0 (by decide) (hall _ zw_402) (fun _ h9 => h9) rfl dX16_count_43 ?_
  refine lv_iconst (v := 3) hx hb dX16_count_46 (by decide) ?_
  refine lv_icmp_ne (tgt := 54) hx hb dX16_count_47 (by decide) (fun _ => ?_) (fun c_47_b70180 => absurd c_47_b70180 (by decide))
  show W p l e _ s m _ below meth c _ _ _ _ QQ (F0 m 54 ls70179 [.int 0])
  refine lv_iconst (v := 0) hx hb dX16_count_54 (by decide) ?_
  refine lv_iadd hx hb dX16_count_55 ?_
  refine lv_topi (fun y70181 ey70181 => ?_)
  obtain rfl : y70181 = 0 := by rw [ey70181]; decide
  try clear ey70181
  refine lv_istore_n (lv' := [(3, .int 0), (2, .int 0), (4, .int 10), (0, .ref h0), (1, .int x)]) hx hb dX16_count_56 rfl hl (by decide) rfl (fun ls70182 hl' => ?_)
  clear hl
  have hl : lv_has ls70182 5 [(3, .int 0), (2, .int 0), (4, .int 10), (0, .ref h0), (1, .int x)] := hl'
  clear hl'
  refine lv_iinc (v := 11) (lv' := [(4, .int 11), (3, .int 0), (2, .int 0), (0, .ref h0), (1, .int x)]) hx hb dX16_count_57 hl (k := 2) rfl (by decide) (by decide) rfl (fun ls70183 hl' => ?_)
  clear hl
  have hl : lv_has ls70183 5 [(4, .int 11), (3, .int 0), (2, .int 0), (0, .ref h0), (1, .int x)] := hl'
  clear hl'
  refine lv_goto (tgt := 7) hx hb dX16_count_60 (by decide) ?_
  show W p l e _ s m _ below meth c _ _ _ _ QQ (F0 m 7 ls70183 [])
  refine lv_iload hx hb dX16_count_7 (lv_at hl 0 rfl) ?_
  refine lv_bipush (v := 12) hx hb dX16_count_9 (by decide) ?_
  refine lv_icmp_ge (tgt := 63) hx hb dX16_count_11 (by decide) (fun c_11_b70184 => absurd c_11_b70184 (by decide)) (fun _ => ?_)
  refine lv_iload_n hx hb dX16_count_14 rfl (lv_at hl 2 rfl) ?_
  refine lv_aload_n hx hb dX16_count_15 rfl (lv_at hl 3 rfl) ?_
  show W p l e _ s m _ below meth c _ _ _ _ QQ (F0 m 16 ls70183 [.ref h0, .int 0])
  refine va_get (D := (dC, dI)) (ci := 15) (v := .ref (d + 81)) (C := RX16) (T := TX16) (N := 65) hx hb hall zx_16 hown hK.1 hP 0 rfl rfl 20 (by decide) (hall _ zw_336) (fun _ h9 => h9) rfl dX16_count_16 ?_
  refine lv_iload hx hb dX16_count_19 (lv_at hl 0 rfl) ?_
  refine zaldr hx hb hK.1 hP 1 6 rfl rfl (zvp (by decide)) (zrefs_k (k := 11) (by decide +kernel) (by decide)) dX16_count_21 ?_
  refine va_get (D := (dC, dI)) (ci := 13) (v := .int 0) (C := RX14) (T := TX14) (N := 15) hx hb hall zx_14 hown hK.1 hP 13 rfl rfl 0 (by decide) (hall _ zw_402) (fun _ h9 => h9) rfl dX16_count_22 ?_
  refine lv_if_eq (tgt := 32) hx hb dX16_count_25 (by decide) (fun _ => ?_) (fun c_25_b70185 => absurd (by decide) c_25_b70185)
  show W p l e _ s m _ below meth c _ _ _ _ QQ (F0 m 32 ls70183 [.int 0])
  refine lv_iconst (v := 0) hx hb dX16_count_32 (by decide) ?_
  refine lv_iadd hx hb dX16_count_33 ?_
  refine lv_topi (fun y70186 ey70186 => ?_)
  obtain rfl : y70186 = 0 := by rw [ey70186]; decide
  try clear ey70186
  refine lv_istore_n (lv' := [(2, .int 0), (4, .int 11), (3, .int 0), (0, .ref h0), (1, .int x)]) hx hb dX16_count_34 rfl hl (by decide) rfl (fun ls70187 hl' => ?_)
  clear hl
  have hl : lv_has ls70187 5 [(2, .int 0), (4, .int 11), (3, .int 0), (0, .ref h0), (1, .int x)] := hl'
  clear hl'
  refine lv_iload_n hx hb dX16_count_35 rfl (lv_at hl 2 rfl) ?_
  refine lv_aload_n hx hb dX16_count_36 rfl (lv_at hl 3 rfl) ?_
  show W p l e _ s m _ below meth c _ _ _ _ QQ (F0 m 37 ls70187 [.ref h0, .int 0])
  refine va_get (D := (dC, dI)) (ci := 15) (v := .ref (d + 81)) (C := RX16) (T := TX16) (N := 65) hx hb hall zx_16 hown hK.1 hP 0 rfl rfl 20 (by decide) (hall _ zw_336) (fun _ h9 => h9) rfl dX16_count_37 ?_
  refine lv_iload hx hb dX16_count_40 (lv_at hl 1 rfl) ?_
  refine zaldr hx hb hK.1 hP 1 6 rfl rfl (zvp (by decide)) (zrefs_k (k := 11) (by decide +kernel) (by decide)) dX16_count_42 ?_
  refine va_get (D := (dC, dI)) (ci := 13) (v := .int 0) (C := RX14) (T := TX14) (N := 15) hx hb hall zx_14 hown hK.1 hP 13 rfl rfl 0 (by decide) (hall _ zw_402) (fun _ h9 => h9) rfl dX16_count_43 ?_
  refine lv_iconst (v := 3) hx hb dX16_count_46 (by decide) ?_
  refine lv_icmp_ne (tgt := 54) hx hb dX16_count_47 (by decide) (fun _ => ?_) (fun c_47_b70188 => absurd c_47_b70188 (by decide))
  show W p l e _ s m _ below meth c _ _ _ _ QQ (F0 m 54 ls70187 [.int 0])
  refine lv_iconst (v := 0) hx hb dX16_count_54 (by decide) ?_
  refine lv_iadd hx hb dX16_count_55 ?_
  refine lv_topi (fun y70189 ey70189 => ?_)
  obtain rfl : y70189 = 0 := by rw [ey70189]; decide
  try clear ey70189
  refine lv_istore_n (lv' := [(3, .int 0), (2, .int 0), (4, .int 11), (0, .ref h0), (1, .int x)]) hx hb dX16_count_56 rfl hl (by decide) rfl (fun ls70190 hl' => ?_)
  clear hl
  have hl : lv_has ls70190 5 [(3, .int 0), (2, .int 0), (4, .int 11), (0, .ref h0), (1, .int x)] := hl'
  clear hl'
  refine lv_iinc (v := 12) (lv' := [(4, .int 12), (3, .int 0), (2, .int 0), (0, .ref h0), (1, .int x)]) hx hb dX16_count_57 hl (k := 2) rfl (by decide) (by decide) rfl (fun ls70191 hl' => ?_)
  clear hl
  have hl : lv_has ls70191 5 [(4, .int 12), (3, .int 0), (2, .int 0), (0, .ref h0), (1, .int x)] := hl'
  clear hl'
  refine lv_goto (tgt := 7) hx hb dX16_count_60 (by decide) ?_
  show W p l e _ s m _ below meth c _ _ _ _ QQ (F0 m 7 ls70191 [])
  refine lv_iload hx hb dX16_count_7 (lv_at hl 0 rfl) ?_
  refine lv_bipush (v := 12) hx hb dX16_count_9 (by decide) ?_
  refine lv_icmp_ge (tgt := 63) hx hb dX16_count_11 (by decide) (fun _ => ?_) (fun c_11_b70192 => absurd (by decide) c_11_b70192)
  refine lv_iload_n hx hb dX16_count_63 rfl (lv_at hl 4 rfl) ?_
  rcases pk_ix x (n := 6) (by decide) with h6 | h6 | ⟨j6, hj6, e6⟩
  · refine lv_tableOut (tgt := 128) hx hb dX16_count_64 (Or.inl (Int32.lt_iff_toInt_lt.mp h6)) (by decide) ?_
    refine lv_iconst (v := (-1)) hx hb dX16_count_128 (by decide) ?_
    rw [← hQ]
    exact W.iret (v := (-1)) hx hb hr (fun zt ht hW => ⟨⟨(-1), (), rfl, by simp [zcount, h6], (show zt.heap.size = s.heap.size by rw [ht])⟩, hS.F ht⟩) hS.2.2 dX16_count_129
  · refine lv_tableOut (tgt := 128) hx hb dX16_count_64 (Or.inr (by have h7 := Int32.le_iff_toInt_le.mp h6; have e7 : (nI 6).toInt = 6 := (by decide); omega)) (by decide) ?_
    refine lv_iconst (v := (-1)) hx hb dX16_count_128 (by decide) ?_
    rw [← hQ]
    exact W.iret (v := (-1)) hx hb hr (fun zt ht hW => ⟨⟨(-1), (), rfl, (zcount_hi h6).symm, (show zt.heap.size = s.heap.size by rw [ht])⟩, hS.F ht⟩) hS.2.2 dX16_count_129
  · rcases j6 with _ | _ | _ | _ | _ | _ | j6
    · subst e6
      refine lv_tableIn (off := 40) (tgt := 104) hx hb dX16_count_64 (by decide) (by decide) (by decide) (by decide) ?_
      replace hl : lv_has ls70191 5 [(4, .int 12), (3, .int 0), (2, .int 0), (0, .ref h0)] := lv_sub hl [0, 1, 2, 3] rfl
      refine lv_aload_n hx hb dX16_count_104 rfl (lv_at hl 3 rfl) ?_
      show W p l e _ s m _ below meth c _ _ _ _ QQ (F0 m 105 ls70191 [.ref h0])
      refine va_get (D := (dC, dI)) (ci := 15) (v := .int 0) (C := RX16) (T := TX16) (N := 65) hx hb hall zx_16 hown hK.1 hP 0 rfl rfl 12 (by decide) (hall _ zw_375) (fun _ h9 => h9) rfl dX16_count_105 ?_
      rw [← hQ]
      exact W.iret (v := 0) hx hb hr (fun zt ht hW => ⟨⟨0, (), rfl, by decide, (show zt.heap.size = s.heap.size by rw [ht])⟩, hS.F ht⟩) hS.2.2 dX16_count_108
    · subst e6
      refine lv_tableIn (off := 45) (tgt := 109) hx hb dX16_count_64 (by decide) (by decide) (by decide) (by decide) ?_
      replace hl : lv_has ls70191 5 [(4, .int 12), (3, .int 0), (2, .int 0), (0, .ref h0)] := lv_sub hl [0, 1, 2, 3] rfl
      refine lv_aload_n hx hb dX16_count_109 rfl (lv_at hl 3 rfl) ?_
      show W p l e _ s m _ below meth c _ _ _ _ QQ (F0 m 110 ls70191 [.ref h0])
      refine va_get (D := (dC, dI)) (ci := 15) (v := .int 0) (C := RX16) (T := TX16) (N := 65) hx hb hall zx_16 hown hK.1 hP 0 rfl rfl 24 (by decide) (hall _ zw_450) (fun _ h9 => h9) rfl dX16_count_110 ?_
      rw [← hQ]
      exact W.iret (v := 0) hx hb hr (fun zt ht hW => ⟨⟨0, (), rfl, by decide, (show zt.heap.size = s.heap.size by rw [ht])⟩, hS.F ht⟩) hS.2.2 dX16_count_113
    · subst e6
      refine lv_tableIn (off := 50) (tgt := 114) hx hb dX16_count_64 (by decide) (by decide) (by decide) (by decide) ?_
      replace hl : lv_has ls70191 5 [(4, .int 12), (3, .int 0), (2, .int 0), (0, .ref h0)] := lv_sub hl [0, 1, 2, 3] rfl
      refine lv_aload_n hx hb dX16_count_114 rfl (lv_at hl 3 rfl) ?_
      show W p l e _ s m _ below meth c _ _ _ _ QQ (F0 m 115 ls70191 [.ref h0])
      refine va_get (D := (dC, dI)) (ci := 15) (v := .int 0) (C := RX16) (T := TX16) (N := 65) hx hb hall zx_16 hown hK.1 hP 0 rfl rfl 29 (by decide) (hall _ zw_483) (fun _ h9 => h9) rfl dX16_count_115 ?_
      rw [← hQ]
      exact W.iret (v := 0) hx hb hr (fun zt ht hW => ⟨⟨0, (), rfl, by decide, (show zt.heap.size = s.heap.size by rw [ht])⟩, hS.F ht⟩) hS.2.2 dX16_count_118
    · subst e6
      refine lv_tableIn (off := 55) (tgt := 119) hx hb dX16_count_64 (by decide) (by decide) (by decide) (by decide) ?_
      replace hl : lv_has ls70191 5 [(4, .int 12), (3, .int 0), (2, .int 0), (0, .ref h0)] := lv_sub hl [0, 1, 2, 3] rfl
      refine lv_aload_n hx hb dX16_count_119 rfl (lv_at hl 3 rfl) ?_
      show W p l e _ s m _ below meth c _ _ _ _ QQ (F0 m 120 ls70191 [.ref h0])
      refine va_get (D := (dC, dI)) (ci := 15) (v := .int 0) (C := RX16) (T := TX16) (N := 65) hx hb hall zx_16 hown hK.1 hP 0 rfl rfl 31 (by decide) (hall _ zw_485) (fun _ h9 => h9) rfl dX16_count_120 ?_
      rw [← hQ]
      exact W.iret (v := 0) hx hb hr (fun zt ht hW => ⟨⟨0, (), rfl, by decide, (show zt.heap.size = s.heap.size by rw [ht])⟩, hS.F ht⟩) hS.2.2 dX16_count_123
    · subst e6
      refine lv_tableIn (off := 60) (tgt := 124) hx hb dX16_count_64 (by decide) (by decide) (by decide) (by decide) ?_
      replace hl : lv_has ls70191 5 [(4, .int 12), (3, .int 0), (2, .int 0), (0, .ref h0)] := lv_sub hl [0, 1, 2, 3] rfl
      refine lv_iload_n hx hb dX16_count_124 rfl (lv_at hl 2 rfl) ?_
      rw [← hQ]
      exact W.iret (v := 0) hx hb hr (fun zt ht hW => ⟨⟨0, (), rfl, by decide, (show zt.heap.size = s.heap.size by rw [ht])⟩, hS.F ht⟩) hS.2.2 dX16_count_125
    · subst e6
      refine lv_tableIn (off := 62) (tgt := 126) hx hb dX16_count_64 (by decide) (by decide) (by decide) (by decide) ?_
      replace hl : lv_has ls70191 5 [(4, .int 12), (3, .int 0), (2, .int 0), (0, .ref h0)] := lv_sub hl [0, 1, 2, 3] rfl
      refine lv_iload_n hx hb dX16_count_126 rfl (lv_at hl 1 rfl) ?_
      rw [← hQ]
      exact W.iret (v := 0) hx hb hr (fun zt ht hW => ⟨⟨0, (), rfl, by decide, (show zt.heap.size = s.heap.size by rw [ht])⟩, hS.F ht⟩) hS.2.2 dX16_count_127
    · exact absurd hj6 (by omega)
