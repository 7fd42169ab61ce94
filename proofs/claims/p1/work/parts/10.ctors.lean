theorem dX6_init_0 : decode cX6_init 0 = .ok (.aload_n 0, 1) := by decide +kernel
theorem dX6_init_1 : decode cX6_init 1 = .ok (.invokespecial 5, 3) := by decide +kernel
theorem dX6_init_4 : decode cX6_init 4 = .ok (.aload_n 0, 1) := by decide +kernel
theorem dX6_init_5 : decode cX6_init 5 = .ok (.bipush 48, 2) := by decide +kernel
theorem dX6_init_7 : decode cX6_init 7 = .ok (.newarray .int, 2) := by decide +kernel
theorem dX6_init_9 : decode cX6_init 9 = .ok (.putfield 11, 3) := by decide +kernel
theorem dX6_init_12 : decode cX6_init 12 = .ok (.aload_n 0, 1) := by decide +kernel
theorem dX6_init_13 : decode cX6_init 13 = .ok (.sipush 327, 3) := by decide +kernel
theorem dX6_init_16 : decode cX6_init 16 = .ok (.newarray .int, 2) := by decide +kernel
theorem dX6_init_18 : decode cX6_init 18 = .ok (.putfield 15, 3) := by decide +kernel
theorem dX6_init_21 : decode cX6_init 21 = .ok (.aload_n 0, 1) := by decide +kernel
theorem dX6_init_22 : decode cX6_init 22 = .ok (.sipush 327, 3) := by decide +kernel
theorem dX6_init_25 : decode cX6_init 25 = .ok (.newarray .int, 2) := by decide +kernel
theorem dX6_init_27 : decode cX6_init 27 = .ok (.putfield 18, 3) := by decide +kernel
theorem dX6_init_30 : decode cX6_init 30 = .ok (.aload_n 0, 1) := by decide +kernel
theorem dX6_init_31 : decode cX6_init 31 = .ok (.sipush 175, 3) := by decide +kernel
theorem dX6_init_34 : decode cX6_init 34 = .ok (.newarray .int, 2) := by decide +kernel
theorem dX6_init_36 : decode cX6_init 36 = .ok (.putfield 21, 3) := by decide +kernel
theorem dX6_init_39 : decode cX6_init 39 = .ok (.aload_n 0, 1) := by decide +kernel
theorem dX6_init_40 : decode cX6_init 40 = .ok (.bipush 60, 2) := by decide +kernel
theorem dX6_init_42 : decode cX6_init 42 = .ok (.newarray .int, 2) := by decide +kernel
theorem dX6_init_44 : decode cX6_init 44 = .ok (.putfield 24, 3) := by decide +kernel
theorem dX6_init_47 : decode cX6_init 47 = .ok (.return_, 1) := by decide +kernel
theorem dX4_init_0 : decode cX4_init 0 = .ok (.aload_n 0, 1) := by decide +kernel
theorem dX4_init_1 : decode cX4_init 1 = .ok (.invokespecial 3, 3) := by decide +kernel
theorem dX4_init_4 : decode cX4_init 4 = .ok (.aload_n 0, 1) := by decide +kernel
theorem dX4_init_5 : decode cX4_init 5 = .ok (.ldc 11, 2) := by decide +kernel
theorem dX4_init_7 : decode cX4_init 7 = .ok (.newarray .int, 2) := by decide +kernel
theorem dX4_init_9 : decode cX4_init 9 = .ok (.putfield 12, 3) := by decide +kernel
theorem dX4_init_12 : decode cX4_init 12 = .ok (.aload_n 0, 1) := by decide +kernel
theorem dX4_init_13 : decode cX4_init 13 = .ok (.sipush 2048, 3) := by decide +kernel
theorem dX4_init_16 : decode cX4_init 16 = .ok (.putfield 16, 3) := by decide +kernel
theorem dX4_init_19 : decode cX4_init 19 = .ok (.aload_n 0, 1) := by decide +kernel
theorem dX4_init_20 : decode cX4_init 20 = .ok (.iconst 0, 1) := by decide +kernel
theorem dX4_init_21 : decode cX4_init 21 = .ok (.putfield 20, 3) := by decide +kernel
theorem dX4_init_24 : decode cX4_init 24 = .ok (.return_, 1) := by decide +kernel
theorem dX2_init_0 : decode cX2_init 0 = .ok (.aload_n 0, 1) := by decide +kernel
theorem dX2_init_1 : decode cX2_init 1 = .ok (.invokespecial 3, 3) := by decide +kernel
theorem dX2_init_4 : decode cX2_init 4 = .ok (.aload_n 0, 1) := by decide +kernel
theorem dX2_init_5 : decode cX2_init 5 = .ok (.aload_n 1, 1) := by decide +kernel
theorem dX2_init_6 : decode cX2_init 6 = .ok (.putfield 9, 3) := by decide +kernel
theorem dX2_init_9 : decode cX2_init 9 = .ok (.return_, 1) := by decide +kernel
theorem dX0_init_0 : decode cX0_init 0 = .ok (.aload_n 0, 1) := by decide +kernel
theorem dX0_init_1 : decode cX0_init 1 = .ok (.invokespecial 3, 3) := by decide +kernel
theorem dX0_init_4 : decode cX0_init 4 = .ok (.aload_n 0, 1) := by decide +kernel
theorem dX0_init_5 : decode cX0_init 5 = .ok (.aload_n 1, 1) := by decide +kernel
theorem dX0_init_6 : decode cX0_init 6 = .ok (.putfield 9, 3) := by decide +kernel
theorem dX0_init_9 : decode cX0_init 9 = .ok (.aload_n 0, 1) := by decide +kernel
theorem dX0_init_10 : decode cX0_init 10 = .ok (.aload_n 2, 1) := by decide +kernel
theorem dX0_init_11 : decode cX0_init 11 = .ok (.putfield 15, 3) := by decide +kernel
theorem dX0_init_14 : decode cX0_init 14 = .ok (.aload_n 0, 1) := by decide +kernel
theorem dX0_init_15 : decode cX0_init 15 = .ok (.bipush 96, 2) := by decide +kernel
theorem dX0_init_17 : decode cX0_init 17 = .ok (.newarray .int, 2) := by decide +kernel
theorem dX0_init_19 : decode cX0_init 19 = .ok (.putfield 19, 3) := by decide +kernel
theorem dX0_init_22 : decode cX0_init 22 = .ok (.aload_n 0, 1) := by decide +kernel
theorem dX0_init_23 : decode cX0_init 23 = .ok (.bipush 96, 2) := by decide +kernel
theorem dX0_init_25 : decode cX0_init 25 = .ok (.newarray .int, 2) := by decide +kernel
theorem dX0_init_27 : decode cX0_init 27 = .ok (.putfield 23, 3) := by decide +kernel
theorem dX0_init_30 : decode cX0_init 30 = .ok (.aload_n 0, 1) := by decide +kernel
theorem dX0_init_31 : decode cX0_init 31 = .ok (.bipush 24, 2) := by decide +kernel
theorem dX0_init_33 : decode cX0_init 33 = .ok (.newarray .int, 2) := by decide +kernel
theorem dX0_init_35 : decode cX0_init 35 = .ok (.putfield 26, 3) := by decide +kernel
theorem dX0_init_38 : decode cX0_init 38 = .ok (.return_, 1) := by decide +kernel
theorem dX3_init_0 : decode cX3_init 0 = .ok (.aload_n 0, 1) := by decide +kernel
theorem dX3_init_1 : decode cX3_init 1 = .ok (.invokespecial 3, 3) := by decide +kernel
theorem dX3_init_4 : decode cX3_init 4 = .ok (.aload_n 0, 1) := by decide +kernel
theorem dX3_init_5 : decode cX3_init 5 = .ok (.aload_n 1, 1) := by decide +kernel
theorem dX3_init_6 : decode cX3_init 6 = .ok (.putfield 9, 3) := by decide +kernel
theorem dX3_init_9 : decode cX3_init 9 = .ok (.aload_n 0, 1) := by decide +kernel
theorem dX3_init_10 : decode cX3_init 10 = .ok (.aload_n 2, 1) := by decide +kernel
theorem dX3_init_11 : decode cX3_init 11 = .ok (.putfield 15, 3) := by decide +kernel
theorem dX3_init_14 : decode cX3_init 14 = .ok (.aload_n 0, 1) := by decide +kernel
theorem dX3_init_15 : decode cX3_init 15 = .ok (.aload_n 3, 1) := by decide +kernel
theorem dX3_init_16 : decode cX3_init 16 = .ok (.putfield 19, 3) := by decide +kernel
theorem dX3_init_19 : decode cX3_init 19 = .ok (.return_, 1) := by decide +kernel
theorem dX7_init_0 : decode cX7_init 0 = .ok (.aload_n 0, 1) := by decide +kernel
theorem dX7_init_1 : decode cX7_init 1 = .ok (.invokespecial 3, 3) := by decide +kernel
theorem dX7_init_4 : decode cX7_init 4 = .ok (.aload_n 0, 1) := by decide +kernel
theorem dX7_init_5 : decode cX7_init 5 = .ok (.aload_n 1, 1) := by decide +kernel
theorem dX7_init_6 : decode cX7_init 6 = .ok (.putfield 9, 3) := by decide +kernel
theorem dX7_init_9 : decode cX7_init 9 = .ok (.aload_n 0, 1) := by decide +kernel
theorem dX7_init_10 : decode cX7_init 10 = .ok (.sipush 2760, 3) := by decide +kernel
theorem dX7_init_13 : decode cX7_init 13 = .ok (.newarray .int, 2) := by decide +kernel
theorem dX7_init_15 : decode cX7_init 15 = .ok (.putfield 15, 3) := by decide +kernel
theorem dX7_init_18 : decode cX7_init 18 = .ok (.aload_n 0, 1) := by decide +kernel
theorem dX7_init_19 : decode cX7_init 19 = .ok (.bipush 60, 2) := by decide +kernel
theorem dX7_init_21 : decode cX7_init 21 = .ok (.newarray .int, 2) := by decide +kernel
theorem dX7_init_23 : decode cX7_init 23 = .ok (.putfield 19, 3) := by decide +kernel
theorem dX7_init_26 : decode cX7_init 26 = .ok (.aload_n 0, 1) := by decide +kernel
theorem dX7_init_27 : decode cX7_init 27 = .ok (.bipush 46, 2) := by decide +kernel
theorem dX7_init_29 : decode cX7_init 29 = .ok (.newarray .int, 2) := by decide +kernel
theorem dX7_init_31 : decode cX7_init 31 = .ok (.putfield 22, 3) := by decide +kernel
theorem dX7_init_34 : decode cX7_init 34 = .ok (.return_, 1) := by decide +kernel
theorem dX8_init_0 : decode cX8_init 0 = .ok (.aload_n 0, 1) := by decide +kernel
theorem dX8_init_1 : decode cX8_init 1 = .ok (.invokespecial 3, 3) := by decide +kernel
theorem dX8_init_4 : decode cX8_init 4 = .ok (.aload_n 0, 1) := by decide +kernel
theorem dX8_init_5 : decode cX8_init 5 = .ok (.aload_n 1, 1) := by decide +kernel
theorem dX8_init_6 : decode cX8_init 6 = .ok (.putfield 9, 3) := by decide +kernel
theorem dX8_init_9 : decode cX8_init 9 = .ok (.aload_n 0, 1) := by decide +kernel
theorem dX8_init_10 : decode cX8_init 10 = .ok (.aload_n 2, 1) := by decide +kernel
theorem dX8_init_11 : decode cX8_init 11 = .ok (.putfield 15, 3) := by decide +kernel
theorem dX8_init_14 : decode cX8_init 14 = .ok (.aload_n 0, 1) := by decide +kernel
theorem dX8_init_15 : decode cX8_init 15 = .ok (.aload_n 3, 1) := by decide +kernel
theorem dX8_init_16 : decode cX8_init 16 = .ok (.putfield 19, 3) := by decide +kernel
theorem dX8_init_19 : decode cX8_init 19 = .ok (.aload_n 0, 1) := by decide +kernel
theorem dX8_init_20 : decode cX8_init 20 = .ok (.aload 4, 2) := by decide +kernel
theorem dX8_init_22 : decode cX8_init 22 = .ok (.putfield 23, 3) := by decide +kernel
theorem dX8_init_25 : decode cX8_init 25 = .ok (.aload_n 0, 1) := by decide +kernel
theorem dX8_init_26 : decode cX8_init 26 = .ok (.aload 5, 2) := by decide +kernel
theorem dX8_init_28 : decode cX8_init 28 = .ok (.putfield 27, 3) := by decide +kernel
theorem dX8_init_31 : decode cX8_init 31 = .ok (.aload_n 0, 1) := by decide +kernel
theorem dX8_init_32 : decode cX8_init 32 = .ok (.aload 6, 2) := by decide +kernel
theorem dX8_init_34 : decode cX8_init 34 = .ok (.putfield 31, 3) := by decide +kernel
theorem dX8_init_37 : decode cX8_init 37 = .ok (.aload_n 0, 1) := by decide +kernel
theorem dX8_init_38 : decode cX8_init 38 = .ok (.iconst 4, 1) := by decide +kernel
theorem dX8_init_39 : decode cX8_init 39 = .ok (.newarray .int, 2) := by decide +kernel
theorem dX8_init_41 : decode cX8_init 41 = .ok (.putfield 35, 3) := by decide +kernel
theorem dX8_init_44 : decode cX8_init 44 = .ok (.aload_n 0, 1) := by decide +kernel
theorem dX8_init_45 : decode cX8_init 45 = .ok (.iconst 4, 1) := by decide +kernel
theorem dX8_init_46 : decode cX8_init 46 = .ok (.newarray .int, 2) := by decide +kernel
theorem dX8_init_48 : decode cX8_init 48 = .ok (.putfield 39, 3) := by decide +kernel
theorem dX8_init_51 : decode cX8_init 51 = .ok (.aload_n 0, 1) := by decide +kernel
theorem dX8_init_52 : decode cX8_init 52 = .ok (.iconst 4, 1) := by decide +kernel
theorem dX8_init_53 : decode cX8_init 53 = .ok (.newarray .int, 2) := by decide +kernel
theorem dX8_init_55 : decode cX8_init 55 = .ok (.putfield 42, 3) := by decide +kernel
theorem dX8_init_58 : decode cX8_init 58 = .ok (.aload_n 0, 1) := by decide +kernel
theorem dX8_init_59 : decode cX8_init 59 = .ok (.iconst 4, 1) := by decide +kernel
theorem dX8_init_60 : decode cX8_init 60 = .ok (.newarray .int, 2) := by decide +kernel
theorem dX8_init_62 : decode cX8_init 62 = .ok (.putfield 45, 3) := by decide +kernel
theorem dX8_init_65 : decode cX8_init 65 = .ok (.return_, 1) := by decide +kernel
theorem dX5_init_0 : decode cX5_init 0 = .ok (.aload_n 0, 1) := by decide +kernel
theorem dX5_init_1 : decode cX5_init 1 = .ok (.invokespecial 3, 3) := by decide +kernel
theorem dX5_init_4 : decode cX5_init 4 = .ok (.aload_n 0, 1) := by decide +kernel
theorem dX5_init_5 : decode cX5_init 5 = .ok (.aload_n 1, 1) := by decide +kernel
theorem dX5_init_6 : decode cX5_init 6 = .ok (.putfield 9, 3) := by decide +kernel
theorem dX5_init_9 : decode cX5_init 9 = .ok (.aload_n 0, 1) := by decide +kernel
theorem dX5_init_10 : decode cX5_init 10 = .ok (.aload_n 2, 1) := by decide +kernel
theorem dX5_init_11 : decode cX5_init 11 = .ok (.putfield 15, 3) := by decide +kernel
theorem dX5_init_14 : decode cX5_init 14 = .ok (.aload_n 0, 1) := by decide +kernel
theorem dX5_init_15 : decode cX5_init 15 = .ok (.aload_n 3, 1) := by decide +kernel
theorem dX5_init_16 : decode cX5_init 16 = .ok (.putfield 19, 3) := by decide +kernel
theorem dX5_init_19 : decode cX5_init 19 = .ok (.aload_n 0, 1) := by decide +kernel
theorem dX5_init_20 : decode cX5_init 20 = .ok (.aload 4, 2) := by decide +kernel
theorem dX5_init_22 : decode cX5_init 22 = .ok (.putfield 23, 3) := by decide +kernel
theorem dX5_init_25 : decode cX5_init 25 = .ok (.aload_n 0, 1) := by decide +kernel
theorem dX5_init_26 : decode cX5_init 26 = .ok (.bipush 8, 2) := by decide +kernel
theorem dX5_init_28 : decode cX5_init 28 = .ok (.newarray .int, 2) := by decide +kernel
theorem dX5_init_30 : decode cX5_init 30 = .ok (.putfield 27, 3) := by decide +kernel
theorem dX5_init_33 : decode cX5_init 33 = .ok (.aload_n 0, 1) := by decide +kernel
theorem dX5_init_34 : decode cX5_init 34 = .ok (.sipush 301, 3) := by decide +kernel
theorem dX5_init_37 : decode cX5_init 37 = .ok (.newarray .int, 2) := by decide +kernel
theorem dX5_init_39 : decode cX5_init 39 = .ok (.putfield 31, 3) := by decide +kernel
theorem dX5_init_42 : decode cX5_init 42 = .ok (.aload_n 0, 1) := by decide +kernel
theorem dX5_init_43 : decode cX5_init 43 = .ok (.sipush 301, 3) := by decide +kernel
theorem dX5_init_46 : decode cX5_init 46 = .ok (.newarray .int, 2) := by decide +kernel
theorem dX5_init_48 : decode cX5_init 48 = .ok (.putfield 34, 3) := by decide +kernel
theorem dX5_init_51 : decode cX5_init 51 = .ok (.aload_n 0, 1) := by decide +kernel
theorem dX5_init_52 : decode cX5_init 52 = .ok (.bipush 42, 2) := by decide +kernel
theorem dX5_init_54 : decode cX5_init 54 = .ok (.newarray .int, 2) := by decide +kernel
theorem dX5_init_56 : decode cX5_init 56 = .ok (.putfield 37, 3) := by decide +kernel
theorem dX5_init_59 : decode cX5_init 59 = .ok (.aload_n 0, 1) := by decide +kernel
theorem dX5_init_60 : decode cX5_init 60 = .ok (.bipush 42, 2) := by decide +kernel
theorem dX5_init_62 : decode cX5_init 62 = .ok (.newarray .int, 2) := by decide +kernel
theorem dX5_init_64 : decode cX5_init 64 = .ok (.putfield 40, 3) := by decide +kernel
theorem dX5_init_67 : decode cX5_init 67 = .ok (.return_, 1) := by decide +kernel
theorem dX10_init_0 : decode cX10_init 0 = .ok (.aload_n 0, 1) := by decide +kernel
theorem dX10_init_1 : decode cX10_init 1 = .ok (.invokespecial 3, 3) := by decide +kernel
theorem dX10_init_4 : decode cX10_init 4 = .ok (.aload_n 0, 1) := by decide +kernel
theorem dX10_init_5 : decode cX10_init 5 = .ok (.aload_n 1, 1) := by decide +kernel
theorem dX10_init_6 : decode cX10_init 6 = .ok (.putfield 9, 3) := by decide +kernel
theorem dX10_init_9 : decode cX10_init 9 = .ok (.aload_n 0, 1) := by decide +kernel
theorem dX10_init_10 : decode cX10_init 10 = .ok (.sipush 400, 3) := by decide +kernel
theorem dX10_init_13 : decode cX10_init 13 = .ok (.newarray .int, 2) := by decide +kernel
theorem dX10_init_15 : decode cX10_init 15 = .ok (.putfield 15, 3) := by decide +kernel
theorem dX10_init_18 : decode cX10_init 18 = .ok (.aload_n 0, 1) := by decide +kernel
theorem dX10_init_19 : decode cX10_init 19 = .ok (.sipush 4000, 3) := by decide +kernel
theorem dX10_init_22 : decode cX10_init 22 = .ok (.newarray .int, 2) := by decide +kernel
theorem dX10_init_24 : decode cX10_init 24 = .ok (.putfield 19, 3) := by decide +kernel
theorem dX10_init_27 : decode cX10_init 27 = .ok (.aload_n 0, 1) := by decide +kernel
theorem dX10_init_28 : decode cX10_init 28 = .ok (.sipush 4000, 3) := by decide +kernel
theorem dX10_init_31 : decode cX10_init 31 = .ok (.newarray .int, 2) := by decide +kernel
theorem dX10_init_33 : decode cX10_init 33 = .ok (.putfield 22, 3) := by decide +kernel
theorem dX10_init_36 : decode cX10_init 36 = .ok (.aload_n 0, 1) := by decide +kernel
theorem dX10_init_37 : decode cX10_init 37 = .ok (.sipush 1203, 3) := by decide +kernel
theorem dX10_init_40 : decode cX10_init 40 = .ok (.newarray .int, 2) := by decide +kernel
theorem dX10_init_42 : decode cX10_init 42 = .ok (.putfield 25, 3) := by decide +kernel
theorem dX10_init_45 : decode cX10_init 45 = .ok (.aload_n 0, 1) := by decide +kernel
theorem dX10_init_46 : decode cX10_init 46 = .ok (.sipush 802, 3) := by decide +kernel
theorem dX10_init_49 : decode cX10_init 49 = .ok (.newarray .int, 2) := by decide +kernel
theorem dX10_init_51 : decode cX10_init 51 = .ok (.putfield 28, 3) := by decide +kernel
theorem dX10_init_54 : decode cX10_init 54 = .ok (.aload_n 0, 1) := by decide +kernel
theorem dX10_init_55 : decode cX10_init 55 = .ok (.sipush 401, 3) := by decide +kernel
theorem dX10_init_58 : decode cX10_init 58 = .ok (.newarray .int, 2) := by decide +kernel
theorem dX10_init_60 : decode cX10_init 60 = .ok (.putfield 31, 3) := by decide +kernel
theorem dX10_init_63 : decode cX10_init 63 = .ok (.aload_n 0, 1) := by decide +kernel
theorem dX10_init_64 : decode cX10_init 64 = .ok (.iconst (-1), 1) := by decide +kernel
theorem dX10_init_65 : decode cX10_init 65 = .ok (.putfield 34, 3) := by decide +kernel
theorem dX10_init_68 : decode cX10_init 68 = .ok (.return_, 1) := by decide +kernel
set_option maxHeartbeats 4000000 in
set_option maxRecDepth 100000 in
theorem c_X6_init (l : Launch) (dC : Nat → ClassId) (dI : Nat → Nat → Nat) (aC : Nat → ClassId) (h0 : Nat) (sz : Nat) : Met l yX6_init w_X6_init ({ frames := 1, cells := 5, slots := 937, locals := 24 }) (zPre (dC, dI) aC [(h0, .inr (5, [.int 0, .int 0, .int 0, .int 0, .int 0, .int 0, .int 0, .null, .null, .null, .null, .null]))] sz [.ref h0]) (va_Qv (fun (u : Unit) => True) (fun u t => zB (dC, dI) [(h0, .inr (5, [.int 0, .int 0, .int 0, .int 0, .int 0, .int 0, .int 0, .ref (sz + 0), .ref (sz + 1), .ref (sz + 2), .ref (sz + 3), .ref (sz + 4)])), (sz + 0, .inl (aC 0, 48, .inl (fun _ => 0))), (sz + 1, .inl (aC 0, 327, .inl (fun _ => 0))), (sz + 2, .inl (aC 0, 327, .inl (fun _ => 0))), (sz + 3, .inl (aC 0, 175, .inl (fun _ => 0))), (sz + 4, .inl (aC 0, 60, .inl (fun _ => 0)))] (va_A [(h0, .inr (5, [.int 0, .int 0, .int 0, .int 0, .int 0, .int 0, .int 0, .null, .null, .null, .null, .null]))] sz) (sz + 5) t) (va_A [(h0, .inr (5, [.int 0, .int 0, .int 0, .int 0, .int 0, .int 0, .int 0, .null, .null, .null, .null, .null]))] sz)) 5 937 (va_A [(h0, .inr (5, [.int 0, .int 0, .int 0, .int 0, .int 0, .int 0, .int 0, .null, .null, .null, .null, .null]))] sz) := by
  refine Met.ofW (cc := cX6_init) (maxL := 1) (ret := none) (by decide) rfl ?_
  intro p e s m args below meth c s₁ B hml hv
  generalize hQ : MQ below _ _ s _ _ _ = QQ
  obtain ⟨rfl, hsz, hP, hK, hD0⟩ := hv
  have hx := B.exec
  have hb := B.bytes
  have hr := B.returns
  have hts := atoms_spec (ws := w_X6_init) B.pre
  have hall := fun (w : Cond) (h : w ∈ zAll) => hts w (List.mem_cons_of_mem _ h)
  have hown : s.vm.findClass RX6 = some m.cls := findClass_of_methodNamed B.named
  have hlocks := B.notSynchronized
  have hin : meth.name = "<init>" := (name_of_methodNamed B.named B.method).1
  subst hsz
  have hD := hD0.self (sz := s.heap.size)
  generalize hAe : va_A [(h0, .inr (5, [.int 0, .int 0, .int 0, .int 0, .int 0, .int 0, .int 0, .null, .null, .null, .null, .null]))] s.heap.size = A at hD ⊢
  have hA : ∀ q : Nat, s.heap.size ≤ q → A q := fun q h => by rw [← hAe]; exact Or.inr h
  have hS : va_S A s.heap s.heap [] := va_S.rf
  have hz0 : s.heap.size = s.heap.size + 0 := rfl
  have hl := lv_entry ([.ref h0]) (n := 1) (Nat.le_of_ble_eq_true rfl)
  rw [lg_entry_eq]
  generalize (lg_sl ([.ref h0]) ++ List.replicate (1 - (lg_sl ([.ref h0])).length) Slot.unset).toArray = ls at hl ⊢
  have hl : lv_has ls 1 [(0, .ref h0)] := hl
  refine lv_aload_n hx hb dX6_init_0 rfl (lv_at hl 0 rfl) ?_
  refine W.objInit hx hb hown (hall _ zw_1) (hall _ zw_2) (hall _ zw_3) rfl (hl.1.trans hml.symm) rfl dX6_init_1 (Nat.le_of_ble_eq_true rfl) (Nat.le_of_ble_eq_true rfl) ?_
  refine lv_aload_n hx hb dX6_init_4 rfl (lv_at hl 0 rfl) ?_
  refine lv_bipush (v := 48) hx hb dX6_init_5 (by decide) ?_
  refine znewa (atype := .int) (ty := .int) (cA := aC 0) (a0 := (48, .inl (fun _ => 0))) hx hb (hall _ zw_4) rfl hK.1 hP hD hS hA 0 rfl (fun h => h) rfl (by decide) (by decide) (Nat.le_of_ble_eq_true rfl) (Nat.le_of_ble_eq_true rfl) (Nat.le_of_ble_eq_true rfl) dX6_init_7 (fun q1 H eq1 hz hB hP hD hS => ?_)
  obtain rfl : q1 = s.heap.size + 0 := eq1.trans hz0
  have hz0 : H.size = s.heap.size + 1 := by omega
  have hP : va_P (dC, dI) vwCl [(h0, .inr (5, [.int 0, .int 0, .int 0, .int 0, .int 0, .int 0, .int 0, .null, .null, .null, .null, .null])), (s.heap.size + 0, .inl (aC 0, 48, .inl (fun _ => 0)))] H := hP
  have hD : va_D A [(h0, .inr (5, [.int 0, .int 0, .int 0, .int 0, .int 0, .int 0, .int 0, .null, .null, .null, .null, .null])), (s.heap.size + 0, .inl (aC 0, 48, .inl (fun _ => 0)))] := hD
  refine zputF (D := (dC, dI)) (ci := 5) (v := .ref (s.heap.size + 0)) (ty := (.array .int)) (C := RX6) (T := TX6) (N := 12) hx hb hall zx_6 tyX6 tyX6_ok nmX6 hown hK.1 hP hD hS 0 rfl rfl 7 (by decide) (hall _ zw_5) (fun _ h9 => h9) rfl hin rfl (by decide +kernel) rfl rfl (Nat.le_of_ble_eq_true rfl) dX6_init_9 (fun H locs hB hP hD hS => ?_)
  have hz0 : H.size = s.heap.size + 1 := hB.1.trans hz0
  have hP : va_P (dC, dI) vwCl [(h0, .inr (5, [.int 0, .int 0, .int 0, .int 0, .int 0, .int 0, .int 0, .ref (s.heap.size + 0), .null, .null, .null, .null])), (s.heap.size + 0, .inl (aC 0, 48, .inl (fun _ => 0)))] H := hP
  have hD : va_D A [(h0, .inr (5, [.int 0, .int 0, .int 0, .int 0, .int 0, .int 0, .int 0, .ref (s.heap.size + 0), .null, .null, .null, .null])), (s.heap.size + 0, .inl (aC 0, 48, .inl (fun _ => 0)))] := hD
  refine lv_aload_n hx hb dX6_init_12 rfl (lv_at hl 0 rfl) ?_
  refine lv_sipush (v := 327) hx hb dX6_init_13 (by decide) ?_
  refine znewa (atype := .int) (ty := .int) (cA := aC 0) (a0 := (327, .inl (fun _ => 0))) hx hb (hall _ zw_4) rfl hK.1 hP hD hS hA 0 rfl (fun h => h) rfl (by decide) (by decide) (Nat.le_of_ble_eq_true rfl) (Nat.le_of_ble_eq_true rfl) (Nat.le_of_ble_eq_true rfl) dX6_init_16 (fun q2 H eq2 hz hB hP hD hS => ?_)
  obtain rfl : q2 = s.heap.size + 1 := eq2.trans hz0
  have hz0 : H.size = s.heap.size + 2 := by omega
  have hP : va_P (dC, dI) vwCl [(h0, .inr (5, [.int 0, .int 0, .int 0, .int 0, .int 0, .int 0, .int 0, .ref (s.heap.size + 0), .null, .null, .null, .null])), (s.heap.size + 0, .inl (aC 0, 48, .inl (fun _ => 0))), (s.heap.size + 1, .inl (aC 0, 327, .inl (fun _ => 0)))] H := hP
  have hD : va_D A [(h0, .inr (5, [.int 0, .int 0, .int 0, .int 0, .int 0, .int 0, .int 0, .ref (s.heap.size + 0), .null, .null, .null, .null])), (s.heap.size + 0, .inl (aC 0, 48, .inl (fun _ => 0))), (s.heap.size + 1, .inl (aC 0, 327, .inl (fun _ => 0)))] := hD
  refine zputF (D := (dC, dI)) (ci := 5) (v := .ref (s.heap.size + 1)) (ty := (.array .int)) (C := RX6) (T := TX6) (N := 12) hx hb hall zx_6 tyX6 tyX6_ok nmX6 hown hK.1 hP hD hS 0 rfl rfl 8 (by decide) (hall _ zw_6) (fun _ h9 => h9) rfl hin rfl (by decide +kernel) rfl rfl (Nat.le_of_ble_eq_true rfl) dX6_init_18 (fun H locs hB hP hD hS => ?_)
  have hz0 : H.size = s.heap.size + 2 := hB.1.trans hz0
  have hP : va_P (dC, dI) vwCl [(h0, .inr (5, [.int 0, .int 0, .int 0, .int 0, .int 0, .int 0, .int 0, .ref (s.heap.size + 0), .ref (s.heap.size + 1), .null, .null, .null])), (s.heap.size + 0, .inl (aC 0, 48, .inl (fun _ => 0))), (s.heap.size + 1, .inl (aC 0, 327, .inl (fun _ => 0)))] H := hP
  have hD : va_D A [(h0, .inr (5, [.int 0, .int 0, .int 0, .int 0, .int 0, .int 0, .int 0, .ref (s.heap.size + 0), .ref (s.heap.size + 1), .null, .null, .null])), (s.heap.size + 0, .inl (aC 0, 48, .inl (fun _ => 0))), (s.heap.size + 1, .inl (aC 0, 327, .inl (fun _ => 0)))] := hD
  refine lv_aload_n hx hb dX6_init_21 rfl (lv_at hl 0 rfl) ?_
  refine lv_sipush (v := 327) hx hb dX6_init_22 (by decide) ?_
  refine znewa (atype := .int) (ty := .int) (cA := aC 0) (a0 := (327, .inl (fun _ => 0))) hx hb (hall _ zw_4) rfl hK.1 hP hD hS hA 0 rfl (fun h => h) rfl (by decide) (by decide) (Nat.le_of_ble_eq_true rfl) (Nat.le_of_ble_eq_true rfl) (Nat.le_of_ble_eq_true rfl) dX6_init_25 (fun q3 H eq3 hz hB hP hD hS => ?_)
  obtain rfl : q3 = s.heap.size + 2 := eq3.trans hz0
  have hz0 : H.size = s.heap.size + 3 := by omega
  have hP : va_P (dC, dI) vwCl [(h0, .inr (5, [.int 0, .int 0, .int 0, .int 0, .int 0, .int 0, .int 0, .ref (s.heap.size + 0), .ref (s.heap.size + 1), .null, .null, .null])), (s.heap.size + 0, .inl (aC 0, 48, .inl (fun _ => 0))), (s.heap.size + 1, .inl (aC 0, 327, .inl (fun _ => 0))), (s.heap.size + 2, .inl (aC 0, 327, .inl (fun _ => 0)))] H := hP
  have hD : va_D A [(h0, .inr (5, [.int 0, .int 0, .int 0, .int 0, .int 0, .int 0, .int 0, .ref (s.heap.size + 0), .ref (s.heap.size + 1), .null, .null, .null])), (s.heap.size + 0, .inl (aC 0, 48, .inl (fun _ => 0))), (s.heap.size + 1, .inl (aC 0, 327, .inl (fun _ => 0))), (s.heap.size + 2, .inl (aC 0, 327, .inl (fun _ => 0)))] := hD
  refine zputF (D := (dC, dI)) (ci := 5) (v := .ref (s.heap.size + 2)) (ty := (.array .int)) (C := RX6) (T := TX6) (N := 12) hx hb hall zx_6 tyX6 tyX6_ok nmX6 hown hK.1 hP hD hS 0 rfl rfl 9 (by decide) (hall _ zw_7) (fun _ h9 => h9) rfl hin rfl (by decide +kernel) rfl rfl (Nat.le_of_ble_eq_true rfl) dX6_init_27 (fun H locs hB hP hD hS => ?_)
  have hz0 : H.size = s.heap.size + 3 := hB.1.trans hz0
  have hP : va_P (dC, dI) vwCl [(h0, .inr (5, [.int 0, .int 0, .int 0, .int 0, .int 0, .int 0, .int 0, .ref (s.heap.size + 0), .ref (s.heap.size + 1), .ref (s.heap.size + 2), .null, .null])), (s.heap.size + 0, .inl (aC 0, 48, .inl (fun _ => 0))), (s.heap.size + 1, .inl (aC 0, 327, .inl (fun _ => 0))), (s.heap.size + 2, .inl (aC 0, 327, .inl (fun _ => 0)))] H := hP
  have hD : va_D A [(h0, .inr (5, [.int 0, .int 0, .int 0, .int 0, .int 0, .int 0, .int 0, .ref (s.heap.size + 0), .ref (s.heap.size + 1), .ref (s.heap.size + 2), .null, .null])), (s.heap.size + 0, .inl (aC 0, 48, .inl (fun _ => 0))), (s.heap.size + 1, .inl (aC 0, 327, .inl (fun _ => 0))), (s.heap.size + 2, .inl (aC 0, 327, .inl (fun _ => 0)))] := hD
  refine lv_aload_n hx hb dX6_init_30 rfl (lv_at hl 0 rfl) ?_
  refine lv_sipush (v := 175) hx hb dX6_init_31 (by decide) ?_
  refine znewa (atype := .int) (ty := .int) (cA := aC 0) (a0 := (175, .inl (fun _ => 0))) hx hb (hall _ zw_4) rfl hK.1 hP hD hS hA 0 rfl (fun h => h) rfl (by decide) (by decide) (Nat.le_of_ble_eq_true rfl) (Nat.le_of_ble_eq_true rfl) (Nat.le_of_ble_eq_true rfl) dX6_init_34 (fun q4 H eq4 hz hB hP hD hS => ?_)
  obtain rfl : q4 = s.heap.size + 3 := eq4.trans hz0
  have hz0 : H.size = s.heap.size + 4 := by omega
  have hP : va_P (dC, dI) vwCl [(h0, .inr (5, [.int 0, .int 0, .int 0, .int 0, .int 0, .int 0, .int 0, .ref (s.heap.size + 0), .ref (s.heap.size + 1), .ref (s.heap.size + 2), .null, .null])), (s.heap.size + 0, .inl (aC 0, 48, .inl (fun _ => 0))), (s.heap.size + 1, .inl (aC 0, 327, .inl (fun _ => 0))), (s.heap.size + 2, .inl (aC 0, 327, .inl (fun _ => 0))), (s.heap.size + 3, .inl (aC 0, 175, .inl (fun _ => 0)))] H := hP
  have hD : va_D A [(h0, .inr (5, [.int 0, .int 0, .int 0, .int 0, .int 0, .int 0, .int 0, .ref (s.heap.size + 0), .ref (s.heap.size + 1), .ref (s.heap.size + 2), .null, .null])), (s.heap.size + 0, .inl (aC 0, 48, .inl (fun _ => 0))), (s.heap.size + 1, .inl (aC 0, 327, .inl (fun _ => 0))), (s.heap.size + 2, .inl (aC 0, 327, .inl (fun _ => 0))), (s.heap.size + 3, .inl (aC 0, 175, .inl (fun _ => 0)))] := hD
  refine zputF (D := (dC, dI)) (ci := 5) (v := .ref (s.heap.size + 3)) (ty := (.array .int)) (C := RX6) (T := TX6) (N := 12) hx hb hall zx_6 tyX6 tyX6_ok nmX6 hown hK.1 hP hD hS 0 rfl rfl 10 (by decide) (hall _ zw_8) (fun _ h9 => h9) rfl hin rfl (by decide +kernel) rfl rfl (Nat.le_of_ble_eq_true rfl) dX6_init_36 (fun H locs hB hP hD hS => ?_)
  have hz0 : H.size = s.heap.size + 4 := hB.1.trans hz0
  have hP : va_P (dC, dI) vwCl [(h0, .inr (5, [.int 0, .int 0, .int 0, .int 0, .int 0, .int 0, .int 0, .ref (s.heap.size + 0), .ref (s.heap.size + 1), .ref (s.heap.size + 2), .ref (s.heap.size + 3), .null])), (s.heap.size + 0, .inl (aC 0, 48, .inl (fun _ => 0))), (s.heap.size + 1, .inl (aC 0, 327, .inl (fun _ => 0))), (s.heap.size + 2, .inl (aC 0, 327, .inl (fun _ => 0))), (s.heap.size + 3, .inl (aC 0, 175, .inl (fun _ => 0)))] H := hP
  have hD : va_D A [(h0, .inr (5, [.int 0, .int 0, .int 0, .int 0, .int 0, .int 0, .int 0, .ref (s.heap.size + 0), .ref (s.heap.size + 1), .ref (s.heap.size + 2), .ref (s.heap.size + 3), .null])), (s.heap.size + 0, .inl (aC 0, 48, .inl (fun _ => 0))), (s.heap.size + 1, .inl (aC 0, 327, .inl (fun _ => 0))), (s.heap.size + 2, .inl (aC 0, 327, .inl (fun _ => 0))), (s.heap.size + 3, .inl (aC 0, 175, .inl (fun _ => 0)))] := hD
  refine lv_aload_n hx hb dX6_init_39 rfl (lv_at hl 0 rfl) ?_
  refine lv_bipush (v := 60) hx hb dX6_init_40 (by decide) ?_
  refine znewa (atype := .int) (ty := .int) (cA := aC 0) (a0 := (60, .inl (fun _ => 0))) hx hb (hall _ zw_4) rfl hK.1 hP hD hS hA 0 rfl (fun h => h) rfl (by decide) (by decide) (Nat.le_of_ble_eq_true rfl) (Nat.le_of_ble_eq_true rfl) (Nat.le_of_ble_eq_true rfl) dX6_init_42 (fun q5 H eq5 hz hB hP hD hS => ?_)
  obtain rfl : q5 = s.heap.size + 4 := eq5.trans hz0
  have hz0 : H.size = s.heap.size + 5 := by omega
  have hP : va_P (dC, dI) vwCl [(h0, .inr (5, [.int 0, .int 0, .int 0, .int 0, .int 0, .int 0, .int 0, .ref (s.heap.size + 0), .ref (s.heap.size + 1), .ref (s.heap.size + 2), .ref (s.heap.size + 3), .null])), (s.heap.size + 0, .inl (aC 0, 48, .inl (fun _ => 0))), (s.heap.size + 1, .inl (aC 0, 327, .inl (fun _ => 0))), (s.heap.size + 2, .inl (aC 0, 327, .inl (fun _ => 0))), (s.heap.size + 3, .inl (aC 0, 175, .inl (fun _ => 0))), (s.heap.size + 4, .inl (aC 0, 60, .inl (fun _ => 0)))] H := hP
  have hD : va_D A [(h0, .inr (5, [.int 0, .int 0, .int 0, .int 0, .int 0, .int 0, .int 0, .ref (s.heap.size + 0), .ref (s.heap.size + 1), .ref (s.heap.size + 2), .ref (s.heap.size + 3), .null])), (s.heap.size + 0, .inl (aC 0, 48, .inl (fun _ => 0))), (s.heap.size + 1, .inl (aC 0, 327, .inl (fun _ => 0))), (s.heap.size + 2, .inl (aC 0, 327, .inl (fun _ => 0))), (s.heap.size + 3, .inl (aC 0, 175, .inl (fun _ => 0))), (s.heap.size + 4, .inl (aC 0, 60, .inl (fun _ => 0)))] := hD
  refine zputF (D := (dC, dI)) (ci := 5) (v := .ref (s.heap.size + 4)) (ty := (.array .int)) (C := RX6) (T := TX6) (N := 12) hx hb hall zx_6 tyX6 tyX6_ok nmX6 hown hK.1 hP hD hS 0 rfl rfl 11 (by decide) (hall _ zw_9) (fun _ h9 => h9) rfl hin rfl (by decide +kernel) rfl rfl (Nat.le_of_ble_eq_true rfl) dX6_init_44 (fun H locs hB hP hD hS => ?_)
  have hz0 : H.size = s.heap.size + 5 := hB.1.trans hz0
  have hP : va_P (dC, dI) vwCl [(h0, .inr (5, [.int 0, .int 0, .int 0, .int 0, .int 0, .int 0, .int 0, .ref (s.heap.size + 0), .ref (s.heap.size + 1), .ref (s.heap.size + 2), .ref (s.heap.size + 3), .ref (s.heap.size + 4)])), (s.heap.size + 0, .inl (aC 0, 48, .inl (fun _ => 0))), (s.heap.size + 1, .inl (aC 0, 327, .inl (fun _ => 0))), (s.heap.size + 2, .inl (aC 0, 327, .inl (fun _ => 0))), (s.heap.size + 3, .inl (aC 0, 175, .inl (fun _ => 0))), (s.heap.size + 4, .inl (aC 0, 60, .inl (fun _ => 0)))] H := hP
  have hD : va_D A [(h0, .inr (5, [.int 0, .int 0, .int 0, .int 0, .int 0, .int 0, .int 0, .ref (s.heap.size + 0), .ref (s.heap.size + 1), .ref (s.heap.size + 2), .ref (s.heap.size + 3), .ref (s.heap.size + 4)])), (s.heap.size + 0, .inl (aC 0, 48, .inl (fun _ => 0))), (s.heap.size + 1, .inl (aC 0, 327, .inl (fun _ => 0))), (s.heap.size + 2, .inl (aC 0, 327, .inl (fun _ => 0))), (s.heap.size + 3, .inl (aC 0, 175, .inl (fun _ => 0))), (s.heap.size + 4, .inl (aC 0, 60, .inl (fun _ => 0)))] := hD
  refine W.widen (k := 5) (n := 937) (Nat.le_of_ble_eq_true rfl) (Nat.le_of_ble_eq_true rfl) ?_
  rw [← hQ, hAe]
  exact W.vret hx hb hr (fun t ht hW => ⟨⟨(), rfl, trivial, by rw [ht]; exact hP, hD, by rw [ht]; exact hz0⟩, hS.F ht⟩) hS.2.2 dX6_init_47

set_option maxHeartbeats 4000000 in
set_option maxRecDepth 100000 in
theorem c_X4_init (l : Launch) (dC : Nat → ClassId) (dI : Nat → Nat → Nat) (aC : Nat → ClassId) (h0 : Nat) (sz : Nat) : Met l yX4_init w_X4_init ({ frames := 1, cells := 1, slots := 131072, locals := 24 }) (zPre (dC, dI) aC [(h0, .inr (3, [.null, .int 0, .int 0]))] sz [.ref h0]) (va_Qv (fun (u : Unit) => True) (fun u t => zB (dC, dI) [(h0, .inr (3, [.ref (sz + 0), .int 2048, .int 0])), (sz + 0, .inl (aC 0, 131072, .inl (fun _ => 0)))] (va_A [(h0, .inr (3, [.null, .int 0, .int 0]))] sz) (sz + 1) t) (va_A [(h0, .inr (3, [.null, .int 0, .int 0]))] sz)) 1 131072 (va_A [(h0, .inr (3, [.null, .int 0, .int 0]))] sz) := by
  refine Met.ofW (cc := cX4_init) (maxL := 1) (ret := none) (by decide) rfl ?_
  intro p e s m args below meth c s₁ B hml hv
  generalize hQ : MQ below _ _ s _ _ _ = QQ
  obtain ⟨rfl, hsz, hP, hK, hD0⟩ := hv
  have hx := B.exec
  have hb := B.bytes
  have hr := B.returns
  have hts := atoms_spec (ws := w_X4_init) B.pre
  have hall := fun (w : Cond) (h : w ∈ zAll) => hts w (List.mem_cons_of_mem _ h)
  have hown : s.vm.findClass RX4 = some m.cls := findClass_of_methodNamed B.named
  have hlocks := B.notSynchronized
  have hin : meth.name = "<init>" := (name_of_methodNamed B.named B.method).1
  subst hsz
  have hD := hD0.self (sz := s.heap.size)
  generalize hAe : va_A [(h0, .inr (3, [.null, .int 0, .int 0]))] s.heap.size = A at hD ⊢
  have hA : ∀ q : Nat, s.heap.size ≤ q → A q := fun q h => by rw [← hAe]; exact Or.inr h
  have hS : va_S A s.heap s.heap [] := va_S.rf
  have hz0 : s.heap.size = s.heap.size + 0 := rfl
  have hl := lv_entry ([.ref h0]) (n := 1) (Nat.le_of_ble_eq_true rfl)
  rw [lg_entry_eq]
  generalize (lg_sl ([.ref h0]) ++ List.replicate (1 - (lg_sl ([.ref h0])).length) Slot.unset).toArray = ls at hl ⊢
  have hl : lv_has ls 1 [(0, .ref h0)] := hl
  refine lv_aload_n hx hb dX4_init_0 rfl (lv_at hl 0 rfl) ?_
  refine W.objInit hx hb hown (hall _ zw_17) (hall _ zw_2) (hall _ zw_3) rfl (hl.1.trans hml.symm) rfl dX4_init_1 (Nat.le_of_ble_eq_true rfl) (Nat.le_of_ble_eq_true rfl) ?_
  refine lv_aload_n hx hb dX4_init_4 rfl (lv_at hl 0 rfl) ?_
  refine lv_ldc hx hb hown (hall _ zw_18) dX4_init_5 ?_
  refine znewa (atype := .int) (ty := .int) (cA := aC 0) (a0 := (131072, .inl (fun _ => 0))) hx hb (hall _ zw_4) rfl hK.1 hP hD hS hA 0 rfl (fun h => h) rfl (by decide) (by decide) (Nat.le_of_ble_eq_true rfl) (Nat.le_of_ble_eq_true rfl) (Nat.le_of_ble_eq_true rfl) dX4_init_7 (fun q6 H eq6 hz hB hP hD hS => ?_)
  obtain rfl : q6 = s.heap.size + 0 := eq6.trans hz0
  have hz0 : H.size = s.heap.size + 1 := by omega
  have hP : va_P (dC, dI) vwCl [(h0, .inr (3, [.null, .int 0, .int 0])), (s.heap.size + 0, .inl (aC 0, 131072, .inl (fun _ => 0)))] H := hP
  have hD : va_D A [(h0, .inr (3, [.null, .int 0, .int 0])), (s.heap.size + 0, .inl (aC 0, 131072, .inl (fun _ => 0)))] := hD
  refine zputF (D := (dC, dI)) (ci := 3) (v := .ref (s.heap.size + 0)) (ty := (.array .int)) (C := RX4) (T := TX4) (N := 3) hx hb hall zx_4 tyX4 tyX4_ok nmX4 hown hK.1 hP hD hS 0 rfl rfl 0 (by decide) (hall _ zw_19) (fun _ h9 => h9) rfl hin rfl (by decide +kernel) rfl rfl (Nat.le_of_ble_eq_true rfl) dX4_init_9 (fun H locs hB hP hD hS => ?_)
  have hz0 : H.size = s.heap.size + 1 := hB.1.trans hz0
  have hP : va_P (dC, dI) vwCl [(h0, .inr (3, [.ref (s.heap.size + 0), .int 0, .int 0])), (s.heap.size + 0, .inl (aC 0, 131072, .inl (fun _ => 0)))] H := hP
  have hD : va_D A [(h0, .inr (3, [.ref (s.heap.size + 0), .int 0, .int 0])), (s.heap.size + 0, .inl (aC 0, 131072, .inl (fun _ => 0)))] := hD
  refine lv_aload_n hx hb dX4_init_12 rfl (lv_at hl 0 rfl) ?_
  refine lv_sipush (v := 2048) hx hb dX4_init_13 (by decide) ?_
  refine zput (D := (dC, dI)) (ci := 3) (v := .int 2048) (ty := .int) (C := RX4) (T := TX4) (N := 3) hx hb hall zx_4 tyX4 tyX4_ok nmX4 hown hK.1 hP hD hS 0 rfl rfl 1 (by decide) (hall _ zw_20) (fun _ h9 => h9) rfl (by decide +kernel) rfl rfl (Nat.le_of_ble_eq_true rfl) dX4_init_16 (fun H locs hB hP hD hS => ?_)
  have hz0 : H.size = s.heap.size + 1 := hB.1.trans hz0
  have hP : va_P (dC, dI) vwCl [(h0, .inr (3, [.ref (s.heap.size + 0), .int 2048, .int 0])), (s.heap.size + 0, .inl (aC 0, 131072, .inl (fun _ => 0)))] H := hP
  have hD : va_D A [(h0, .inr (3, [.ref (s.heap.size + 0), .int 2048, .int 0])), (s.heap.size + 0, .inl (aC 0, 131072, .inl (fun _ => 0)))] := hD
  refine lv_aload_n hx hb dX4_init_19 rfl (lv_at hl 0 rfl) ?_
  refine lv_iconst (v := 0) hx hb dX4_init_20 (by decide) ?_
  refine zput (D := (dC, dI)) (ci := 3) (v := .int 0) (ty := .boolean) (C := RX4) (T := TX4) (N := 3) hx hb hall zx_4 tyX4 tyX4_ok nmX4 hown hK.1 hP hD hS 0 rfl rfl 2 (by decide) (hall _ zw_21) (fun _ h9 => h9) rfl (by decide +kernel) rfl rfl (Nat.le_of_ble_eq_true rfl) dX4_init_21 (fun H locs hB hP hD hS => ?_)
  have hz0 : H.size = s.heap.size + 1 := hB.1.trans hz0
  have hP : va_P (dC, dI) vwCl [(h0, .inr (3, [.ref (s.heap.size + 0), .int 2048, .int 0])), (s.heap.size + 0, .inl (aC 0, 131072, .inl (fun _ => 0)))] H := hP
  have hD : va_D A [(h0, .inr (3, [.ref (s.heap.size + 0), .int 2048, .int 0])), (s.heap.size + 0, .inl (aC 0, 131072, .inl (fun _ => 0)))] := hD
  refine W.widen (k := 1) (n := 131072) (Nat.le_of_ble_eq_true rfl) (Nat.le_of_ble_eq_true rfl) ?_
  rw [← hQ, hAe]
  exact W.vret hx hb hr (fun t ht hW => ⟨⟨(), rfl, trivial, by rw [ht]; exact hP, hD, by rw [ht]; exact hz0⟩, hS.F ht⟩) hS.2.2 dX4_init_24

set_option maxHeartbeats 4000000 in
set_option maxRecDepth 100000 in
theorem c_X2_init (l : Launch) (dC : Nat → ClassId) (dI : Nat → Nat → Nat) (aC : Nat → ClassId) (h0 : Nat) (r1 : Nat) (sz : Nat) : Met l yX2_init w_X2_init ({ frames := 1, cells := 0, slots := 0, locals := 24 }) (zPre (dC, dI) aC [(h0, .inr (1, [.null]))] sz [.ref h0, .ref r1]) (va_Qv (fun (u : Unit) => True) (fun u t => zB (dC, dI) [(h0, .inr (1, [.ref r1]))] (va_A [(h0, .inr (1, [.null]))] sz) (sz + 0) t) (va_A [(h0, .inr (1, [.null]))] sz)) 0 0 (va_A [(h0, .inr (1, [.null]))] sz) := by
  refine Met.ofW (cc := cX2_init) (maxL := 2) (ret := none) (by decide) rfl ?_
  intro p e s m args below meth c s₁ B hml hv
  generalize hQ : MQ below _ _ s _ _ _ = QQ
  obtain ⟨rfl, hsz, hP, hK, hD0⟩ := hv
  have hx := B.exec
  have hb := B.bytes
  have hr := B.returns
  have hts := atoms_spec (ws := w_X2_init) B.pre
  have hall := fun (w : Cond) (h : w ∈ zAll) => hts w (List.mem_cons_of_mem _ h)
  have hown : s.vm.findClass RX2 = some m.cls := findClass_of_methodNamed B.named
  have hlocks := B.notSynchronized
  have hin : meth.name = "<init>" := (name_of_methodNamed B.named B.method).1
  subst hsz
  have hD := hD0.self (sz := s.heap.size)
  generalize hAe : va_A [(h0, .inr (1, [.null]))] s.heap.size = A at hD ⊢
  have hA : ∀ q : Nat, s.heap.size ≤ q → A q := fun q h => by rw [← hAe]; exact Or.inr h
  have hS : va_S A s.heap s.heap [] := va_S.rf
  have hz0 : s.heap.size = s.heap.size + 0 := rfl
  have hl := lv_entry ([.ref h0, .ref r1]) (n := 2) (Nat.le_of_ble_eq_true rfl)
  rw [lg_entry_eq]
  generalize (lg_sl ([.ref h0, .ref r1]) ++ List.replicate (2 - (lg_sl ([.ref h0, .ref r1])).length) Slot.unset).toArray = ls at hl ⊢
  have hl : lv_has ls 2 [(0, .ref h0), (1, .ref r1)] := hl
  refine lv_aload_n hx hb dX2_init_0 rfl (lv_at hl 0 rfl) ?_
  refine W.objInit hx hb hown (hall _ zw_23) (hall _ zw_2) (hall _ zw_3) rfl (hl.1.trans hml.symm) rfl dX2_init_1 (Nat.le_of_ble_eq_true rfl) (Nat.le_of_ble_eq_true rfl) ?_
  refine lv_aload_n hx hb dX2_init_4 rfl (lv_at hl 0 rfl) ?_
  refine lv_aload_n hx hb dX2_init_5 rfl (lv_at hl 1 rfl) ?_
  refine zputF (D := (dC, dI)) (ci := 1) (v := .ref r1) (ty := (.object "SumHouse$Room")) (C := RX2) (T := TX2) (N := 1) hx hb hall zx_2 tyX2 tyX2_ok nmX2 hown hK.1 hP hD hS 0 rfl rfl 0 (by decide) (hall _ zw_24) (fun _ h9 => h9) rfl hin rfl (by decide +kernel) rfl rfl (Nat.le_of_ble_eq_true rfl) dX2_init_6 (fun H locs hB hP hD hS => ?_)
  have hz0 : H.size = s.heap.size + 0 := hB.1.trans hz0
  have hP : va_P (dC, dI) vwCl [(h0, .inr (1, [.ref r1]))] H := hP
  have hD : va_D A [(h0, .inr (1, [.ref r1]))] := hD
  refine W.widen (k := 0) (n := 0) (Nat.le_of_ble_eq_true rfl) (Nat.le_of_ble_eq_true rfl) ?_
  rw [← hQ, hAe]
  exact W.vret hx hb hr (fun t ht hW => ⟨⟨(), rfl, trivial, by rw [ht]; exact hP, hD, by rw [ht]; exact hz0⟩, hS.F ht⟩) hS.2.2 dX2_init_9

set_option maxHeartbeats 4000000 in
set_option maxRecDepth 100000 in
theorem c_X0_init (l : Launch) (dC : Nat → ClassId) (dI : Nat → Nat → Nat) (aC : Nat → ClassId) (h0 : Nat) (r1 : Nat) (r2 : Nat) (sz : Nat) : Met l yX0_init w_X0_init ({ frames := 1, cells := 3, slots := 216, locals := 24 }) (zPre (dC, dI) aC [(h0, .inr (0, [.null, .null, .null, .null, .null]))] sz [.ref h0, .ref r1, .ref r2]) (va_Qv (fun (u : Unit) => True) (fun u t => zB (dC, dI) [(h0, .inr (0, [.ref r1, .ref r2, .ref (sz + 0), .ref (sz + 1), .ref (sz + 2)])), (sz + 0, .inl (aC 0, 96, .inl (fun _ => 0))), (sz + 1, .inl (aC 0, 96, .inl (fun _ => 0))), (sz + 2, .inl (aC 0, 24, .inl (fun _ => 0)))] (va_A [(h0, .inr (0, [.null, .null, .null, .null, .null]))] sz) (sz + 3) t) (va_A [(h0, .inr (0, [.null, .null, .null, .null, .null]))] sz)) 3 216 (va_A [(h0, .inr (0, [.null, .null, .null, .null, .null]))] sz) := by
  refine Met.ofW (cc := cX0_init) (maxL := 3) (ret := none) (by decide) rfl ?_
  intro p e s m args below meth c s₁ B hml hv
  generalize hQ : MQ below _ _ s _ _ _ = QQ
  obtain ⟨rfl, hsz, hP, hK, hD0⟩ := hv
  have hx := B.exec
  have hb := B.bytes
  have hr := B.returns
  have hts := atoms_spec (ws := w_X0_init) B.pre
  have hall := fun (w : Cond) (h : w ∈ zAll) => hts w (List.mem_cons_of_mem _ h)
  have hown : s.vm.findClass RX0 = some m.cls := findClass_of_methodNamed B.named
  have hlocks := B.notSynchronized
  have hin : meth.name = "<init>" := (name_of_methodNamed B.named B.method).1
  subst hsz
  have hD := hD0.self (sz := s.heap.size)
  generalize hAe : va_A [(h0, .inr (0, [.null, .null, .null, .null, .null]))] s.heap.size = A at hD ⊢
  have hA : ∀ q : Nat, s.heap.size ≤ q → A q := fun q h => by rw [← hAe]; exact Or.inr h
  have hS : va_S A s.heap s.heap [] := va_S.rf
  have hz0 : s.heap.size = s.heap.size + 0 := rfl
  have hl := lv_entry ([.ref h0, .ref r1, .ref r2]) (n := 3) (Nat.le_of_ble_eq_true rfl)
  rw [lg_entry_eq]
  generalize (lg_sl ([.ref h0, .ref r1, .ref r2]) ++ List.replicate (3 - (lg_sl ([.ref h0, .ref r1, .ref r2])).length) Slot.unset).toArray = ls at hl ⊢
  have hl : lv_has ls 3 [(0, .ref h0), (1, .ref r1), (2, .ref r2)] := hl
  refine lv_aload_n hx hb dX0_init_0 rfl (lv_at hl 0 rfl) ?_
  refine W.objInit hx hb hown (hall _ zw_52) (hall _ zw_2) (hall _ zw_3) rfl (hl.1.trans hml.symm) rfl dX0_init_1 (Nat.le_of_ble_eq_true rfl) (Nat.le_of_ble_eq_true rfl) ?_
  refine lv_aload_n hx hb dX0_init_4 rfl (lv_at hl 0 rfl) ?_
  refine lv_aload_n hx hb dX0_init_5 rfl (lv_at hl 1 rfl) ?_
  refine zputF (D := (dC, dI)) (ci := 0) (v := .ref r1) (ty := (.object "SumHouse$Room")) (C := RX0) (T := TX0) (N := 5) hx hb hall zx_0 tyX0 tyX0_ok nmX0 hown hK.1 hP hD hS 0 rfl rfl 0 (by decide) (hall _ zw_53) (fun _ h9 => h9) rfl hin rfl (by decide +kernel) rfl rfl (Nat.le_of_ble_eq_true rfl) dX0_init_6 (fun H locs hB hP hD hS => ?_)
  have hz0 : H.size = s.heap.size + 0 := hB.1.trans hz0
  have hP : va_P (dC, dI) vwCl [(h0, .inr (0, [.ref r1, .null, .null, .null, .null]))] H := hP
  have hD : va_D A [(h0, .inr (0, [.ref r1, .null, .null, .null, .null]))] := hD
  refine lv_aload_n hx hb dX0_init_9 rfl (lv_at hl 0 rfl) ?_
  refine lv_aload_n hx hb dX0_init_10 rfl (lv_at hl 2 rfl) ?_
  refine zputF (D := (dC, dI)) (ci := 0) (v := .ref r2) (ty := (.object "SumHouse$Planes")) (C := RX0) (T := TX0) (N := 5) hx hb hall zx_0 tyX0 tyX0_ok nmX0 hown hK.1 hP hD hS 0 rfl rfl 1 (by decide) (hall _ zw_54) (fun _ h9 => h9) rfl hin rfl (by decide +kernel) rfl rfl (Nat.le_of_ble_eq_true rfl) dX0_init_11 (fun H locs hB hP hD hS => ?_)
  have hz0 : H.size = s.heap.size + 0 := hB.1.trans hz0
  have hP : va_P (dC, dI) vwCl [(h0, .inr (0, [.ref r1, .ref r2, .null, .null, .null]))] H := hP
  have hD : va_D A [(h0, .inr (0, [.ref r1, .ref r2, .null, .null, .null]))] := hD
  refine lv_aload_n hx hb dX0_init_14 rfl (lv_at hl 0 rfl) ?_
  refine lv_bipush (v := 96) hx hb dX0_init_15 (by decide) ?_
  refine znewa (atype := .int) (ty := .int) (cA := aC 0) (a0 := (96, .inl (fun _ => 0))) hx hb (hall _ zw_4) rfl hK.1 hP hD hS hA 0 rfl (fun h => h) rfl (by decide) (by decide) (Nat.le_of_ble_eq_true rfl) (Nat.le_of_ble_eq_true rfl) (Nat.le_of_ble_eq_true rfl) dX0_init_17 (fun q7 H eq7 hz hB hP hD hS => ?_)
  obtain rfl : q7 = s.heap.size + 0 := eq7.trans hz0
  have hz0 : H.size = s.heap.size + 1 := by omega
  have hP : va_P (dC, dI) vwCl [(h0, .inr (0, [.ref r1, .ref r2, .null, .null, .null])), (s.heap.size + 0, .inl (aC 0, 96, .inl (fun _ => 0)))] H := hP
  have hD : va_D A [(h0, .inr (0, [.ref r1, .ref r2, .null, .null, .null])), (s.heap.size + 0, .inl (aC 0, 96, .inl (fun _ => 0)))] := hD
  refine zputF (D := (dC, dI)) (ci := 0) (v := .ref (s.heap.size + 0)) (ty := (.array .int)) (C := RX0) (T := TX0) (N := 5) hx hb hall zx_0 tyX0 tyX0_ok nmX0 hown hK.1 hP hD hS 0 rfl rfl 2 (by decide) (hall _ zw_55) (fun _ h9 => h9) rfl hin rfl (by decide +kernel) rfl rfl (Nat.le_of_ble_eq_true rfl) dX0_init_19 (fun H locs hB hP hD hS => ?_)
  have hz0 : H.size = s.heap.size + 1 := hB.1.trans hz0
  have hP : va_P (dC, dI) vwCl [(h0, .inr (0, [.ref r1, .ref r2, .ref (s.heap.size + 0), .null, .null])), (s.heap.size + 0, .inl (aC 0, 96, .inl (fun _ => 0)))] H := hP
  have hD : va_D A [(h0, .inr (0, [.ref r1, .ref r2, .ref (s.heap.size + 0), .null, .null])), (s.heap.size + 0, .inl (aC 0, 96, .inl (fun _ => 0)))] := hD
  refine lv_aload_n hx hb dX0_init_22 rfl (lv_at hl 0 rfl) ?_
  refine lv_bipush (v := 96) hx hb dX0_init_23 (by decide) ?_
  refine znewa (atype := .int) (ty := .int) (cA := aC 0) (a0 := (96, .inl (fun _ => 0))) hx hb (hall _ zw_4) rfl hK.1 hP hD hS hA 0 rfl (fun h => h) rfl (by decide) (by decide) (Nat.le_of_ble_eq_true rfl) (Nat.le_of_ble_eq_true rfl) (Nat.le_of_ble_eq_true rfl) dX0_init_25 (fun q8 H eq8 hz hB hP hD hS => ?_)
  obtain rfl : q8 = s.heap.size + 1 := eq8.trans hz0
  have hz0 : H.size = s.heap.size + 2 := by omega
  have hP : va_P (dC, dI) vwCl [(h0, .inr (0, [.ref r1, .ref r2, .ref (s.heap.size + 0), .null, .null])), (s.heap.size + 0, .inl (aC 0, 96, .inl (fun _ => 0))), (s.heap.size + 1, .inl (aC 0, 96, .inl (fun _ => 0)))] H := hP
  have hD : va_D A [(h0, .inr (0, [.ref r1, .ref r2, .ref (s.heap.size + 0), .null, .null])), (s.heap.size + 0, .inl (aC 0, 96, .inl (fun _ => 0))), (s.heap.size + 1, .inl (aC 0, 96, .inl (fun _ => 0)))] := hD
  refine zputF (D := (dC, dI)) (ci := 0) (v := .ref (s.heap.size + 1)) (ty := (.array .int)) (C := RX0) (T := TX0) (N := 5) hx hb hall zx_0 tyX0 tyX0_ok nmX0 hown hK.1 hP hD hS 0 rfl rfl 3 (by decide) (hall _ zw_56) (fun _ h9 => h9) rfl hin rfl (by decide +kernel) rfl rfl (Nat.le_of_ble_eq_true rfl) dX0_init_27 (fun H locs hB hP hD hS => ?_)
  have hz0 : H.size = s.heap.size + 2 := hB.1.trans hz0
  have hP : va_P (dC, dI) vwCl [(h0, .inr (0, [.ref r1, .ref r2, .ref (s.heap.size + 0), .ref (s.heap.size + 1), .null])), (s.heap.size + 0, .inl (aC 0, 96, .inl (fun _ => 0))), (s.heap.size + 1, .inl (aC 0, 96, .inl (fun _ => 0)))] H := hP
  have hD : va_D A [(h0, .inr (0, [.ref r1, .ref r2, .ref (s.heap.size + 0), .ref (s.heap.size + 1), .null])), (s.heap.size + 0, .inl (aC 0, 96, .inl (fun _ => 0))), (s.heap.size + 1, .inl (aC 0, 96, .inl (fun _ => 0)))] := hD
  refine lv_aload_n hx hb dX0_init_30 rfl (lv_at hl 0 rfl) ?_
  refine lv_bipush (v := 24) hx hb dX0_init_31 (by decide) ?_
  refine znewa (atype := .int) (ty := .int) (cA := aC 0) (a0 := (24, .inl (fun _ => 0))) hx hb (hall _ zw_4) rfl hK.1 hP hD hS hA 0 rfl (fun h => h) rfl (by decide) (by decide) (Nat.le_of_ble_eq_true rfl) (Nat.le_of_ble_eq_true rfl) (Nat.le_of_ble_eq_true rfl) dX0_init_33 (fun q9 H eq9 hz hB hP hD hS => ?_)
  obtain rfl : q9 = s.heap.size + 2 := eq9.trans hz0
  have hz0 : H.size = s.heap.size + 3 := by omega
  have hP : va_P (dC, dI) vwCl [(h0, .inr (0, [.ref r1, .ref r2, .ref (s.heap.size + 0), .ref (s.heap.size + 1), .null])), (s.heap.size + 0, .inl (aC 0, 96, .inl (fun _ => 0))), (s.heap.size + 1, .inl (aC 0, 96, .inl (fun _ => 0))), (s.heap.size + 2, .inl (aC 0, 24, .inl (fun _ => 0)))] H := hP
  have hD : va_D A [(h0, .inr (0, [.ref r1, .ref r2, .ref (s.heap.size + 0), .ref (s.heap.size + 1), .null])), (s.heap.size + 0, .inl (aC 0, 96, .inl (fun _ => 0))), (s.heap.size + 1, .inl (aC 0, 96, .inl (fun _ => 0))), (s.heap.size + 2, .inl (aC 0, 24, .inl (fun _ => 0)))] := hD
  refine zputF (D := (dC, dI)) (ci := 0) (v := .ref (s.heap.size + 2)) (ty := (.array .int)) (C := RX0) (T := TX0) (N := 5) hx hb hall zx_0 tyX0 tyX0_ok nmX0 hown hK.1 hP hD hS 0 rfl rfl 4 (by decide) (hall _ zw_57) (fun _ h9 => h9) rfl hin rfl (by decide +kernel) rfl rfl (Nat.le_of_ble_eq_true rfl) dX0_init_35 (fun H locs hB hP hD hS => ?_)
  have hz0 : H.size = s.heap.size + 3 := hB.1.trans hz0
  have hP : va_P (dC, dI) vwCl [(h0, .inr (0, [.ref r1, .ref r2, .ref (s.heap.size + 0), .ref (s.heap.size + 1), .ref (s.heap.size + 2)])), (s.heap.size + 0, .inl (aC 0, 96, .inl (fun _ => 0))), (s.heap.size + 1, .inl (aC 0, 96, .inl (fun _ => 0))), (s.heap.size + 2, .inl (aC 0, 24, .inl (fun _ => 0)))] H := hP
  have hD : va_D A [(h0, .inr (0, [.ref r1, .ref r2, .ref (s.heap.size + 0), .ref (s.heap.size + 1), .ref (s.heap.size + 2)])), (s.heap.size + 0, .inl (aC 0, 96, .inl (fun _ => 0))), (s.heap.size + 1, .inl (aC 0, 96, .inl (fun _ => 0))), (s.heap.size + 2, .inl (aC 0, 24, .inl (fun _ => 0)))] := hD
  refine W.widen (k := 3) (n := 216) (Nat.le_of_ble_eq_true rfl) (Nat.le_of_ble_eq_true rfl) ?_
  rw [← hQ, hAe]
  exact W.vret hx hb hr (fun t ht hW => ⟨⟨(), rfl, trivial, by rw [ht]; exact hP, hD, by rw [ht]; exact hz0⟩, hS.F ht⟩) hS.2.2 dX0_init_38

set_option maxHeartbeats 4000000 in
set_option maxRecDepth 100000 in
theorem c_X3_init (l : Launch) (dC : Nat → ClassId) (dI : Nat → Nat → Nat) (aC : Nat → ClassId) (h0 : Nat) (r1 : Nat) (r2 : Nat) (r3 : Nat) (sz : Nat) : Met l yX3_init w_X3_init ({ frames := 1, cells := 0, slots := 0, locals := 24 }) (zPre (dC, dI) aC [(h0, .inr (2, [.null, .null, .null]))] sz [.ref h0, .ref r1, .ref r2, .ref r3]) (va_Qv (fun (u : Unit) => True) (fun u t => zB (dC, dI) [(h0, .inr (2, [.ref r1, .ref r2, .ref r3]))] (va_A [(h0, .inr (2, [.null, .null, .null]))] sz) (sz + 0) t) (va_A [(h0, .inr (2, [.null, .null, .null]))] sz)) 0 0 (va_A [(h0, .inr (2, [.null, .null, .null]))] sz) := by
  refine Met.ofW (cc := cX3_init) (maxL := 4) (ret := none) (by decide) rfl ?_
  intro p e s m args below meth c s₁ B hml hv
  generalize hQ : MQ below _ _ s _ _ _ = QQ
  obtain ⟨rfl, hsz, hP, hK, hD0⟩ := hv
  have hx := B.exec
  have hb := B.bytes
  have hr := B.returns
  have hts := atoms_spec (ws := w_X3_init) B.pre
  have hall := fun (w : Cond) (h : w ∈ zAll) => hts w (List.mem_cons_of_mem _ h)
  have hown : s.vm.findClass RX3 = some m.cls := findClass_of_methodNamed B.named
  have hlocks := B.notSynchronized
  have hin : meth.name = "<init>" := (name_of_methodNamed B.named B.method).1
  subst hsz
  have hD := hD0.self (sz := s.heap.size)
  generalize hAe : va_A [(h0, .inr (2, [.null, .null, .null]))] s.heap.size = A at hD ⊢
  have hA : ∀ q : Nat, s.heap.size ≤ q → A q := fun q h => by rw [← hAe]; exact Or.inr h
  have hS : va_S A s.heap s.heap [] := va_S.rf
  have hz0 : s.heap.size = s.heap.size + 0 := rfl
  have hl := lv_entry ([.ref h0, .ref r1, .ref r2, .ref r3]) (n := 4) (Nat.le_of_ble_eq_true rfl)
  rw [lg_entry_eq]
  generalize (lg_sl ([.ref h0, .ref r1, .ref r2, .ref r3]) ++ List.replicate (4 - (lg_sl ([.ref h0, .ref r1, .ref r2, .ref r3])).length) Slot.unset).toArray = ls at hl ⊢
  have hl : lv_has ls 4 [(0, .ref h0), (1, .ref r1), (2, .ref r2), (3, .ref r3)] := hl
  refine lv_aload_n hx hb dX3_init_0 rfl (lv_at hl 0 rfl) ?_
  refine W.objInit hx hb hown (hall _ zw_44) (hall _ zw_2) (hall _ zw_3) rfl (hl.1.trans hml.symm) rfl dX3_init_1 (Nat.le_of_ble_eq_true rfl) (Nat.le_of_ble_eq_true rfl) ?_
  refine lv_aload_n hx hb dX3_init_4 rfl (lv_at hl 0 rfl) ?_
  refine lv_aload_n hx hb dX3_init_5 rfl (lv_at hl 1 rfl) ?_
  refine zputF (D := (dC, dI)) (ci := 2) (v := .ref r1) (ty := (.object "SumHouse$Room")) (C := RX3) (T := TX3) (N := 3) hx hb hall zx_3 tyX3 tyX3_ok nmX3 hown hK.1 hP hD hS 0 rfl rfl 0 (by decide) (hall _ zw_45) (fun _ h9 => h9) rfl hin rfl (by decide +kernel) rfl rfl (Nat.le_of_ble_eq_true rfl) dX3_init_6 (fun H locs hB hP hD hS => ?_)
  have hz0 : H.size = s.heap.size + 0 := hB.1.trans hz0
  have hP : va_P (dC, dI) vwCl [(h0, .inr (2, [.ref r1, .null, .null]))] H := hP
  have hD : va_D A [(h0, .inr (2, [.ref r1, .null, .null]))] := hD
  refine lv_aload_n hx hb dX3_init_9 rfl (lv_at hl 0 rfl) ?_
  refine lv_aload_n hx hb dX3_init_10 rfl (lv_at hl 2 rfl) ?_
  refine zputF (D := (dC, dI)) (ci := 2) (v := .ref r2) (ty := (.object "SumHouse$Planes")) (C := RX3) (T := TX3) (N := 3) hx hb hall zx_3 tyX3 tyX3_ok nmX3 hown hK.1 hP hD hS 0 rfl rfl 1 (by decide) (hall _ zw_46) (fun _ h9 => h9) rfl hin rfl (by decide +kernel) rfl rfl (Nat.le_of_ble_eq_true rfl) dX3_init_11 (fun H locs hB hP hD hS => ?_)
  have hz0 : H.size = s.heap.size + 0 := hB.1.trans hz0
  have hP : va_P (dC, dI) vwCl [(h0, .inr (2, [.ref r1, .ref r2, .null]))] H := hP
  have hD : va_D A [(h0, .inr (2, [.ref r1, .ref r2, .null]))] := hD
  refine lv_aload_n hx hb dX3_init_14 rfl (lv_at hl 0 rfl) ?_
  refine lv_aload_n hx hb dX3_init_15 rfl (lv_at hl 3 rfl) ?_
  refine zputF (D := (dC, dI)) (ci := 2) (v := .ref r3) (ty := (.object "SumHouse$Divisors")) (C := RX3) (T := TX3) (N := 3) hx hb hall zx_3 tyX3 tyX3_ok nmX3 hown hK.1 hP hD hS 0 rfl rfl 2 (by decide) (hall _ zw_47) (fun _ h9 => h9) rfl hin rfl (by decide +kernel) rfl rfl (Nat.le_of_ble_eq_true rfl) dX3_init_16 (fun H locs hB hP hD hS => ?_)
  have hz0 : H.size = s.heap.size + 0 := hB.1.trans hz0
  have hP : va_P (dC, dI) vwCl [(h0, .inr (2, [.ref r1, .ref r2, .ref r3]))] H := hP
  have hD : va_D A [(h0, .inr (2, [.ref r1, .ref r2, .ref r3]))] := hD
  refine W.widen (k := 0) (n := 0) (Nat.le_of_ble_eq_true rfl) (Nat.le_of_ble_eq_true rfl) ?_
  rw [← hQ, hAe]
  exact W.vret hx hb hr (fun t ht hW => ⟨⟨(), rfl, trivial, by rw [ht]; exact hP, hD, by rw [ht]; exact hz0⟩, hS.F ht⟩) hS.2.2 dX3_init_19

set_option maxHeartbeats 4000000 in
set_option maxRecDepth 100000 in
theorem c_X7_init (l : Launch) (dC : Nat → ClassId) (dI : Nat → Nat → Nat) (aC : Nat → ClassId) (h0 : Nat) (r1 : Nat) (sz : Nat) : Met l yX7_init w_X7_init ({ frames := 1, cells := 3, slots := 2866, locals := 24 }) (zPre (dC, dI) aC [(h0, .inr (6, [.null, .null, .null, .null, .int 0, .int 0, .int 0, .int 0, .int 0, .int 0, .int 0, .int 0, .int 0, .int 0]))] sz [.ref h0, .ref r1]) (va_Qv (fun (u : Unit) => True) (fun u t => zB (dC, dI) [(h0, .inr (6, [.ref r1, .ref (sz + 0), .ref (sz + 1), .ref (sz + 2), .int 0, .int 0, .int 0, .int 0, .int 0, .int 0, .int 0, .int 0, .int 0, .int 0])), (sz + 0, .inl (aC 0, 2760, .inl (fun _ => 0))), (sz + 1, .inl (aC 0, 60, .inl (fun _ => 0))), (sz + 2, .inl (aC 0, 46, .inl (fun _ => 0)))] (va_A [(h0, .inr (6, [.null, .null, .null, .null, .int 0, .int 0, .int 0, .int 0, .int 0, .int 0, .int 0, .int 0, .int 0, .int 0]))] sz) (sz + 3) t) (va_A [(h0, .inr (6, [.null, .null, .null, .null, .int 0, .int 0, .int 0, .int 0, .int 0, .int 0, .int 0, .int 0, .int 0, .int 0]))] sz)) 3 2866 (va_A [(h0, .inr (6, [.null, .null, .null, .null, .int 0, .int 0, .int 0, .int 0, .int 0, .int 0, .int 0, .int 0, .int 0, .int 0]))] sz) := by
  refine Met.ofW (cc := cX7_init) (maxL := 2) (ret := none) (by decide) rfl ?_
  intro p e s m args below meth c s₁ B hml hv
  generalize hQ : MQ below _ _ s _ _ _ = QQ
  obtain ⟨rfl, hsz, hP, hK, hD0⟩ := hv
  have hx := B.exec
  have hb := B.bytes
  have hr := B.returns
  have hts := atoms_spec (ws := w_X7_init) B.pre
  have hall := fun (w : Cond) (h : w ∈ zAll) => hts w (List.mem_cons_of_mem _ h)
  have hown : s.vm.findClass RX7 = some m.cls := findClass_of_methodNamed B.named
  have hlocks := B.notSynchronized
  have hin : meth.name = "<init>" := (name_of_methodNamed B.named B.method).1
  subst hsz
  have hD := hD0.self (sz := s.heap.size)
  generalize hAe : va_A [(h0, .inr (6, [.null, .null, .null, .null, .int 0, .int 0, .int 0, .int 0, .int 0, .int 0, .int 0, .int 0, .int 0, .int 0]))] s.heap.size = A at hD ⊢
  have hA : ∀ q : Nat, s.heap.size ≤ q → A q := fun q h => by rw [← hAe]; exact Or.inr h
  have hS : va_S A s.heap s.heap [] := va_S.rf
  have hz0 : s.heap.size = s.heap.size + 0 := rfl
  have hl := lv_entry ([.ref h0, .ref r1]) (n := 2) (Nat.le_of_ble_eq_true rfl)
  rw [lg_entry_eq]
  generalize (lg_sl ([.ref h0, .ref r1]) ++ List.replicate (2 - (lg_sl ([.ref h0, .ref r1])).length) Slot.unset).toArray = ls at hl ⊢
  have hl : lv_has ls 2 [(0, .ref h0), (1, .ref r1)] := hl
  refine lv_aload_n hx hb dX7_init_0 rfl (lv_at hl 0 rfl) ?_
  refine W.objInit hx hb hown (hall _ zw_72) (hall _ zw_2) (hall _ zw_3) rfl (hl.1.trans hml.symm) rfl dX7_init_1 (Nat.le_of_ble_eq_true rfl) (Nat.le_of_ble_eq_true rfl) ?_
  refine lv_aload_n hx hb dX7_init_4 rfl (lv_at hl 0 rfl) ?_
  refine lv_aload_n hx hb dX7_init_5 rfl (lv_at hl 1 rfl) ?_
  refine zputF (D := (dC, dI)) (ci := 6) (v := .ref r1) (ty := (.object "SumHouse$Room")) (C := RX7) (T := TX7) (N := 14) hx hb hall zx_7 tyX7 tyX7_ok nmX7 hown hK.1 hP hD hS 0 rfl rfl 0 (by decide) (hall _ zw_73) (fun _ h9 => h9) rfl hin rfl (by decide +kernel) rfl rfl (Nat.le_of_ble_eq_true rfl) dX7_init_6 (fun H locs hB hP hD hS => ?_)
  have hz0 : H.size = s.heap.size + 0 := hB.1.trans hz0
  have hP : va_P (dC, dI) vwCl [(h0, .inr (6, [.ref r1, .null, .null, .null, .int 0, .int 0, .int 0, .int 0, .int 0, .int 0, .int 0, .int 0, .int 0, .int 0]))] H := hP
  have hD : va_D A [(h0, .inr (6, [.ref r1, .null, .null, .null, .int 0, .int 0, .int 0, .int 0, .int 0, .int 0, .int 0, .int 0, .int 0, .int 0]))] := hD
  refine lv_aload_n hx hb dX7_init_9 rfl (lv_at hl 0 rfl) ?_
  refine lv_sipush (v := 2760) hx hb dX7_init_10 (by decide) ?_
  refine znewa (atype := .int) (ty := .int) (cA := aC 0) (a0 := (2760, .inl (fun _ => 0))) hx hb (hall _ zw_4) rfl hK.1 hP hD hS hA 0 rfl (fun h => h) rfl (by decide) (by decide) (Nat.le_of_ble_eq_true rfl) (Nat.le_of_ble_eq_true rfl) (Nat.le_of_ble_eq_true rfl) dX7_init_13 (fun q10 H eq10 hz hB hP hD hS => ?_)
  obtain rfl : q10 = s.heap.size + 0 := eq10.trans hz0
  have hz0 : H.size = s.heap.size + 1 := by omega
  have hP : va_P (dC, dI) vwCl [(h0, .inr (6, [.ref r1, .null, .null, .null, .int 0, .int 0, .int 0, .int 0, .int 0, .int 0, .int 0, .int 0, .int 0, .int 0])), (s.heap.size + 0, .inl (aC 0, 2760, .inl (fun _ => 0)))] H := hP
  have hD : va_D A [(h0, .inr (6, [.ref r1, .null, .null, .null, .int 0, .int 0, .int 0, .int 0, .int 0, .int 0, .int 0, .int 0, .int 0, .int 0])), (s.heap.size + 0, .inl (aC 0, 2760, .inl (fun _ => 0)))] := hD
  refine zputF (D := (dC, dI)) (ci := 6) (v := .ref (s.heap.size + 0)) (ty := (.array .int)) (C := RX7) (T := TX7) (N := 14) hx hb hall zx_7 tyX7 tyX7_ok nmX7 hown hK.1 hP hD hS 0 rfl rfl 1 (by decide) (hall _ zw_74) (fun _ h9 => h9) rfl hin rfl (by decide +kernel) rfl rfl (Nat.le_of_ble_eq_true rfl) dX7_init_15 (fun H locs hB hP hD hS => ?_)
  have hz0 : H.size = s.heap.size + 1 := hB.1.trans hz0
  have hP : va_P (dC, dI) vwCl [(h0, .inr (6, [.ref r1, .ref (s.heap.size + 0), .null, .null, .int 0, .int 0, .int 0, .int 0, .int 0, .int 0, .int 0, .int 0, .int 0, .int 0])), (s.heap.size + 0, .inl (aC 0, 2760, .inl (fun _ => 0)))] H := hP
  have hD : va_D A [(h0, .inr (6, [.ref r1, .ref (s.heap.size + 0), .null, .null, .int 0, .int 0, .int 0, .int 0, .int 0, .int 0, .int 0, .int 0, .int 0, .int 0])), (s.heap.size + 0, .inl (aC 0, 2760, .inl (fun _ => 0)))] := hD
  refine lv_aload_n hx hb dX7_init_18 rfl (lv_at hl 0 rfl) ?_
  refine lv_bipush (v := 60) hx hb dX7_init_19 (by decide) ?_
  refine znewa (atype := .int) (ty := .int) (cA := aC 0) (a0 := (60, .inl (fun _ => 0))) hx hb (hall _ zw_4) rfl hK.1 hP hD hS hA 0 rfl (fun h => h) rfl (by decide) (by decide) (Nat.le_of_ble_eq_true rfl) (Nat.le_of_ble_eq_true rfl) (Nat.le_of_ble_eq_true rfl) dX7_init_21 (fun q11 H eq11 hz hB hP hD hS => ?_)
  obtain rfl : q11 = s.heap.size + 1 := eq11.trans hz0
  have hz0 : H.size = s.heap.size + 2 := by omega
  have hP : va_P (dC, dI) vwCl [(h0, .inr (6, [.ref r1, .ref (s.heap.size + 0), .null, .null, .int 0, .int 0, .int 0, .int 0, .int 0, .int 0, .int 0, .int 0, .int 0, .int 0])), (s.heap.size + 0, .inl (aC 0, 2760, .inl (fun _ => 0))), (s.heap.size + 1, .inl (aC 0, 60, .inl (fun _ => 0)))] H := hP
  have hD : va_D A [(h0, .inr (6, [.ref r1, .ref (s.heap.size + 0), .null, .null, .int 0, .int 0, .int 0, .int 0, .int 0, .int 0, .int 0, .int 0, .int 0, .int 0])), (s.heap.size + 0, .inl (aC 0, 2760, .inl (fun _ => 0))), (s.heap.size + 1, .inl (aC 0, 60, .inl (fun _ => 0)))] := hD
  refine zputF (D := (dC, dI)) (ci := 6) (v := .ref (s.heap.size + 1)) (ty := (.array .int)) (C := RX7) (T := TX7) (N := 14) hx hb hall zx_7 tyX7 tyX7_ok nmX7 hown hK.1 hP hD hS 0 rfl rfl 2 (by decide) (hall _ zw_75) (fun _ h9 => h9) rfl hin rfl (by decide +kernel) rfl rfl (Nat.le_of_ble_eq_true rfl) dX7_init_23 (fun H locs hB hP hD hS => ?_)
  have hz0 : H.size = s.heap.size + 2 := hB.1.trans hz0
  have hP : va_P (dC, dI) vwCl [(h0, .inr (6, [.ref r1, .ref (s.heap.size + 0), .ref (s.heap.size + 1), .null, .int 0, .int 0, .int 0, .int 0, .int 0, .int 0, .int 0, .int 0, .int 0, .int 0])), (s.heap.size + 0, .inl (aC 0, 2760, .inl (fun _ => 0))), (s.heap.size + 1, .inl (aC 0, 60, .inl (fun _ => 0)))] H := hP
  have hD : va_D A [(h0, .inr (6, [.ref r1, .ref (s.heap.size + 0), .ref (s.heap.size + 1), .null, .int 0, .int 0, .int 0, .int 0, .int 0, .int 0, .int 0, .int 0, .int 0, .int 0])), (s.heap.size + 0, .inl (aC 0, 2760, .inl (fun _ => 0))), (s.heap.size + 1, .inl (aC 0, 60, .inl (fun _ => 0)))] := hD
  refine lv_aload_n hx hb dX7_init_26 rfl (lv_at hl 0 rfl) ?_
  refine lv_bipush (v := 46) hx hb dX7_init_27 (by decide) ?_
  refine znewa (atype := .int) (ty := .int) (cA := aC 0) (a0 := (46, .inl (fun _ => 0))) hx hb (hall _ zw_4) rfl hK.1 hP hD hS hA 0 rfl (fun h => h) rfl (by decide) (by decide) (Nat.le_of_ble_eq_true rfl) (Nat.le_of_ble_eq_true rfl) (Nat.le_of_ble_eq_true rfl) dX7_init_29 (fun q12 H eq12 hz hB hP hD hS => ?_)
  obtain rfl : q12 = s.heap.size + 2 := eq12.trans hz0
  have hz0 : H.size = s.heap.size + 3 := by omega
  have hP : va_P (dC, dI) vwCl [(h0, .inr (6, [.ref r1, .ref (s.heap.size + 0), .ref (s.heap.size + 1), .null, .int 0, .int 0, .int 0, .int 0, .int 0, .int 0, .int 0, .int 0, .int 0, .int 0])), (s.heap.size + 0, .inl (aC 0, 2760, .inl (fun _ => 0))), (s.heap.size + 1, .inl (aC 0, 60, .inl (fun _ => 0))), (s.heap.size + 2, .inl (aC 0, 46, .inl (fun _ => 0)))] H := hP
  have hD : va_D A [(h0, .inr (6, [.ref r1, .ref (s.heap.size + 0), .ref (s.heap.size + 1), .null, .int 0, .int 0, .int 0, .int 0, .int 0, .int 0, .int 0, .int 0, .int 0, .int 0])), (s.heap.size + 0, .inl (aC 0, 2760, .inl (fun _ => 0))), (s.heap.size + 1, .inl (aC 0, 60, .inl (fun _ => 0))), (s.heap.size + 2, .inl (aC 0, 46, .inl (fun _ => 0)))] := hD
  refine zputF (D := (dC, dI)) (ci := 6) (v := .ref (s.heap.size + 2)) (ty := (.array .int)) (C := RX7) (T := TX7) (N := 14) hx hb hall zx_7 tyX7 tyX7_ok nmX7 hown hK.1 hP hD hS 0 rfl rfl 3 (by decide) (hall _ zw_76) (fun _ h9 => h9) rfl hin rfl (by decide +kernel) rfl rfl (Nat.le_of_ble_eq_true rfl) dX7_init_31 (fun H locs hB hP hD hS => ?_)
  have hz0 : H.size = s.heap.size + 3 := hB.1.trans hz0
  have hP : va_P (dC, dI) vwCl [(h0, .inr (6, [.ref r1, .ref (s.heap.size + 0), .ref (s.heap.size + 1), .ref (s.heap.size + 2), .int 0, .int 0, .int 0, .int 0, .int 0, .int 0, .int 0, .int 0, .int 0, .int 0])), (s.heap.size + 0, .inl (aC 0, 2760, .inl (fun _ => 0))), (s.heap.size + 1, .inl (aC 0, 60, .inl (fun _ => 0))), (s.heap.size + 2, .inl (aC 0, 46, .inl (fun _ => 0)))] H := hP
  have hD : va_D A [(h0, .inr (6, [.ref r1, .ref (s.heap.size + 0), .ref (s.heap.size + 1), .ref (s.heap.size + 2), .int 0, .int 0, .int 0, .int 0, .int 0, .int 0, .int 0, .int 0, .int 0, .int 0])), (s.heap.size + 0, .inl (aC 0, 2760, .inl (fun _ => 0))), (s.heap.size + 1, .inl (aC 0, 60, .inl (fun _ => 0))), (s.heap.size + 2, .inl (aC 0, 46, .inl (fun _ => 0)))] := hD
  refine W.widen (k := 3) (n := 2866) (Nat.le_of_ble_eq_true rfl) (Nat.le_of_ble_eq_true rfl) ?_
  rw [← hQ, hAe]
  exact W.vret hx hb hr (fun t ht hW => ⟨⟨(), rfl, trivial, by rw [ht]; exact hP, hD, by rw [ht]; exact hz0⟩, hS.F ht⟩) hS.2.2 dX7_init_34

set_option maxHeartbeats 4000000 in
set_option maxRecDepth 100000 in
theorem c_X8_init (l : Launch) (dC : Nat → ClassId) (dI : Nat → Nat → Nat) (aC : Nat → ClassId) (h0 : Nat) (r1 : Nat) (r2 : Nat) (r3 : Nat) (r4 : Nat) (r5 : Nat) (r6 : Nat) (sz : Nat) : Met l yX8_init w_X8_init ({ frames := 1, cells := 4, slots := 16, locals := 24 }) (zPre (dC, dI) aC [(h0, .inr (7, [.null, .null, .null, .null, .null, .null, .int 0, .int 0, .int 0, .int 0, .int 0, .int 0, .int 0, .null, .null, .null, .null, .int 0]))] sz [.ref h0, .ref r1, .ref r2, .ref r3, .ref r4, .ref r5, .ref r6]) (va_Qv (fun (u : Unit) => True) (fun u t => zB (dC, dI) [(h0, .inr (7, [.ref r1, .ref r2, .ref r3, .ref r4, .ref r5, .ref r6, .int 0, .int 0, .int 0, .int 0, .int 0, .int 0, .int 0, .ref (sz + 0), .ref (sz + 1), .ref (sz + 2), .ref (sz + 3), .int 0])), (sz + 0, .inl (aC 0, 4, .inl (fun _ => 0))), (sz + 1, .inl (aC 0, 4, .inl (fun _ => 0))), (sz + 2, .inl (aC 0, 4, .inl (fun _ => 0))), (sz + 3, .inl (aC 0, 4, .inl (fun _ => 0)))] (va_A [(h0, .inr (7, [.null, .null, .null, .null, .null, .null, .int 0, .int 0, .int 0, .int 0, .int 0, .int 0, .int 0, .null, .null, .null, .null, .int 0]))] sz) (sz + 4) t) (va_A [(h0, .inr (7, [.null, .null, .null, .null, .null, .null, .int 0, .int 0, .int 0, .int 0, .int 0, .int 0, .int 0, .null, .null, .null, .null, .int 0]))] sz)) 4 16 (va_A [(h0, .inr (7, [.null, .null, .null, .null, .null, .null, .int 0, .int 0, .int 0, .int 0, .int 0, .int 0, .int 0, .null, .null, .null, .null, .int 0]))] sz) := by
  refine Met.ofW (cc := cX8_init) (maxL := 7) (ret := none) (by decide) rfl ?_
  intro p e s m args below meth c s₁ B hml hv
  generalize hQ : MQ below _ _ s _ _ _ = QQ
  obtain ⟨rfl, hsz, hP, hK, hD0⟩ := hv
  have hx := B.exec
  have hb := B.bytes
  have hr := B.returns
  have hts := atoms_spec (ws := w_X8_init) B.pre
  have hall := fun (w : Cond) (h : w ∈ zAll) => hts w (List.mem_cons_of_mem _ h)
  have hown : s.vm.findClass RX8 = some m.cls := findClass_of_methodNamed B.named
  have hlocks := B.notSynchronized
  have hin : meth.name = "<init>" := (name_of_methodNamed B.named B.method).1
  subst hsz
  have hD := hD0.self (sz := s.heap.size)
  generalize hAe : va_A [(h0, .inr (7, [.null, .null, .null, .null, .null, .null, .int 0, .int 0, .int 0, .int 0, .int 0, .int 0, .int 0, .null, .null, .null, .null, .int 0]))] s.heap.size = A at hD ⊢
  have hA : ∀ q : Nat, s.heap.size ≤ q → A q := fun q h => by rw [← hAe]; exact Or.inr h
  have hS : va_S A s.heap s.heap [] := va_S.rf
  have hz0 : s.heap.size = s.heap.size + 0 := rfl
  have hl := lv_entry ([.ref h0, .ref r1, .ref r2, .ref r3, .ref r4, .ref r5, .ref r6]) (n := 7) (Nat.le_of_ble_eq_true rfl)
  rw [lg_entry_eq]
  generalize (lg_sl ([.ref h0, .ref r1, .ref r2, .ref r3, .ref r4, .ref r5, .ref r6]) ++ List.replicate (7 - (lg_sl ([.ref h0, .ref r1, .ref r2, .ref r3, .ref r4, .ref r5, .ref r6])).length) Slot.unset).toArray = ls at hl ⊢
  have hl : lv_has ls 7 [(0, .ref h0), (1, .ref r1), (2, .ref r2), (3, .ref r3), (4, .ref r4), (5, .ref r5), (6, .ref r6)] := hl
  refine lv_aload_n hx hb dX8_init_0 rfl (lv_at hl 0 rfl) ?_
  refine W.objInit hx hb hown (hall _ zw_77) (hall _ zw_2) (hall _ zw_3) rfl (hl.1.trans hml.symm) rfl dX8_init_1 (Nat.le_of_ble_eq_true rfl) (Nat.le_of_ble_eq_true rfl) ?_
  refine lv_aload_n hx hb dX8_init_4 rfl (lv_at hl 0 rfl) ?_
  refine lv_aload_n hx hb dX8_init_5 rfl (lv_at hl 1 rfl) ?_
  refine zputF (D := (dC, dI)) (ci := 7) (v := .ref r1) (ty := (.object "SumHouse$Room")) (C := RX8) (T := TX8) (N := 18) hx hb hall zx_8 tyX8 tyX8_ok nmX8 hown hK.1 hP hD hS 0 rfl rfl 0 (by decide) (hall _ zw_78) (fun _ h9 => h9) rfl hin rfl (by decide +kernel) rfl rfl (Nat.le_of_ble_eq_true rfl) dX8_init_6 (fun H locs hB hP hD hS => ?_)
  have hz0 : H.size = s.heap.size + 0 := hB.1.trans hz0
  have hP : va_P (dC, dI) vwCl [(h0, .inr (7, [.ref r1, .null, .null, .null, .null, .null, .int 0, .int 0, .int 0, .int 0, .int 0, .int 0, .int 0, .null, .null, .null, .null, .int 0]))] H := hP
  have hD : va_D A [(h0, .inr (7, [.ref r1, .null, .null, .null, .null, .null, .int 0, .int 0, .int 0, .int 0, .int 0, .int 0, .int 0, .null, .null, .null, .null, .int 0]))] := hD
  refine lv_aload_n hx hb dX8_init_9 rfl (lv_at hl 0 rfl) ?_
  refine lv_aload_n hx hb dX8_init_10 rfl (lv_at hl 2 rfl) ?_
  refine zputF (D := (dC, dI)) (ci := 7) (v := .ref r2) (ty := (.object "SumHouse$Planes")) (C := RX8) (T := TX8) (N := 18) hx hb hall zx_8 tyX8 tyX8_ok nmX8 hown hK.1 hP hD hS 0 rfl rfl 1 (by decide) (hall _ zw_79) (fun _ h9 => h9) rfl hin rfl (by decide +kernel) rfl rfl (Nat.le_of_ble_eq_true rfl) dX8_init_11 (fun H locs hB hP hD hS => ?_)
  have hz0 : H.size = s.heap.size + 0 := hB.1.trans hz0
  have hP : va_P (dC, dI) vwCl [(h0, .inr (7, [.ref r1, .ref r2, .null, .null, .null, .null, .int 0, .int 0, .int 0, .int 0, .int 0, .int 0, .int 0, .null, .null, .null, .null, .int 0]))] H := hP
  have hD : va_D A [(h0, .inr (7, [.ref r1, .ref r2, .null, .null, .null, .null, .int 0, .int 0, .int 0, .int 0, .int 0, .int 0, .int 0, .null, .null, .null, .null, .int 0]))] := hD
  refine lv_aload_n hx hb dX8_init_14 rfl (lv_at hl 0 rfl) ?_
  refine lv_aload_n hx hb dX8_init_15 rfl (lv_at hl 3 rfl) ?_
  refine zputF (D := (dC, dI)) (ci := 7) (v := .ref r3) (ty := (.object "SumHouse$Divisors")) (C := RX8) (T := TX8) (N := 18) hx hb hall zx_8 tyX8 tyX8_ok nmX8 hown hK.1 hP hD hS 0 rfl rfl 2 (by decide) (hall _ zw_80) (fun _ h9 => h9) rfl hin rfl (by decide +kernel) rfl rfl (Nat.le_of_ble_eq_true rfl) dX8_init_16 (fun H locs hB hP hD hS => ?_)
  have hz0 : H.size = s.heap.size + 0 := hB.1.trans hz0
  have hP : va_P (dC, dI) vwCl [(h0, .inr (7, [.ref r1, .ref r2, .ref r3, .null, .null, .null, .int 0, .int 0, .int 0, .int 0, .int 0, .int 0, .int 0, .null, .null, .null, .null, .int 0]))] H := hP
  have hD : va_D A [(h0, .inr (7, [.ref r1, .ref r2, .ref r3, .null, .null, .null, .int 0, .int 0, .int 0, .int 0, .int 0, .int 0, .int 0, .null, .null, .null, .null, .int 0]))] := hD
  refine lv_aload_n hx hb dX8_init_19 rfl (lv_at hl 0 rfl) ?_
  refine lv_aload hx hb dX8_init_20 (lv_at hl 4 rfl) ?_
  refine zputF (D := (dC, dI)) (ci := 7) (v := .ref r4) (ty := (.object "SumHouse$Ratios")) (C := RX8) (T := TX8) (N := 18) hx hb hall zx_8 tyX8 tyX8_ok nmX8 hown hK.1 hP hD hS 0 rfl rfl 3 (by decide) (hall _ zw_81) (fun _ h9 => h9) rfl hin rfl (by decide +kernel) rfl rfl (Nat.le_of_ble_eq_true rfl) dX8_init_22 (fun H locs hB hP hD hS => ?_)
  have hz0 : H.size = s.heap.size + 0 := hB.1.trans hz0
  have hP : va_P (dC, dI) vwCl [(h0, .inr (7, [.ref r1, .ref r2, .ref r3, .ref r4, .null, .null, .int 0, .int 0, .int 0, .int 0, .int 0, .int 0, .int 0, .null, .null, .null, .null, .int 0]))] H := hP
  have hD : va_D A [(h0, .inr (7, [.ref r1, .ref r2, .ref r3, .ref r4, .null, .null, .int 0, .int 0, .int 0, .int 0, .int 0, .int 0, .int 0, .null, .null, .null, .null, .int 0]))] := hD
  refine lv_aload_n hx hb dX8_init_25 rfl (lv_at hl 0 rfl) ?_
  refine lv_aload hx hb dX8_init_26 (lv_at hl 5 rfl) ?_
  refine zputF (D := (dC, dI)) (ci := 7) (v := .ref r5) (ty := (.object "SumHouse$Terms")) (C := RX8) (T := TX8) (N := 18) hx hb hall zx_8 tyX8 tyX8_ok nmX8 hown hK.1 hP hD hS 0 rfl rfl 4 (by decide) (hall _ zw_82) (fun _ h9 => h9) rfl hin rfl (by decide +kernel) rfl rfl (Nat.le_of_ble_eq_true rfl) dX8_init_28 (fun H locs hB hP hD hS => ?_)
  have hz0 : H.size = s.heap.size + 0 := hB.1.trans hz0
  have hP : va_P (dC, dI) vwCl [(h0, .inr (7, [.ref r1, .ref r2, .ref r3, .ref r4, .ref r5, .null, .int 0, .int 0, .int 0, .int 0, .int 0, .int 0, .int 0, .null, .null, .null, .null, .int 0]))] H := hP
  have hD : va_D A [(h0, .inr (7, [.ref r1, .ref r2, .ref r3, .ref r4, .ref r5, .null, .int 0, .int 0, .int 0, .int 0, .int 0, .int 0, .int 0, .null, .null, .null, .null, .int 0]))] := hD
  refine lv_aload_n hx hb dX8_init_31 rfl (lv_at hl 0 rfl) ?_
  refine lv_aload hx hb dX8_init_32 (lv_at hl 6 rfl) ?_
  refine zputF (D := (dC, dI)) (ci := 7) (v := .ref r6) (ty := (.object "SumHouse$Solver")) (C := RX8) (T := TX8) (N := 18) hx hb hall zx_8 tyX8 tyX8_ok nmX8 hown hK.1 hP hD hS 0 rfl rfl 5 (by decide) (hall _ zw_83) (fun _ h9 => h9) rfl hin rfl (by decide +kernel) rfl rfl (Nat.le_of_ble_eq_true rfl) dX8_init_34 (fun H locs hB hP hD hS => ?_)
  have hz0 : H.size = s.heap.size + 0 := hB.1.trans hz0
  have hP : va_P (dC, dI) vwCl [(h0, .inr (7, [.ref r1, .ref r2, .ref r3, .ref r4, .ref r5, .ref r6, .int 0, .int 0, .int 0, .int 0, .int 0, .int 0, .int 0, .null, .null, .null, .null, .int 0]))] H := hP
  have hD : va_D A [(h0, .inr (7, [.ref r1, .ref r2, .ref r3, .ref r4, .ref r5, .ref r6, .int 0, .int 0, .int 0, .int 0, .int 0, .int 0, .int 0, .null, .null, .null, .null, .int 0]))] := hD
  refine lv_aload_n hx hb dX8_init_37 rfl (lv_at hl 0 rfl) ?_
  refine lv_iconst (v := 4) hx hb dX8_init_38 (by decide) ?_
  refine znewa (atype := .int) (ty := .int) (cA := aC 0) (a0 := (4, .inl (fun _ => 0))) hx hb (hall _ zw_4) rfl hK.1 hP hD hS hA 0 rfl (fun h => h) rfl (by decide) (by decide) (Nat.le_of_ble_eq_true rfl) (Nat.le_of_ble_eq_true rfl) (Nat.le_of_ble_eq_true rfl) dX8_init_39 (fun q13 H eq13 hz hB hP hD hS => ?_)
  obtain rfl : q13 = s.heap.size + 0 := eq13.trans hz0
  have hz0 : H.size = s.heap.size + 1 := by omega
  have hP : va_P (dC, dI) vwCl [(h0, .inr (7, [.ref r1, .ref r2, .ref r3, .ref r4, .ref r5, .ref r6, .int 0, .int 0, .int 0, .int 0, .int 0, .int 0, .int 0, .null, .null, .null, .null, .int 0])), (s.heap.size + 0, .inl (aC 0, 4, .inl (fun _ => 0)))] H := hP
  have hD : va_D A [(h0, .inr (7, [.ref r1, .ref r2, .ref r3, .ref r4, .ref r5, .ref r6, .int 0, .int 0, .int 0, .int 0, .int 0, .int 0, .int 0, .null, .null, .null, .null, .int 0])), (s.heap.size + 0, .inl (aC 0, 4, .inl (fun _ => 0)))] := hD
  refine zputF (D := (dC, dI)) (ci := 7) (v := .ref (s.heap.size + 0)) (ty := (.array .int)) (C := RX8) (T := TX8) (N := 18) hx hb hall zx_8 tyX8 tyX8_ok nmX8 hown hK.1 hP hD hS 0 rfl rfl 13 (by decide) (hall _ zw_84) (fun _ h9 => h9) rfl hin rfl (by decide +kernel) rfl rfl (Nat.le_of_ble_eq_true rfl) dX8_init_41 (fun H locs hB hP hD hS => ?_)
  have hz0 : H.size = s.heap.size + 1 := hB.1.trans hz0
  have hP : va_P (dC, dI) vwCl [(h0, .inr (7, [.ref r1, .ref r2, .ref r3, .ref r4, .ref r5, .ref r6, .int 0, .int 0, .int 0, .int 0, .int 0, .int 0, .int 0, .ref (s.heap.size + 0), .null, .null, .null, .int 0])), (s.heap.size + 0, .inl (aC 0, 4, .inl (fun _ => 0)))] H := hP
  have hD : va_D A [(h0, .inr (7, [.ref r1, .ref r2, .ref r3, .ref r4, .ref r5, .ref r6, .int 0, .int 0, .int 0, .int 0, .int 0, .int 0, .int 0, .ref (s.heap.size + 0), .null, .null, .null, .int 0])), (s.heap.size + 0, .inl (aC 0, 4, .inl (fun _ => 0)))] := hD
  refine lv_aload_n hx hb dX8_init_44 rfl (lv_at hl 0 rfl) ?_
  refine lv_iconst (v := 4) hx hb dX8_init_45 (by decide) ?_
  refine znewa (atype := .int) (ty := .int) (cA := aC 0) (a0 := (4, .inl (fun _ => 0))) hx hb (hall _ zw_4) rfl hK.1 hP hD hS hA 0 rfl (fun h => h) rfl (by decide) (by decide) (Nat.le_of_ble_eq_true rfl) (Nat.le_of_ble_eq_true rfl) (Nat.le_of_ble_eq_true rfl) dX8_init_46 (fun q14 H eq14 hz hB hP hD hS => ?_)
  obtain rfl : q14 = s.heap.size + 1 := eq14.trans hz0
  have hz0 : H.size = s.heap.size + 2 := by omega
  have hP : va_P (dC, dI) vwCl [(h0, .inr (7, [.ref r1, .ref r2, .ref r3, .ref r4, .ref r5, .ref r6, .int 0, .int 0, .int 0, .int 0, .int 0, .int 0, .int 0, .ref (s.heap.size + 0), .null, .null, .null, .int 0])), (s.heap.size + 0, .inl (aC 0, 4, .inl (fun _ => 0))), (s.heap.size + 1, .inl (aC 0, 4, .inl (fun _ => 0)))] H := hP
  have hD : va_D A [(h0, .inr (7, [.ref r1, .ref r2, .ref r3, .ref r4, .ref r5, .ref r6, .int 0, .int 0, .int 0, .int 0, .int 0, .int 0, .int 0, .ref (s.heap.size + 0), .null, .null, .null, .int 0])), (s.heap.size + 0, .inl (aC 0, 4, .inl (fun _ => 0))), (s.heap.size + 1, .inl (aC 0, 4, .inl (fun _ => 0)))] := hD
  refine zputF (D := (dC, dI)) (ci := 7) (v := .ref (s.heap.size + 1)) (ty := (.array .int)) (C := RX8) (T := TX8) (N := 18) hx hb hall zx_8 tyX8 tyX8_ok nmX8 hown hK.1 hP hD hS 0 rfl rfl 14 (by decide) (hall _ zw_85) (fun _ h9 => h9) rfl hin rfl (by decide +kernel) rfl rfl (Nat.le_of_ble_eq_true rfl) dX8_init_48 (fun H locs hB hP hD hS => ?_)
  have hz0 : H.size = s.heap.size + 2 := hB.1.trans hz0
  have hP : va_P (dC, dI) vwCl [(h0, .inr (7, [.ref r1, .ref r2, .ref r3, .ref r4, .ref r5, .ref r6, .int 0, .int 0, .int 0, .int 0, .int 0, .int 0, .int 0, .ref (s.heap.size + 0), .ref (s.heap.size + 1), .null, .null, .int 0])), (s.heap.size + 0, .inl (aC 0, 4, .inl (fun _ => 0))), (s.heap.size + 1, .inl (aC 0, 4, .inl (fun _ => 0)))] H := hP
  have hD : va_D A [(h0, .inr (7, [.ref r1, .ref r2, .ref r3, .ref r4, .ref r5, .ref r6, .int 0, .int 0, .int 0, .int 0, .int 0, .int 0, .int 0, .ref (s.heap.size + 0), .ref (s.heap.size + 1), .null, .null, .int 0])), (s.heap.size + 0, .inl (aC 0, 4, .inl (fun _ => 0))), (s.heap.size + 1, .inl (aC 0, 4, .inl (fun _ => 0)))] := hD
  refine lv_aload_n hx hb dX8_init_51 rfl (lv_at hl 0 rfl) ?_
  refine lv_iconst (v := 4) hx hb dX8_init_52 (by decide) ?_
  refine znewa (atype := .int) (ty := .int) (cA := aC 0) (a0 := (4, .inl (fun _ => 0))) hx hb (hall _ zw_4) rfl hK.1 hP hD hS hA 0 rfl (fun h => h) rfl (by decide) (by decide) (Nat.le_of_ble_eq_true rfl) (Nat.le_of_ble_eq_true rfl) (Nat.le_of_ble_eq_true rfl) dX8_init_53 (fun q15 H eq15 hz hB hP hD hS => ?_)
  obtain rfl : q15 = s.heap.size + 2 := eq15.trans hz0
  have hz0 : H.size = s.heap.size + 3 := by omega
  have hP : va_P (dC, dI) vwCl [(h0, .inr (7, [.ref r1, .ref r2, .ref r3, .ref r4, .ref r5, .ref r6, .int 0, .int 0, .int 0, .int 0, .int 0, .int 0, .int 0, .ref (s.heap.size + 0), .ref (s.heap.size + 1), .null, .null, .int 0])), (s.heap.size + 0, .inl (aC 0, 4, .inl (fun _ => 0))), (s.heap.size + 1, .inl (aC 0, 4, .inl (fun _ => 0))), (s.heap.size + 2, .inl (aC 0, 4, .inl (fun _ => 0)))] H := hP
  have hD : va_D A [(h0, .inr (7, [.ref r1, .ref r2, .ref r3, .ref r4, .ref r5, .ref r6, .int 0, .int 0, .int 0, .int 0, .int 0, .int 0, .int 0, .ref (s.heap.size + 0), .ref (s.heap.size + 1), .null, .null, .int 0])), (s.heap.size + 0, .inl (aC 0, 4, .inl (fun _ => 0))), (s.heap.size + 1, .inl (aC 0, 4, .inl (fun _ => 0))), (s.heap.size + 2, .inl (aC 0, 4, .inl (fun _ => 0)))] := hD
  refine zputF (D := (dC, dI)) (ci := 7) (v := .ref (s.heap.size + 2)) (ty := (.array .int)) (C := RX8) (T := TX8) (N := 18) hx hb hall zx_8 tyX8 tyX8_ok nmX8 hown hK.1 hP hD hS 0 rfl rfl 15 (by decide) (hall _ zw_86) (fun _ h9 => h9) rfl hin rfl (by decide +kernel) rfl rfl (Nat.le_of_ble_eq_true rfl) dX8_init_55 (fun H locs hB hP hD hS => ?_)
  have hz0 : H.size = s.heap.size + 3 := hB.1.trans hz0
  have hP : va_P (dC, dI) vwCl [(h0, .inr (7, [.ref r1, .ref r2, .ref r3, .ref r4, .ref r5, .ref r6, .int 0, .int 0, .int 0, .int 0, .int 0, .int 0, .int 0, .ref (s.heap.size + 0), .ref (s.heap.size + 1), .ref (s.heap.size + 2), .null, .int 0])), (s.heap.size + 0, .inl (aC 0, 4, .inl (fun _ => 0))), (s.heap.size + 1, .inl (aC 0, 4, .inl (fun _ => 0))), (s.heap.size + 2, .inl (aC 0, 4, .inl (fun _ => 0)))] H := hP
  have hD : va_D A [(h0, .inr (7, [.ref r1, .ref r2, .ref r3, .ref r4, .ref r5, .ref r6, .int 0, .int 0, .int 0, .int 0, .int 0, .int 0, .int 0, .ref (s.heap.size + 0), .ref (s.heap.size + 1), .ref (s.heap.size + 2), .null, .int 0])), (s.heap.size + 0, .inl (aC 0, 4, .inl (fun _ => 0))), (s.heap.size + 1, .inl (aC 0, 4, .inl (fun _ => 0))), (s.heap.size + 2, .inl (aC 0, 4, .inl (fun _ => 0)))] := hD
  refine lv_aload_n hx hb dX8_init_58 rfl (lv_at hl 0 rfl) ?_
  refine lv_iconst (v := 4) hx hb dX8_init_59 (by decide) ?_
  refine znewa (atype := .int) (ty := .int) (cA := aC 0) (a0 := (4, .inl (fun _ => 0))) hx hb (hall _ zw_4) rfl hK.1 hP hD hS hA 0 rfl (fun h => h) rfl (by decide) (by decide) (Nat.le_of_ble_eq_true rfl) (Nat.le_of_ble_eq_true rfl) (Nat.le_of_ble_eq_true rfl) dX8_init_60 (fun q16 H eq16 hz hB hP hD hS => ?_)
  obtain rfl : q16 = s.heap.size + 3 := eq16.trans hz0
  have hz0 : H.size = s.heap.size + 4 := by omega
  have hP : va_P (dC, dI) vwCl [(h0, .inr (7, [.ref r1, .ref r2, .ref r3, .ref r4, .ref r5, .ref r6, .int 0, .int 0, .int 0, .int 0, .int 0, .int 0, .int 0, .ref (s.heap.size + 0), .ref (s.heap.size + 1), .ref (s.heap.size + 2), .null, .int 0])), (s.heap.size + 0, .inl (aC 0, 4, .inl (fun _ => 0))), (s.heap.size + 1, .inl (aC 0, 4, .inl (fun _ => 0))), (s.heap.size + 2, .inl (aC 0, 4, .inl (fun _ => 0))), (s.heap.size + 3, .inl (aC 0, 4, .inl (fun _ => 0)))] H := hP
  have hD : va_D A [(h0, .inr (7, [.ref r1, .ref r2, .ref r3, .ref r4, .ref r5, .ref r6, .int 0, .int 0, .int 0, .int 0, .int 0, .int 0, .int 0, .ref (s.heap.size + 0), .ref (s.heap.size + 1), .ref (s.heap.size + 2), .null, .int 0])), (s.heap.size + 0, .inl (aC 0, 4, .inl (fun _ => 0))), (s.heap.size + 1, .inl (aC 0, 4, .inl (fun _ => 0))), (s.heap.size + 2, .inl (aC 0, 4, .inl (fun _ => 0))), (s.heap.size + 3, .inl (aC 0, 4, .inl (fun _ => 0)))] := hD
  refine zputF (D := (dC, dI)) (ci := 7) (v := .ref (s.heap.size + 3)) (ty := (.array .int)) (C := RX8) (T := TX8) (N := 18) hx hb hall zx_8 tyX8 tyX8_ok nmX8 hown hK.1 hP hD hS 0 rfl rfl 16 (by decide) (hall _ zw_87) (fun _ h9 => h9) rfl hin rfl (by decide +kernel) rfl rfl (Nat.le_of_ble_eq_true rfl) dX8_init_62 (fun H locs hB hP hD hS => ?_)
  have hz0 : H.size = s.heap.size + 4 := hB.1.trans hz0
  have hP : va_P (dC, dI) vwCl [(h0, .inr (7, [.ref r1, .ref r2, .ref r3, .ref r4, .ref r5, .ref r6, .int 0, .int 0, .int 0, .int 0, .int 0, .int 0, .int 0, .ref (s.heap.size + 0), .ref (s.heap.size + 1), .ref (s.heap.size + 2), .ref (s.heap.size + 3), .int 0])), (s.heap.size + 0, .inl (aC 0, 4, .inl (fun _ => 0))), (s.heap.size + 1, .inl (aC 0, 4, .inl (fun _ => 0))), (s.heap.size + 2, .inl (aC 0, 4, .inl (fun _ => 0))), (s.heap.size + 3, .inl (aC 0, 4, .inl (fun _ => 0)))] H := hP
  have hD : va_D A [(h0, .inr (7, [.ref r1, .ref r2, .ref r3, .ref r4, .ref r5, .ref r6, .int 0, .int 0, .int 0, .int 0, .int 0, .int 0, .int 0, .ref (s.heap.size + 0), .ref (s.heap.size + 1), .ref (s.heap.size + 2), .ref (s.heap.size + 3), .int 0])), (s.heap.size + 0, .inl (aC 0, 4, .inl (fun _ => 0))), (s.heap.size + 1, .inl (aC 0, 4, .inl (fun _ => 0))), (s.heap.size + 2, .inl (aC 0, 4, .inl (fun _ => 0))), (s.heap.size + 3, .inl (aC 0, 4, .inl (fun _ => 0)))] := hD
  refine W.widen (k := 4) (n := 16) (Nat.le_of_ble_eq_true rfl) (Nat.le_of_ble_eq_true rfl) ?_
  rw [← hQ, hAe]
  exact W.vret hx hb hr (fun t ht hW => ⟨⟨(), rfl, trivial, by rw [ht]; exact hP, hD, by rw [ht]; exact hz0⟩, hS.F ht⟩) hS.2.2 dX8_init_65

set_option maxHeartbeats 4000000 in
set_option maxRecDepth 100000 in
theorem c_X5_init (l : Launch) (dC : Nat → ClassId) (dI : Nat → Nat → Nat) (aC : Nat → ClassId) (h0 : Nat) (r1 : Nat) (r2 : Nat) (r3 : Nat) (r4 : Nat) (sz : Nat) : Met l yX5_init w_X5_init ({ frames := 1, cells := 5, slots := 694, locals := 24 }) (zPre (dC, dI) aC [(h0, .inr (4, [.null, .null, .null, .null, .null, .null, .null, .null, .null]))] sz [.ref h0, .ref r1, .ref r2, .ref r3, .ref r4]) (va_Qv (fun (u : Unit) => True) (fun u t => zB (dC, dI) [(h0, .inr (4, [.ref r1, .ref r2, .ref r3, .ref r4, .ref (sz + 0), .ref (sz + 1), .ref (sz + 2), .ref (sz + 3), .ref (sz + 4)])), (sz + 0, .inl (aC 0, 8, .inl (fun _ => 0))), (sz + 1, .inl (aC 0, 301, .inl (fun _ => 0))), (sz + 2, .inl (aC 0, 301, .inl (fun _ => 0))), (sz + 3, .inl (aC 0, 42, .inl (fun _ => 0))), (sz + 4, .inl (aC 0, 42, .inl (fun _ => 0)))] (va_A [(h0, .inr (4, [.null, .null, .null, .null, .null, .null, .null, .null, .null]))] sz) (sz + 5) t) (va_A [(h0, .inr (4, [.null, .null, .null, .null, .null, .null, .null, .null, .null]))] sz)) 5 694 (va_A [(h0, .inr (4, [.null, .null, .null, .null, .null, .null, .null, .null, .null]))] sz) := by
  refine Met.ofW (cc := cX5_init) (maxL := 5) (ret := none) (by decide) rfl ?_
  intro p e s m args below meth c s₁ B hml hv
  generalize hQ : MQ below _ _ s _ _ _ = QQ
  obtain ⟨rfl, hsz, hP, hK, hD0⟩ := hv
  have hx := B.exec
  have hb := B.bytes
  have hr := B.returns
  have hts := atoms_spec (ws := w_X5_init) B.pre
  have hall := fun (w : Cond) (h : w ∈ zAll) => hts w (List.mem_cons_of_mem _ h)
  have hown : s.vm.findClass RX5 = some m.cls := findClass_of_methodNamed B.named
  have hlocks := B.notSynchronized
  have hin : meth.name = "<init>" := (name_of_methodNamed B.named B.method).1
  subst hsz
  have hD := hD0.self (sz := s.heap.size)
  generalize hAe : va_A [(h0, .inr (4, [.null, .null, .null, .null, .null, .null, .null, .null, .null]))] s.heap.size = A at hD ⊢
  have hA : ∀ q : Nat, s.heap.size ≤ q → A q := fun q h => by rw [← hAe]; exact Or.inr h
  have hS : va_S A s.heap s.heap [] := va_S.rf
  have hz0 : s.heap.size = s.heap.size + 0 := rfl
  have hl := lv_entry ([.ref h0, .ref r1, .ref r2, .ref r3, .ref r4]) (n := 5) (Nat.le_of_ble_eq_true rfl)
  rw [lg_entry_eq]
  generalize (lg_sl ([.ref h0, .ref r1, .ref r2, .ref r3, .ref r4]) ++ List.replicate (5 - (lg_sl ([.ref h0, .ref r1, .ref r2, .ref r3, .ref r4])).length) Slot.unset).toArray = ls at hl ⊢
  have hl : lv_has ls 5 [(0, .ref h0), (1, .ref r1), (2, .ref r2), (3, .ref r3), (4, .ref r4)] := hl
  refine lv_aload_n hx hb dX5_init_0 rfl (lv_at hl 0 rfl) ?_
  refine W.objInit hx hb hown (hall _ zw_58) (hall _ zw_2) (hall _ zw_3) rfl (hl.1.trans hml.symm) rfl dX5_init_1 (Nat.le_of_ble_eq_true rfl) (Nat.le_of_ble_eq_true rfl) ?_
  refine lv_aload_n hx hb dX5_init_4 rfl (lv_at hl 0 rfl) ?_
  refine lv_aload_n hx hb dX5_init_5 rfl (lv_at hl 1 rfl) ?_
  refine zputF (D := (dC, dI)) (ci := 4) (v := .ref r1) (ty := (.object "SumHouse$Room")) (C := RX5) (T := TX5) (N := 9) hx hb hall zx_5 tyX5 tyX5_ok nmX5 hown hK.1 hP hD hS 0 rfl rfl 0 (by decide) (hall _ zw_59) (fun _ h9 => h9) rfl hin rfl (by decide +kernel) rfl rfl (Nat.le_of_ble_eq_true rfl) dX5_init_6 (fun H locs hB hP hD hS => ?_)
  have hz0 : H.size = s.heap.size + 0 := hB.1.trans hz0
  have hP : va_P (dC, dI) vwCl [(h0, .inr (4, [.ref r1, .null, .null, .null, .null, .null, .null, .null, .null]))] H := hP
  have hD : va_D A [(h0, .inr (4, [.ref r1, .null, .null, .null, .null, .null, .null, .null, .null]))] := hD
  refine lv_aload_n hx hb dX5_init_9 rfl (lv_at hl 0 rfl) ?_
  refine lv_aload_n hx hb dX5_init_10 rfl (lv_at hl 2 rfl) ?_
  refine zputF (D := (dC, dI)) (ci := 4) (v := .ref r2) (ty := (.object "SumHouse$Planes")) (C := RX5) (T := TX5) (N := 9) hx hb hall zx_5 tyX5 tyX5_ok nmX5 hown hK.1 hP hD hS 0 rfl rfl 1 (by decide) (hall _ zw_60) (fun _ h9 => h9) rfl hin rfl (by decide +kernel) rfl rfl (Nat.le_of_ble_eq_true rfl) dX5_init_11 (fun H locs hB hP hD hS => ?_)
  have hz0 : H.size = s.heap.size + 0 := hB.1.trans hz0
  have hP : va_P (dC, dI) vwCl [(h0, .inr (4, [.ref r1, .ref r2, .null, .null, .null, .null, .null, .null, .null]))] H := hP
  have hD : va_D A [(h0, .inr (4, [.ref r1, .ref r2, .null, .null, .null, .null, .null, .null, .null]))] := hD
  refine lv_aload_n hx hb dX5_init_14 rfl (lv_at hl 0 rfl) ?_
  refine lv_aload_n hx hb dX5_init_15 rfl (lv_at hl 3 rfl) ?_
  refine zputF (D := (dC, dI)) (ci := 4) (v := .ref r3) (ty := (.object "SumHouse$Divisors")) (C := RX5) (T := TX5) (N := 9) hx hb hall zx_5 tyX5 tyX5_ok nmX5 hown hK.1 hP hD hS 0 rfl rfl 2 (by decide) (hall _ zw_61) (fun _ h9 => h9) rfl hin rfl (by decide +kernel) rfl rfl (Nat.le_of_ble_eq_true rfl) dX5_init_16 (fun H locs hB hP hD hS => ?_)
  have hz0 : H.size = s.heap.size + 0 := hB.1.trans hz0
  have hP : va_P (dC, dI) vwCl [(h0, .inr (4, [.ref r1, .ref r2, .ref r3, .null, .null, .null, .null, .null, .null]))] H := hP
  have hD : va_D A [(h0, .inr (4, [.ref r1, .ref r2, .ref r3, .null, .null, .null, .null, .null, .null]))] := hD
  refine lv_aload_n hx hb dX5_init_19 rfl (lv_at hl 0 rfl) ?_
  refine lv_aload hx hb dX5_init_20 (lv_at hl 4 rfl) ?_
  refine zputF (D := (dC, dI)) (ci := 4) (v := .ref r4) (ty := (.object "SumHouse$Solver")) (C := RX5) (T := TX5) (N := 9) hx hb hall zx_5 tyX5 tyX5_ok nmX5 hown hK.1 hP hD hS 0 rfl rfl 3 (by decide) (hall _ zw_62) (fun _ h9 => h9) rfl hin rfl (by decide +kernel) rfl rfl (Nat.le_of_ble_eq_true rfl) dX5_init_22 (fun H locs hB hP hD hS => ?_)
  have hz0 : H.size = s.heap.size + 0 := hB.1.trans hz0
  have hP : va_P (dC, dI) vwCl [(h0, .inr (4, [.ref r1, .ref r2, .ref r3, .ref r4, .null, .null, .null, .null, .null]))] H := hP
  have hD : va_D A [(h0, .inr (4, [.ref r1, .ref r2, .ref r3, .ref r4, .null, .null, .null, .null, .null]))] := hD
  refine lv_aload_n hx hb dX5_init_25 rfl (lv_at hl 0 rfl) ?_
  refine lv_bipush (v := 8) hx hb dX5_init_26 (by decide) ?_
  refine znewa (atype := .int) (ty := .int) (cA := aC 0) (a0 := (8, .inl (fun _ => 0))) hx hb (hall _ zw_4) rfl hK.1 hP hD hS hA 0 rfl (fun h => h) rfl (by decide) (by decide) (Nat.le_of_ble_eq_true rfl) (Nat.le_of_ble_eq_true rfl) (Nat.le_of_ble_eq_true rfl) dX5_init_28 (fun q17 H eq17 hz hB hP hD hS => ?_)
  obtain rfl : q17 = s.heap.size + 0 := eq17.trans hz0
  have hz0 : H.size = s.heap.size + 1 := by omega
  have hP : va_P (dC, dI) vwCl [(h0, .inr (4, [.ref r1, .ref r2, .ref r3, .ref r4, .null, .null, .null, .null, .null])), (s.heap.size + 0, .inl (aC 0, 8, .inl (fun _ => 0)))] H := hP
  have hD : va_D A [(h0, .inr (4, [.ref r1, .ref r2, .ref r3, .ref r4, .null, .null, .null, .null, .null])), (s.heap.size + 0, .inl (aC 0, 8, .inl (fun _ => 0)))] := hD
  refine zputF (D := (dC, dI)) (ci := 4) (v := .ref (s.heap.size + 0)) (ty := (.array .int)) (C := RX5) (T := TX5) (N := 9) hx hb hall zx_5 tyX5 tyX5_ok nmX5 hown hK.1 hP hD hS 0 rfl rfl 4 (by decide) (hall _ zw_63) (fun _ h9 => h9) rfl hin rfl (by decide +kernel) rfl rfl (Nat.le_of_ble_eq_true rfl) dX5_init_30 (fun H locs hB hP hD hS => ?_)
  have hz0 : H.size = s.heap.size + 1 := hB.1.trans hz0
  have hP : va_P (dC, dI) vwCl [(h0, .inr (4, [.ref r1, .ref r2, .ref r3, .ref r4, .ref (s.heap.size + 0), .null, .null, .null, .null])), (s.heap.size + 0, .inl (aC 0, 8, .inl (fun _ => 0)))] H := hP
  have hD : va_D A [(h0, .inr (4, [.ref r1, .ref r2, .ref r3, .ref r4, .ref (s.heap.size + 0), .null, .null, .null, .null])), (s.heap.size + 0, .inl (aC 0, 8, .inl (fun _ => 0)))] := hD
  refine lv_aload_n hx hb dX5_init_33 rfl (lv_at hl 0 rfl) ?_
  refine lv_sipush (v := 301) hx hb dX5_init_34 (by decide) ?_
  refine znewa (atype := .int) (ty := .int) (cA := aC 0) (a0 := (301, .inl (fun _ => 0))) hx hb (hall _ zw_4) rfl hK.1 hP hD hS hA 0 rfl (fun h => h) rfl (by decide) (by decide) (Nat.le_of_ble_eq_true rfl) (Nat.le_of_ble_eq_true rfl) (Nat.le_of_ble_eq_true rfl) dX5_init_37 (fun q18 H eq18 hz hB hP hD hS => ?_)
  obtain rfl : q18 = s.heap.size + 1 := eq18.trans hz0
  have hz0 : H.size = s.heap.size + 2 := by omega
  have hP : va_P (dC, dI) vwCl [(h0, .inr (4, [.ref r1, .ref r2, .ref r3, .ref r4, .ref (s.heap.size + 0), .null, .null, .null, .null])), (s.heap.size + 0, .inl (aC 0, 8, .inl (fun _ => 0))), (s.heap.size + 1, .inl (aC 0, 301, .inl (fun _ => 0)))] H := hP
  have hD : va_D A [(h0, .inr (4, [.ref r1, .ref r2, .ref r3, .ref r4, .ref (s.heap.size + 0), .null, .null, .null, .null])), (s.heap.size + 0, .inl (aC 0, 8, .inl (fun _ => 0))), (s.heap.size + 1, .inl (aC 0, 301, .inl (fun _ => 0)))] := hD
  refine zputF (D := (dC, dI)) (ci := 4) (v := .ref (s.heap.size + 1)) (ty := (.array .int)) (C := RX5) (T := TX5) (N := 9) hx hb hall zx_5 tyX5 tyX5_ok nmX5 hown hK.1 hP hD hS 0 rfl rfl 5 (by decide) (hall _ zw_64) (fun _ h9 => h9) rfl hin rfl (by decide +kernel) rfl rfl (Nat.le_of_ble_eq_true rfl) dX5_init_39 (fun H locs hB hP hD hS => ?_)
  have hz0 : H.size = s.heap.size + 2 := hB.1.trans hz0
  have hP : va_P (dC, dI) vwCl [(h0, .inr (4, [.ref r1, .ref r2, .ref r3, .ref r4, .ref (s.heap.size + 0), .ref (s.heap.size + 1), .null, .null, .null])), (s.heap.size + 0, .inl (aC 0, 8, .inl (fun _ => 0))), (s.heap.size + 1, .inl (aC 0, 301, .inl (fun _ => 0)))] H := hP
  have hD : va_D A [(h0, .inr (4, [.ref r1, .ref r2, .ref r3, .ref r4, .ref (s.heap.size + 0), .ref (s.heap.size + 1), .null, .null, .null])), (s.heap.size + 0, .inl (aC 0, 8, .inl (fun _ => 0))), (s.heap.size + 1, .inl (aC 0, 301, .inl (fun _ => 0)))] := hD
  refine lv_aload_n hx hb dX5_init_42 rfl (lv_at hl 0 rfl) ?_
  refine lv_sipush (v := 301) hx hb dX5_init_43 (by decide) ?_
  refine znewa (atype := .int) (ty := .int) (cA := aC 0) (a0 := (301, .inl (fun _ => 0))) hx hb (hall _ zw_4) rfl hK.1 hP hD hS hA 0 rfl (fun h => h) rfl (by decide) (by decide) (Nat.le_of_ble_eq_true rfl) (Nat.le_of_ble_eq_true rfl) (Nat.le_of_ble_eq_true rfl) dX5_init_46 (fun q19 H eq19 hz hB hP hD hS => ?_)
  obtain rfl : q19 = s.heap.size + 2 := eq19.trans hz0
  have hz0 : H.size = s.heap.size + 3 := by omega
  have hP : va_P (dC, dI) vwCl [(h0, .inr (4, [.ref r1, .ref r2, .ref r3, .ref r4, .ref (s.heap.size + 0), .ref (s.heap.size + 1), .null, .null, .null])), (s.heap.size + 0, .inl (aC 0, 8, .inl (fun _ => 0))), (s.heap.size + 1, .inl (aC 0, 301, .inl (fun _ => 0))), (s.heap.size + 2, .inl (aC 0, 301, .inl (fun _ => 0)))] H := hP
  have hD : va_D A [(h0, .inr (4, [.ref r1, .ref r2, .ref r3, .ref r4, .ref (s.heap.size + 0), .ref (s.heap.size + 1), .null, .null, .null])), (s.heap.size + 0, .inl (aC 0, 8, .inl (fun _ => 0))), (s.heap.size + 1, .inl (aC 0, 301, .inl (fun _ => 0))), (s.heap.size + 2, .inl (aC 0, 301, .inl (fun _ => 0)))] := hD
  refine zputF (D := (dC, dI)) (ci := 4) (v := .ref (s.heap.size + 2)) (ty := (.array .int)) (C := RX5) (T := TX5) (N := 9) hx hb hall zx_5 tyX5 tyX5_ok nmX5 hown hK.1 hP hD hS 0 rfl rfl 6 (by decide) (hall _ zw_65) (fun _ h9 => h9) rfl hin rfl (by decide +kernel) rfl rfl (Nat.le_of_ble_eq_true rfl) dX5_init_48 (fun H locs hB hP hD hS => ?_)
  have hz0 : H.size = s.heap.size + 3 := hB.1.trans hz0
  have hP : va_P (dC, dI) vwCl [(h0, .inr (4, [.ref r1, .ref r2, .ref r3, .ref r4, .ref (s.heap.size + 0), .ref (s.heap.size + 1), .ref (s.heap.size + 2), .null, .null])), (s.heap.size + 0, .inl (aC 0, 8, .inl (fun _ => 0))), (s.heap.size + 1, .inl (aC 0, 301, .inl (fun _ => 0))), (s.heap.size + 2, .inl (aC 0, 301, .inl (fun _ => 0)))] H := hP
  have hD : va_D A [(h0, .inr (4, [.ref r1, .ref r2, .ref r3, .ref r4, .ref (s.heap.size + 0), .ref (s.heap.size + 1), .ref (s.heap.size + 2), .null, .null])), (s.heap.size + 0, .inl (aC 0, 8, .inl (fun _ => 0))), (s.heap.size + 1, .inl (aC 0, 301, .inl (fun _ => 0))), (s.heap.size + 2, .inl (aC 0, 301, .inl (fun _ => 0)))] := hD
  refine lv_aload_n hx hb dX5_init_51 rfl (lv_at hl 0 rfl) ?_
  refine lv_bipush (v := 42) hx hb dX5_init_52 (by decide) ?_
  refine znewa (atype := .int) (ty := .int) (cA := aC 0) (a0 := (42, .inl (fun _ => 0))) hx hb (hall _ zw_4) rfl hK.1 hP hD hS hA 0 rfl (fun h => h) rfl (by decide) (by decide) (Nat.le_of_ble_eq_true rfl) (Nat.le_of_ble_eq_true rfl) (Nat.le_of_ble_eq_true rfl) dX5_init_54 (fun q20 H eq20 hz hB hP hD hS => ?_)
  obtain rfl : q20 = s.heap.size + 3 := eq20.trans hz0
  have hz0 : H.size = s.heap.size + 4 := by omega
  have hP : va_P (dC, dI) vwCl [(h0, .inr (4, [.ref r1, .ref r2, .ref r3, .ref r4, .ref (s.heap.size + 0), .ref (s.heap.size + 1), .ref (s.heap.size + 2), .null, .null])), (s.heap.size + 0, .inl (aC 0, 8, .inl (fun _ => 0))), (s.heap.size + 1, .inl (aC 0, 301, .inl (fun _ => 0))), (s.heap.size + 2, .inl (aC 0, 301, .inl (fun _ => 0))), (s.heap.size + 3, .inl (aC 0, 42, .inl (fun _ => 0)))] H := hP
  have hD : va_D A [(h0, .inr (4, [.ref r1, .ref r2, .ref r3, .ref r4, .ref (s.heap.size + 0), .ref (s.heap.size + 1), .ref (s.heap.size + 2), .null, .null])), (s.heap.size + 0, .inl (aC 0, 8, .inl (fun _ => 0))), (s.heap.size + 1, .inl (aC 0, 301, .inl (fun _ => 0))), (s.heap.size + 2, .inl (aC 0, 301, .inl (fun _ => 0))), (s.heap.size + 3, .inl (aC 0, 42, .inl (fun _ => 0)))] := hD
  refine zputF (D := (dC, dI)) (ci := 4) (v := .ref (s.heap.size + 3)) (ty := (.array .int)) (C := RX5) (T := TX5) (N := 9) hx hb hall zx_5 tyX5 tyX5_ok nmX5 hown hK.1 hP hD hS 0 rfl rfl 7 (by decide) (hall _ zw_66) (fun _ h9 => h9) rfl hin rfl (by decide +kernel) rfl rfl (Nat.le_of_ble_eq_true rfl) dX5_init_56 (fun H locs hB hP hD hS => ?_)
  have hz0 : H.size = s.heap.size + 4 := hB.1.trans hz0
  have hP : va_P (dC, dI) vwCl [(h0, .inr (4, [.ref r1, .ref r2, .ref r3, .ref r4, .ref (s.heap.size + 0), .ref (s.heap.size + 1), .ref (s.heap.size + 2), .ref (s.heap.size + 3), .null])), (s.heap.size + 0, .inl (aC 0, 8, .inl (fun _ => 0))), (s.heap.size + 1, .inl (aC 0, 301, .inl (fun _ => 0))), (s.heap.size + 2, .inl (aC 0, 301, .inl (fun _ => 0))), (s.heap.size + 3, .inl (aC 0, 42, .inl (fun _ => 0)))] H := hP
  have hD : va_D A [(h0, .inr (4, [.ref r1, .ref r2, .ref r3, .ref r4, .ref (s.heap.size + 0), .ref (s.heap.size + 1), .ref (s.heap.size + 2), .ref (s.heap.size + 3), .null])), (s.heap.size + 0, .inl (aC 0, 8, .inl (fun _ => 0))), (s.heap.size + 1, .inl (aC 0, 301, .inl (fun _ => 0))), (s.heap.size + 2, .inl (aC 0, 301, .inl (fun _ => 0))), (s.heap.size + 3, .inl (aC 0, 42, .inl (fun _ => 0)))] := hD
  refine lv_aload_n hx hb dX5_init_59 rfl (lv_at hl 0 rfl) ?_
  refine lv_bipush (v := 42) hx hb dX5_init_60 (by decide) ?_
  refine znewa (atype := .int) (ty := .int) (cA := aC 0) (a0 := (42, .inl (fun _ => 0))) hx hb (hall _ zw_4) rfl hK.1 hP hD hS hA 0 rfl (fun h => h) rfl (by decide) (by decide) (Nat.le_of_ble_eq_true rfl) (Nat.le_of_ble_eq_true rfl) (Nat.le_of_ble_eq_true rfl) dX5_init_62 (fun q21 H eq21 hz hB hP hD hS => ?_)
  obtain rfl : q21 = s.heap.size + 4 := eq21.trans hz0
  have hz0 : H.size = s.heap.size + 5 := by omega
  have hP : va_P (dC, dI) vwCl [(h0, .inr (4, [.ref r1, .ref r2, .ref r3, .ref r4, .ref (s.heap.size + 0), .ref (s.heap.size + 1), .ref (s.heap.size + 2), .ref (s.heap.size + 3), .null])), (s.heap.size + 0, .inl (aC 0, 8, .inl (fun _ => 0))), (s.heap.size + 1, .inl (aC 0, 301, .inl (fun _ => 0))), (s.heap.size + 2, .inl (aC 0, 301, .inl (fun _ => 0))), (s.heap.size + 3, .inl (aC 0, 42, .inl (fun _ => 0))), (s.heap.size + 4, .inl (aC 0, 42, .inl (fun _ => 0)))] H := hP
  have hD : va_D A [(h0, .inr (4, [.ref r1, .ref r2, .ref r3, .ref r4, .ref (s.heap.size + 0), .ref (s.heap.size + 1), .ref (s.heap.size + 2), .ref (s.heap.size + 3), .null])), (s.heap.size + 0, .inl (aC 0, 8, .inl (fun _ => 0))), (s.heap.size + 1, .inl (aC 0, 301, .inl (fun _ => 0))), (s.heap.size + 2, .inl (aC 0, 301, .inl (fun _ => 0))), (s.heap.size + 3, .inl (aC 0, 42, .inl (fun _ => 0))), (s.heap.size + 4, .inl (aC 0, 42, .inl (fun _ => 0)))] := hD
  refine zputF (D := (dC, dI)) (ci := 4) (v := .ref (s.heap.size + 4)) (ty := (.array .int)) (C := RX5) (T := TX5) (N := 9) hx hb hall zx_5 tyX5 tyX5_ok nmX5 hown hK.1 hP hD hS 0 rfl rfl 8 (by decide) (hall _ zw_67) (fun _ h9 => h9) rfl hin rfl (by decide +kernel) rfl rfl (Nat.le_of_ble_eq_true rfl) dX5_init_64 (fun H locs hB hP hD hS => ?_)
  have hz0 : H.size = s.heap.size + 5 := hB.1.trans hz0
  have hP : va_P (dC, dI) vwCl [(h0, .inr (4, [.ref r1, .ref r2, .ref r3, .ref r4, .ref (s.heap.size + 0), .ref (s.heap.size + 1), .ref (s.heap.size + 2), .ref (s.heap.size + 3), .ref (s.heap.size + 4)])), (s.heap.size + 0, .inl (aC 0, 8, .inl (fun _ => 0))), (s.heap.size + 1, .inl (aC 0, 301, .inl (fun _ => 0))), (s.heap.size + 2, .inl (aC 0, 301, .inl (fun _ => 0))), (s.heap.size + 3, .inl (aC 0, 42, .inl (fun _ => 0))), (s.heap.size + 4, .inl (aC 0, 42, .inl (fun _ => 0)))] H := hP
  have hD : va_D A [(h0, .inr (4, [.ref r1, .ref r2, .ref r3, .ref r4, .ref (s.heap.size + 0), .ref (s.heap.size + 1), .ref (s.heap.size + 2), .ref (s.heap.size + 3), .ref (s.heap.size + 4)])), (s.heap.size + 0, .inl (aC 0, 8, .inl (fun _ => 0))), (s.heap.size + 1, .inl (aC 0, 301, .inl (fun _ => 0))), (s.heap.size + 2, .inl (aC 0, 301, .inl (fun _ => 0))), (s.heap.size + 3, .inl (aC 0, 42, .inl (fun _ => 0))), (s.heap.size + 4, .inl (aC 0, 42, .inl (fun _ => 0)))] := hD
  refine W.widen (k := 5) (n := 694) (Nat.le_of_ble_eq_true rfl) (Nat.le_of_ble_eq_true rfl) ?_
  rw [← hQ, hAe]
  exact W.vret hx hb hr (fun t ht hW => ⟨⟨(), rfl, trivial, by rw [ht]; exact hP, hD, by rw [ht]; exact hz0⟩, hS.F ht⟩) hS.2.2 dX5_init_67

set_option maxHeartbeats 4000000 in
set_option maxRecDepth 100000 in
theorem c_X10_init (l : Launch) (dC : Nat → ClassId) (dI : Nat → Nat → Nat) (aC : Nat → ClassId) (h0 : Nat) (r1 : Nat) (sz : Nat) : Met l yX10_init w_X10_init ({ frames := 1, cells := 6, slots := 10806, locals := 24 }) (zPre (dC, dI) aC [(h0, .inr (9, [.null, .null, .int 0, .null, .int 0, .null, .int 0, .null, .int 0, .null, .int 0, .int 0, .int 0, .null, .int 0, .int 0, .int 0, .int 0, .int 0]))] sz [.ref h0, .ref r1]) (va_Qv (fun (u : Unit) => True) (fun u t => zB (dC, dI) [(h0, .inr (9, [.ref r1, .ref (sz + 0), .int 0, .ref (sz + 1), .int 0, .ref (sz + 2), .int 0, .ref (sz + 3), .int 0, .ref (sz + 4), .int 0, .int 0, .int 0, .ref (sz + 5), .int 0, .int 0, .int 0, .int 0, .int (-1)])), (sz + 0, .inl (aC 0, 400, .inl (fun _ => 0))), (sz + 1, .inl (aC 0, 4000, .inl (fun _ => 0))), (sz + 2, .inl (aC 0, 4000, .inl (fun _ => 0))), (sz + 3, .inl (aC 0, 1203, .inl (fun _ => 0))), (sz + 4, .inl (aC 0, 802, .inl (fun _ => 0))), (sz + 5, .inl (aC 0, 401, .inl (fun _ => 0)))] (va_A [(h0, .inr (9, [.null, .null, .int 0, .null, .int 0, .null, .int 0, .null, .int 0, .null, .int 0, .int 0, .int 0, .null, .int 0, .int 0, .int 0, .int 0, .int 0]))] sz) (sz + 6) t) (va_A [(h0, .inr (9, [.null, .null, .int 0, .null, .int 0, .null, .int 0, .null, .int 0, .null, .int 0, .int 0, .int 0, .null, .int 0, .int 0, .int 0, .int 0, .int 0]))] sz)) 6 10806 (va_A [(h0, .inr (9, [.null, .null, .int 0, .null, .int 0, .null, .int 0, .null, .int 0, .null, .int 0, .int 0, .int 0, .null, .int 0, .int 0, .int 0, .int 0, .int 0]))] sz) := by
  refine Met.ofW (cc := cX10_init) (maxL := 2) (ret := none) (by decide) rfl ?_
  intro p e s m args below meth c s₁ B hml hv
  generalize hQ : MQ below _ _ s _ _ _ = QQ
  obtain ⟨rfl, hsz, hP, hK, hD0⟩ := hv
  have hx := B.exec
  have hb := B.bytes
  have hr := B.returns
  have hts := atoms_spec (ws := w_X10_init) B.pre
  have hall := fun (w : Cond) (h : w ∈ zAll) => hts w (List.mem_cons_of_mem _ h)
  have hown : s.vm.findClass RX10 = some m.cls := findClass_of_methodNamed B.named
  have hlocks := B.notSynchronized
  have hin : meth.name = "<init>" := (name_of_methodNamed B.named B.method).1
  subst hsz
  have hD := hD0.self (sz := s.heap.size)
  generalize hAe : va_A [(h0, .inr (9, [.null, .null, .int 0, .null, .int 0, .null, .int 0, .null, .int 0, .null, .int 0, .int 0, .int 0, .null, .int 0, .int 0, .int 0, .int 0, .int 0]))] s.heap.size = A at hD ⊢
  have hA : ∀ q : Nat, s.heap.size ≤ q → A q := fun q h => by rw [← hAe]; exact Or.inr h
  have hS : va_S A s.heap s.heap [] := va_S.rf
  have hz0 : s.heap.size = s.heap.size + 0 := rfl
  have hl := lv_entry ([.ref h0, .ref r1]) (n := 2) (Nat.le_of_ble_eq_true rfl)
  rw [lg_entry_eq]
  generalize (lg_sl ([.ref h0, .ref r1]) ++ List.replicate (2 - (lg_sl ([.ref h0, .ref r1])).length) Slot.unset).toArray = ls at hl ⊢
  have hl : lv_has ls 2 [(0, .ref h0), (1, .ref r1)] := hl
  refine lv_aload_n hx hb dX10_init_0 rfl (lv_at hl 0 rfl) ?_
  refine W.objInit hx hb hown (hall _ zw_141) (hall _ zw_2) (hall _ zw_3) rfl (hl.1.trans hml.symm) rfl dX10_init_1 (Nat.le_of_ble_eq_true rfl) (Nat.le_of_ble_eq_true rfl) ?_
  refine lv_aload_n hx hb dX10_init_4 rfl (lv_at hl 0 rfl) ?_
  refine lv_aload_n hx hb dX10_init_5 rfl (lv_at hl 1 rfl) ?_
  refine zputF (D := (dC, dI)) (ci := 9) (v := .ref r1) (ty := (.object "SumHouse$Terms")) (C := RX10) (T := TX10) (N := 19) hx hb hall zx_10 tyX10 tyX10_ok nmX10 hown hK.1 hP hD hS 0 rfl rfl 0 (by decide) (hall _ zw_142) (fun _ h9 => h9) rfl hin rfl (by decide +kernel) rfl rfl (Nat.le_of_ble_eq_true rfl) dX10_init_6 (fun H locs hB hP hD hS => ?_)
  have hz0 : H.size = s.heap.size + 0 := hB.1.trans hz0
  have hP : va_P (dC, dI) vwCl [(h0, .inr (9, [.ref r1, .null, .int 0, .null, .int 0, .null, .int 0, .null, .int 0, .null, .int 0, .int 0, .int 0, .null, .int 0, .int 0, .int 0, .int 0, .int 0]))] H := hP
  have hD : va_D A [(h0, .inr (9, [.ref r1, .null, .int 0, .null, .int 0, .null, .int 0, .null, .int 0, .null, .int 0, .int 0, .int 0, .null, .int 0, .int 0, .int 0, .int 0, .int 0]))] := hD
  refine lv_aload_n hx hb dX10_init_9 rfl (lv_at hl 0 rfl) ?_
  refine lv_sipush (v := 400) hx hb dX10_init_10 (by decide) ?_
  refine znewa (atype := .int) (ty := .int) (cA := aC 0) (a0 := (400, .inl (fun _ => 0))) hx hb (hall _ zw_4) rfl hK.1 hP hD hS hA 0 rfl (fun h => h) rfl (by decide) (by decide) (Nat.le_of_ble_eq_true rfl) (Nat.le_of_ble_eq_true rfl) (Nat.le_of_ble_eq_true rfl) dX10_init_13 (fun q22 H eq22 hz hB hP hD hS => ?_)
  obtain rfl : q22 = s.heap.size + 0 := eq22.trans hz0
  have hz0 : H.size = s.heap.size + 1 := by omega
  have hP : va_P (dC, dI) vwCl [(h0, .inr (9, [.ref r1, .null, .int 0, .null, .int 0, .null, .int 0, .null, .int 0, .null, .int 0, .int 0, .int 0, .null, .int 0, .int 0, .int 0, .int 0, .int 0])), (s.heap.size + 0, .inl (aC 0, 400, .inl (fun _ => 0)))] H := hP
  have hD : va_D A [(h0, .inr (9, [.ref r1, .null, .int 0, .null, .int 0, .null, .int 0, .null, .int 0, .null, .int 0, .int 0, .int 0, .null, .int 0, .int 0, .int 0, .int 0, .int 0])), (s.heap.size + 0, .inl (aC 0, 400, .inl (fun _ => 0)))] := hD
  refine zputF (D := (dC, dI)) (ci := 9) (v := .ref (s.heap.size + 0)) (ty := (.array .int)) (C := RX10) (T := TX10) (N := 19) hx hb hall zx_10 tyX10 tyX10_ok nmX10 hown hK.1 hP hD hS 0 rfl rfl 1 (by decide) (hall _ zw_143) (fun _ h9 => h9) rfl hin rfl (by decide +kernel) rfl rfl (Nat.le_of_ble_eq_true rfl) dX10_init_15 (fun H locs hB hP hD hS => ?_)
  have hz0 : H.size = s.heap.size + 1 := hB.1.trans hz0
  have hP : va_P (dC, dI) vwCl [(h0, .inr (9, [.ref r1, .ref (s.heap.size + 0), .int 0, .null, .int 0, .null, .int 0, .null, .int 0, .null, .int 0, .int 0, .int 0, .null, .int 0, .int 0, .int 0, .int 0, .int 0])), (s.heap.size + 0, .inl (aC 0, 400, .inl (fun _ => 0)))] H := hP
  have hD : va_D A [(h0, .inr (9, [.ref r1, .ref (s.heap.size + 0), .int 0, .null, .int 0, .null, .int 0, .null, .int 0, .null, .int 0, .int 0, .int 0, .null, .int 0, .int 0, .int 0, .int 0, .int 0])), (s.heap.size + 0, .inl (aC 0, 400, .inl (fun _ => 0)))] := hD
  refine lv_aload_n hx hb dX10_init_18 rfl (lv_at hl 0 rfl) ?_
  refine lv_sipush (v := 4000) hx hb dX10_init_19 (by decide) ?_
  refine znewa (atype := .int) (ty := .int) (cA := aC 0) (a0 := (4000, .inl (fun _ => 0))) hx hb (hall _ zw_4) rfl hK.1 hP hD hS hA 0 rfl (fun h => h) rfl (by decide) (by decide) (Nat.le_of_ble_eq_true rfl) (Nat.le_of_ble_eq_true rfl) (Nat.le_of_ble_eq_true rfl) dX10_init_22 (fun q23 H eq23 hz hB hP hD hS => ?_)
  obtain rfl : q23 = s.heap.size + 1 := eq23.trans hz0
  have hz0 : H.size = s.heap.size + 2 := by omega
  have hP : va_P (dC, dI) vwCl [(h0, .inr (9, [.ref r1, .ref (s.heap.size + 0), .int 0, .null, .int 0, .null, .int 0, .null, .int 0, .null, .int 0, .int 0, .int 0, .null, .int 0, .int 0, .int 0, .int 0, .int 0])), (s.heap.size + 0, .inl (aC 0, 400, .inl (fun _ => 0))), (s.heap.size + 1, .inl (aC 0, 4000, .inl (fun _ => 0)))] H := hP
  have hD : va_D A [(h0, .inr (9, [.ref r1, .ref (s.heap.size + 0), .int 0, .null, .int 0, .null, .int 0, .null, .int 0, .null, .int 0, .int 0, .int 0, .null, .int 0, .int 0, .int 0, .int 0, .int 0])), (s.heap.size + 0, .inl (aC 0, 400, .inl (fun _ => 0))), (s.heap.size + 1, .inl (aC 0, 4000, .inl (fun _ => 0)))] := hD
  refine zputF (D := (dC, dI)) (ci := 9) (v := .ref (s.heap.size + 1)) (ty := (.array .int)) (C := RX10) (T := TX10) (N := 19) hx hb hall zx_10 tyX10 tyX10_ok nmX10 hown hK.1 hP hD hS 0 rfl rfl 3 (by decide) (hall _ zw_144) (fun _ h9 => h9) rfl hin rfl (by decide +kernel) rfl rfl (Nat.le_of_ble_eq_true rfl) dX10_init_24 (fun H locs hB hP hD hS => ?_)
  have hz0 : H.size = s.heap.size + 2 := hB.1.trans hz0
  have hP : va_P (dC, dI) vwCl [(h0, .inr (9, [.ref r1, .ref (s.heap.size + 0), .int 0, .ref (s.heap.size + 1), .int 0, .null, .int 0, .null, .int 0, .null, .int 0, .int 0, .int 0, .null, .int 0, .int 0, .int 0, .int 0, .int 0])), (s.heap.size + 0, .inl (aC 0, 400, .inl (fun _ => 0))), (s.heap.size + 1, .inl (aC 0, 4000, .inl (fun _ => 0)))] H := hP
  have hD : va_D A [(h0, .inr (9, [.ref r1, .ref (s.heap.size + 0), .int 0, .ref (s.heap.size + 1), .int 0, .null, .int 0, .null, .int 0, .null, .int 0, .int 0, .int 0, .null, .int 0, .int 0, .int 0, .int 0, .int 0])), (s.heap.size + 0, .inl (aC 0, 400, .inl (fun _ => 0))), (s.heap.size + 1, .inl (aC 0, 4000, .inl (fun _ => 0)))] := hD
  refine lv_aload_n hx hb dX10_init_27 rfl (lv_at hl 0 rfl) ?_
  refine lv_sipush (v := 4000) hx hb dX10_init_28 (by decide) ?_
  refine znewa (atype := .int) (ty := .int) (cA := aC 0) (a0 := (4000, .inl (fun _ => 0))) hx hb (hall _ zw_4) rfl hK.1 hP hD hS hA 0 rfl (fun h => h) rfl (by decide) (by decide) (Nat.le_of_ble_eq_true rfl) (Nat.le_of_ble_eq_true rfl) (Nat.le_of_ble_eq_true rfl) dX10_init_31 (fun q24 H eq24 hz hB hP hD hS => ?_)
  obtain rfl : q24 = s.heap.size + 2 := eq24.trans hz0
  have hz0 : H.size = s.heap.size + 3 := by omega
  have hP : va_P (dC, dI) vwCl [(h0, .inr (9, [.ref r1, .ref (s.heap.size + 0), .int 0, .ref (s.heap.size + 1), .int 0, .null, .int 0, .null, .int 0, .null, .int 0, .int 0, .int 0, .null, .int 0, .int 0, .int 0, .int 0, .int 0])), (s.heap.size + 0, .inl (aC 0, 400, .inl (fun _ => 0))), (s.heap.size + 1, .inl (aC 0, 4000, .inl (fun _ => 0))), (s.heap.size + 2, .inl (aC 0, 4000, .inl (fun _ => 0)))] H := hP
  have hD : va_D A [(h0, .inr (9, [.ref r1, .ref (s.heap.size + 0), .int 0, .ref (s.heap.size + 1), .int 0, .null, .int 0, .null, .int 0, .null, .int 0, .int 0, .int 0, .null, .int 0, .int 0, .int 0, .int 0, .int 0])), (s.heap.size + 0, .inl (aC 0, 400, .inl (fun _ => 0))), (s.heap.size + 1, .inl (aC 0, 4000, .inl (fun _ => 0))), (s.heap.size + 2, .inl (aC 0, 4000, .inl (fun _ => 0)))] := hD
  refine zputF (D := (dC, dI)) (ci := 9) (v := .ref (s.heap.size + 2)) (ty := (.array .int)) (C := RX10) (T := TX10) (N := 19) hx hb hall zx_10 tyX10 tyX10_ok nmX10 hown hK.1 hP hD hS 0 rfl rfl 5 (by decide) (hall _ zw_145) (fun _ h9 => h9) rfl hin rfl (by decide +kernel) rfl rfl (Nat.le_of_ble_eq_true rfl) dX10_init_33 (fun H locs hB hP hD hS => ?_)
  have hz0 : H.size = s.heap.size + 3 := hB.1.trans hz0
  have hP : va_P (dC, dI) vwCl [(h0, .inr (9, [.ref r1, .ref (s.heap.size + 0), .int 0, .ref (s.heap.size + 1), .int 0, .ref (s.heap.size + 2), .int 0, .null, .int 0, .null, .int 0, .int 0, .int 0, .null, .int 0, .int 0, .int 0, .int 0, .int 0])), (s.heap.size + 0, .inl (aC 0, 400, .inl (fun _ => 0))), (s.heap.size + 1, .inl (aC 0, 4000, .inl (fun _ => 0))), (s.heap.size + 2, .inl (aC 0, 4000, .inl (fun _ => 0)))] H := hP
  have hD : va_D A [(h0, .inr (9, [.ref r1, .ref (s.heap.size + 0), .int 0, .ref (s.heap.size + 1), .int 0, .ref (s.heap.size + 2), .int 0, .null, .int 0, .null, .int 0, .int 0, .int 0, .null, .int 0, .int 0, .int 0, .int 0, .int 0])), (s.heap.size + 0, .inl (aC 0, 400, .inl (fun _ => 0))), (s.heap.size + 1, .inl (aC 0, 4000, .inl (fun _ => 0))), (s.heap.size + 2, .inl (aC 0, 4000, .inl (fun _ => 0)))] := hD
  refine lv_aload_n hx hb dX10_init_36 rfl (lv_at hl 0 rfl) ?_
  refine lv_sipush (v := 1203) hx hb dX10_init_37 (by decide) ?_
  refine znewa (atype := .int) (ty := .int) (cA := aC 0) (a0 := (1203, .inl (fun _ => 0))) hx hb (hall _ zw_4) rfl hK.1 hP hD hS hA 0 rfl (fun h => h) rfl (by decide) (by decide) (Nat.le_of_ble_eq_true rfl) (Nat.le_of_ble_eq_true rfl) (Nat.le_of_ble_eq_true rfl) dX10_init_40 (fun q25 H eq25 hz hB hP hD hS => ?_)
  obtain rfl : q25 = s.heap.size + 3 := eq25.trans hz0
  have hz0 : H.size = s.heap.size + 4 := by omega
  have hP : va_P (dC, dI) vwCl [(h0, .inr (9, [.ref r1, .ref (s.heap.size + 0), .int 0, .ref (s.heap.size + 1), .int 0, .ref (s.heap.size + 2), .int 0, .null, .int 0, .null, .int 0, .int 0, .int 0, .null, .int 0, .int 0, .int 0, .int 0, .int 0])), (s.heap.size + 0, .inl (aC 0, 400, .inl (fun _ => 0))), (s.heap.size + 1, .inl (aC 0, 4000, .inl (fun _ => 0))), (s.heap.size + 2, .inl (aC 0, 4000, .inl (fun _ => 0))), (s.heap.size + 3, .inl (aC 0, 1203, .inl (fun _ => 0)))] H := hP
  have hD : va_D A [(h0, .inr (9, [.ref r1, .ref (s.heap.size + 0), .int 0, .ref (s.heap.size + 1), .int 0, .ref (s.heap.size + 2), .int 0, .null, .int 0, .null, .int 0, .int 0, .int 0, .null, .int 0, .int 0, .int 0, .int 0, .int 0])), (s.heap.size + 0, .inl (aC 0, 400, .inl (fun _ => 0))), (s.heap.size + 1, .inl (aC 0, 4000, .inl (fun _ => 0))), (s.heap.size + 2, .inl (aC 0, 4000, .inl (fun _ => 0))), (s.heap.size + 3, .inl (aC 0, 1203, .inl (fun _ => 0)))] := hD
  refine zputF (D := (dC, dI)) (ci := 9) (v := .ref (s.heap.size + 3)) (ty := (.array .int)) (C := RX10) (T := TX10) (N := 19) hx hb hall zx_10 tyX10 tyX10_ok nmX10 hown hK.1 hP hD hS 0 rfl rfl 7 (by decide) (hall _ zw_146) (fun _ h9 => h9) rfl hin rfl (by decide +kernel) rfl rfl (Nat.le_of_ble_eq_true rfl) dX10_init_42 (fun H locs hB hP hD hS => ?_)
  have hz0 : H.size = s.heap.size + 4 := hB.1.trans hz0
  have hP : va_P (dC, dI) vwCl [(h0, .inr (9, [.ref r1, .ref (s.heap.size + 0), .int 0, .ref (s.heap.size + 1), .int 0, .ref (s.heap.size + 2), .int 0, .ref (s.heap.size + 3), .int 0, .null, .int 0, .int 0, .int 0, .null, .int 0, .int 0, .int 0, .int 0, .int 0])), (s.heap.size + 0, .inl (aC 0, 400, .inl (fun _ => 0))), (s.heap.size + 1, .inl (aC 0, 4000, .inl (fun _ => 0))), (s.heap.size + 2, .inl (aC 0, 4000, .inl (fun _ => 0))), (s.heap.size + 3, .inl (aC 0, 1203, .inl (fun _ => 0)))] H := hP
  have hD : va_D A [(h0, .inr (9, [.ref r1, .ref (s.heap.size + 0), .int 0, .ref (s.heap.size + 1), .int 0, .ref (s.heap.size + 2), .int 0, .ref (s.heap.size + 3), .int 0, .null, .int 0, .int 0, .int 0, .null, .int 0, .int 0, .int 0, .int 0, .int 0])), (s.heap.size + 0, .inl (aC 0, 400, .inl (fun _ => 0))), (s.heap.size + 1, .inl (aC 0, 4000, .inl (fun _ => 0))), (s.heap.size + 2, .inl (aC 0, 4000, .inl (fun _ => 0))), (s.heap.size + 3, .inl (aC 0, 1203, .inl (fun _ => 0)))] := hD
  refine lv_aload_n hx hb dX10_init_45 rfl (lv_at hl 0 rfl) ?_
  refine lv_sipush (v := 802) hx hb dX10_init_46 (by decide) ?_
  refine znewa (atype := .int) (ty := .int) (cA := aC 0) (a0 := (802, .inl (fun _ => 0))) hx hb (hall _ zw_4) rfl hK.1 hP hD hS hA 0 rfl (fun h => h) rfl (by decide) (by decide) (Nat.le_of_ble_eq_true rfl) (Nat.le_of_ble_eq_true rfl) (Nat.le_of_ble_eq_true rfl) dX10_init_49 (fun q26 H eq26 hz hB hP hD hS => ?_)
  obtain rfl : q26 = s.heap.size + 4 := eq26.trans hz0
  have hz0 : H.size = s.heap.size + 5 := by omega
  have hP : va_P (dC, dI) vwCl [(h0, .inr (9, [.ref r1, .ref (s.heap.size + 0), .int 0, .ref (s.heap.size + 1), .int 0, .ref (s.heap.size + 2), .int 0, .ref (s.heap.size + 3), .int 0, .null, .int 0, .int 0, .int 0, .null, .int 0, .int 0, .int 0, .int 0, .int 0])), (s.heap.size + 0, .inl (aC 0, 400, .inl (fun _ => 0))), (s.heap.size + 1, .inl (aC 0, 4000, .inl (fun _ => 0))), (s.heap.size + 2, .inl (aC 0, 4000, .inl (fun _ => 0))), (s.heap.size + 3, .inl (aC 0, 1203, .inl (fun _ => 0))), (s.heap.size + 4, .inl (aC 0, 802, .inl (fun _ => 0)))] H := hP
  have hD : va_D A [(h0, .inr (9, [.ref r1, .ref (s.heap.size + 0), .int 0, .ref (s.heap.size + 1), .int 0, .ref (s.heap.size + 2), .int 0, .ref (s.heap.size + 3), .int 0, .null, .int 0, .int 0, .int 0, .null, .int 0, .int 0, .int 0, .int 0, .int 0])), (s.heap.size + 0, .inl (aC 0, 400, .inl (fun _ => 0))), (s.heap.size + 1, .inl (aC 0, 4000, .inl (fun _ => 0))), (s.heap.size + 2, .inl (aC 0, 4000, .inl (fun _ => 0))), (s.heap.size + 3, .inl (aC 0, 1203, .inl (fun _ => 0))), (s.heap.size + 4, .inl (aC 0, 802, .inl (fun _ => 0)))] := hD
  refine zputF (D := (dC, dI)) (ci := 9) (v := .ref (s.heap.size + 4)) (ty := (.array .int)) (C := RX10) (T := TX10) (N := 19) hx hb hall zx_10 tyX10 tyX10_ok nmX10 hown hK.1 hP hD hS 0 rfl rfl 9 (by decide) (hall _ zw_147) (fun _ h9 => h9) rfl hin rfl (by decide +kernel) rfl rfl (Nat.le_of_ble_eq_true rfl) dX10_init_51 (fun H locs hB hP hD hS => ?_)
  have hz0 : H.size = s.heap.size + 5 := hB.1.trans hz0
  have hP : va_P (dC, dI) vwCl [(h0, .inr (9, [.ref r1, .ref (s.heap.size + 0), .int 0, .ref (s.heap.size + 1), .int 0, .ref (s.heap.size + 2), .int 0, .ref (s.heap.size + 3), .int 0, .ref (s.heap.size + 4), .int 0, .int 0, .int 0, .null, .int 0, .int 0, .int 0, .int 0, .int 0])), (s.heap.size + 0, .inl (aC 0, 400, .inl (fun _ => 0))), (s.heap.size + 1, .inl (aC 0, 4000, .inl (fun _ => 0))), (s.heap.size + 2, .inl (aC 0, 4000, .inl (fun _ => 0))), (s.heap.size + 3, .inl (aC 0, 1203, .inl (fun _ => 0))), (s.heap.size + 4, .inl (aC 0, 802, .inl (fun _ => 0)))] H := hP
  have hD : va_D A [(h0, .inr (9, [.ref r1, .ref (s.heap.size + 0), .int 0, .ref (s.heap.size + 1), .int 0, .ref (s.heap.size + 2), .int 0, .ref (s.heap.size + 3), .int 0, .ref (s.heap.size + 4), .int 0, .int 0, .int 0, .null, .int 0, .int 0, .int 0, .int 0, .int 0])), (s.heap.size + 0, .inl (aC 0, 400, .inl (fun _ => 0))), (s.heap.size + 1, .inl (aC 0, 4000, .inl (fun _ => 0))), (s.heap.size + 2, .inl (aC 0, 4000, .inl (fun _ => 0))), (s.heap.size + 3, .inl (aC 0, 1203, .inl (fun _ => 0))), (s.heap.size + 4, .inl (aC 0, 802, .inl (fun _ => 0)))] := hD
  refine lv_aload_n hx hb dX10_init_54 rfl (lv_at hl 0 rfl) ?_
  refine lv_sipush (v := 401) hx hb dX10_init_55 (by decide) ?_
  refine znewa (atype := .int) (ty := .int) (cA := aC 0) (a0 := (401, .inl (fun _ => 0))) hx hb (hall _ zw_4) rfl hK.1 hP hD hS hA 0 rfl (fun h => h) rfl (by decide) (by decide) (Nat.le_of_ble_eq_true rfl) (Nat.le_of_ble_eq_true rfl) (Nat.le_of_ble_eq_true rfl) dX10_init_58 (fun q27 H eq27 hz hB hP hD hS => ?_)
  obtain rfl : q27 = s.heap.size + 5 := eq27.trans hz0
  have hz0 : H.size = s.heap.size + 6 := by omega
  have hP : va_P (dC, dI) vwCl [(h0, .inr (9, [.ref r1, .ref (s.heap.size + 0), .int 0, .ref (s.heap.size + 1), .int 0, .ref (s.heap.size + 2), .int 0, .ref (s.heap.size + 3), .int 0, .ref (s.heap.size + 4), .int 0, .int 0, .int 0, .null, .int 0, .int 0, .int 0, .int 0, .int 0])), (s.heap.size + 0, .inl (aC 0, 400, .inl (fun _ => 0))), (s.heap.size + 1, .inl (aC 0, 4000, .inl (fun _ => 0))), (s.heap.size + 2, .inl (aC 0, 4000, .inl (fun _ => 0))), (s.heap.size + 3, .inl (aC 0, 1203, .inl (fun _ => 0))), (s.heap.size + 4, .inl (aC 0, 802, .inl (fun _ => 0))), (s.heap.size + 5, .inl (aC 0, 401, .inl (fun _ => 0)))] H := hP
  have hD : va_D A [(h0, .inr (9, [.ref r1, .ref (s.heap.size + 0), .int 0, .ref (s.heap.size + 1), .int 0, .ref (s.heap.size + 2), .int 0, .ref (s.heap.size + 3), .int 0, .ref (s.heap.size + 4), .int 0, .int 0, .int 0, .null, .int 0, .int 0, .int 0, .int 0, .int 0])), (s.heap.size + 0, .inl (aC 0, 400, .inl (fun _ => 0))), (s.heap.size + 1, .inl (aC 0, 4000, .inl (fun _ => 0))), (s.heap.size + 2, .inl (aC 0, 4000, .inl (fun _ => 0))), (s.heap.size + 3, .inl (aC 0, 1203, .inl (fun _ => 0))), (s.heap.size + 4, .inl (aC 0, 802, .inl (fun _ => 0))), (s.heap.size + 5, .inl (aC 0, 401, .inl (fun _ => 0)))] := hD
  refine zputF (D := (dC, dI)) (ci := 9) (v := .ref (s.heap.size + 5)) (ty := (.array .int)) (C := RX10) (T := TX10) (N := 19) hx hb hall zx_10 tyX10 tyX10_ok nmX10 hown hK.1 hP hD hS 0 rfl rfl 13 (by decide) (hall _ zw_148) (fun _ h9 => h9) rfl hin rfl (by decide +kernel) rfl rfl (Nat.le_of_ble_eq_true rfl) dX10_init_60 (fun H locs hB hP hD hS => ?_)
  have hz0 : H.size = s.heap.size + 6 := hB.1.trans hz0
  have hP : va_P (dC, dI) vwCl [(h0, .inr (9, [.ref r1, .ref (s.heap.size + 0), .int 0, .ref (s.heap.size + 1), .int 0, .ref (s.heap.size + 2), .int 0, .ref (s.heap.size + 3), .int 0, .ref (s.heap.size + 4), .int 0, .int 0, .int 0, .ref (s.heap.size + 5), .int 0, .int 0, .int 0, .int 0, .int 0])), (s.heap.size + 0, .inl (aC 0, 400, .inl (fun _ => 0))), (s.heap.size + 1, .inl (aC 0, 4000, .inl (fun _ => 0))), (s.heap.size + 2, .inl (aC 0, 4000, .inl (fun _ => 0))), (s.heap.size + 3, .inl (aC 0, 1203, .inl (fun _ => 0))), (s.heap.size + 4, .inl (aC 0, 802, .inl (fun _ => 0))), (s.heap.size + 5, .inl (aC 0, 401, .inl (fun _ => 0)))] H := hP
  have hD : va_D A [(h0, .inr (9, [.ref r1, .ref (s.heap.size + 0), .int 0, .ref (s.heap.size + 1), .int 0, .ref (s.heap.size + 2), .int 0, .ref (s.heap.size + 3), .int 0, .ref (s.heap.size + 4), .int 0, .int 0, .int 0, .ref (s.heap.size + 5), .int 0, .int 0, .int 0, .int 0, .int 0])), (s.heap.size + 0, .inl (aC 0, 400, .inl (fun _ => 0))), (s.heap.size + 1, .inl (aC 0, 4000, .inl (fun _ => 0))), (s.heap.size + 2, .inl (aC 0, 4000, .inl (fun _ => 0))), (s.heap.size + 3, .inl (aC 0, 1203, .inl (fun _ => 0))), (s.heap.size + 4, .inl (aC 0, 802, .inl (fun _ => 0))), (s.heap.size + 5, .inl (aC 0, 401, .inl (fun _ => 0)))] := hD
  refine lv_aload_n hx hb dX10_init_63 rfl (lv_at hl 0 rfl) ?_
  refine lv_iconst (v := (-1)) hx hb dX10_init_64 (by decide) ?_
  refine zput (D := (dC, dI)) (ci := 9) (v := .int (-1)) (ty := .int) (C := RX10) (T := TX10) (N := 19) hx hb hall zx_10 tyX10 tyX10_ok nmX10 hown hK.1 hP hD hS 0 rfl rfl 18 (by decide) (hall _ zw_149) (fun _ h9 => h9) rfl (by decide +kernel) rfl rfl (Nat.le_of_ble_eq_true rfl) dX10_init_65 (fun H locs hB hP hD hS => ?_)
  have hz0 : H.size = s.heap.size + 6 := hB.1.trans hz0
  have hP : va_P (dC, dI) vwCl [(h0, .inr (9, [.ref r1, .ref (s.heap.size + 0), .int 0, .ref (s.heap.size + 1), .int 0, .ref (s.heap.size + 2), .int 0, .ref (s.heap.size + 3), .int 0, .ref (s.heap.size + 4), .int 0, .int 0, .int 0, .ref (s.heap.size + 5), .int 0, .int 0, .int 0, .int 0, .int (-1)])), (s.heap.size + 0, .inl (aC 0, 400, .inl (fun _ => 0))), (s.heap.size + 1, .inl (aC 0, 4000, .inl (fun _ => 0))), (s.heap.size + 2, .inl (aC 0, 4000, .inl (fun _ => 0))), (s.heap.size + 3, .inl (aC 0, 1203, .inl (fun _ => 0))), (s.heap.size + 4, .inl (aC 0, 802, .inl (fun _ => 0))), (s.heap.size + 5, .inl (aC 0, 401, .inl (fun _ => 0)))] H := hP
  have hD : va_D A [(h0, .inr (9, [.ref r1, .ref (s.heap.size + 0), .int 0, .ref (s.heap.size + 1), .int 0, .ref (s.heap.size + 2), .int 0, .ref (s.heap.size + 3), .int 0, .ref (s.heap.size + 4), .int 0, .int 0, .int 0, .ref (s.heap.size + 5), .int 0, .int 0, .int 0, .int 0, .int (-1)])), (s.heap.size + 0, .inl (aC 0, 400, .inl (fun _ => 0))), (s.heap.size + 1, .inl (aC 0, 4000, .inl (fun _ => 0))), (s.heap.size + 2, .inl (aC 0, 4000, .inl (fun _ => 0))), (s.heap.size + 3, .inl (aC 0, 1203, .inl (fun _ => 0))), (s.heap.size + 4, .inl (aC 0, 802, .inl (fun _ => 0))), (s.heap.size + 5, .inl (aC 0, 401, .inl (fun _ => 0)))] := hD
  refine W.widen (k := 6) (n := 10806) (Nat.le_of_ble_eq_true rfl) (Nat.le_of_ble_eq_true rfl) ?_
  rw [← hQ, hAe]
  exact W.vret hx hb hr (fun t ht hW => ⟨⟨(), rfl, trivial, by rw [ht]; exact hP, hD, by rw [ht]; exact hz0⟩, hS.F ht⟩) hS.2.2 dX10_init_68
