theorem dX6_init_0 : decode cX6_init 0 = .ok (.aload_n 0, 1) := by decide +kernel
theorem dX6_init_1 : decode cX6_init 1 = .ok (.invokespecial 5, 3) := by decide +kernel
theorem dX6_init_4 : decode cX6_init 4 = .ok (.aload_n 0, 1) := by decide +kernel
theorem dX6_init_5 : decode cX6_init 5 = .ok (.bipush 48, 2) := by decide +kernel
theorem dX6_init_7 : decode cX6_init 7 = .ok (.newarray .int, 2) := by decide +kernel
theorem dX6_init_9 : decode cX6_init 9 = .ok (.putfield 11, 3) := by decide +kernel
theorem dX6_init_12 : decode cX6_init 12 = .ok (.aload_n 0, 1) := by decide +kernel
theorem dX6_init_13 : decode cX6_init 13 = .ok (.sipush 327, 3) := by decide +kernel
theorem dX6_init_16 : decode cX6_init 16 = .ok (.newarray .int, 2) := by decide +kernel
theorem dX6_init_18 : decode cX6_init 18 = .ok (.putfield 15, 3) := by decide +kernel
theorem dX6_init_21 : decode cX6_init 21 = .ok (.aload_n 0, 1) := by decide +kernel
theorem dX6_init_22 : decode cX6_init 22 = .ok (.sipush 327, 3) := by decide +kernel
theorem dX6_init_25 : decode cX6_init 25 = .ok (.newarray .int, 2) := by decide +kernel
theorem dX6_init_27 : decode cX6_init 27 = .ok (.putfield 18, 3) := by decide +kernel
theorem dX6_init_30 : decode cX6_init 30 = .ok (.aload_n 0, 1) := by decide +kernel
theorem dX6_init_31 : decode cX6_init 31 = .ok (.sipush 175, 3) := by decide +kernel
theorem dX6_init_34 : decode cX6_init 34 = .ok (.newarray .int, 2) := by decide +kernel
theorem dX6_init_36 : decode cX6_init 36 = .ok (.putfield 21, 3) := by decide +kernel
theorem dX6_init_39 : decode cX6_init 39 = .ok (.aload_n 0, 1) := by decide +kernel
theorem dX6_init_40 : decode cX6_init 40 = .ok (.bipush 60, 2) := by decide +kernel
theorem dX6_init_42 : decode cX6_init 42 = .ok (.newarray .int, 2) := by decide +kernel
theorem dX6_init_44 : decode cX6_init 44 = .ok (.putfield 24, 3) := by decide +kernel
theorem dX6_init_47 : decode cX6_init 47 = .ok (.return_, 1) := by decide +kernel
theorem dX4_init_0 : decode cX4_init 0 = .ok (.aload_n 0, 1) := by decide +kernel
theorem dX4_init_1 : decode cX4_init 1 = .ok (.invokespecial 3, 3) := by decide +kernel
theorem dX4_init_4 : decode cX4_init 4 = .ok (.aload_n 0, 1) := by decide +kernel
theorem dX4_init_5 : decode cX4_init 5 = .ok (.ldc 11, 2) := by decide +kernel
theorem dX4_init_7 : decode cX4_init 7 = .ok (.newarray .int, 2) := by decide +kernel
theorem dX4_init_9 : decode cX4_init 9 = .ok (.putfield 12, 3) := by decide +kernel
theorem dX4_init_12 : decode cX4_init 12 = .ok (.aload_n 0, 1) := by decide +kernel
theorem dX4_init_13 : decode cX4_init 13 = .ok (.sipush 2048, 3) := by decide +kernel
theorem dX4_init_16 : decode cX4_init 16 = .ok (.putfield 16, 3) := by decide +kernel
theorem dX4_init_19 : decode cX4_init 19 = .ok (.aload_n 0, 1) := by decide +kernel
theorem dX4_init_20 : decode cX4_init 20 = .ok (.iconst 0, 1) := by decide +kernel
theorem dX4_init_21 : decode cX4_init 21 = .ok (.putfield 20, 3) := by decide +kernel
theorem dX4_init_24 : decode cX4_init 24 = .ok (.return_, 1) := by decide +kernel
theorem dX2_init_0 : decode cX2_init 0 = .ok (.aload_n 0, 1) := by decide +kernel
theorem dX2_init_1 : decode cX2_init 1 = .ok (.invokespecial 3, 3) := by decide +kernel
theorem dX2_init_4 : decode cX2_init 4 = .ok (.aload_n 0, 1) := by decide +kernel
theorem dX2_init_5 : decode cX2_init 5 = .ok (.aload_n 1, 1) := by decide +kernel
theorem dX2_init_6 : decode cX2_init 6 = .ok (.putfield 9, 3) := by decide +kernel
theorem dX2_init_9 : decode cX2_init 9 = .ok (.return_, 1) := by decide +kernel
theorem dX0_init_0 : decode cX0_init 0 = .ok (.aload_n 0, 1) := by decide +kernel
theorem dX0_init_1 : decode cX0_init 1 = .ok (.invokespecial 3, 3) := by decide +kernel
theorem dX0_init_4 : decode cX0_init 4 = .ok (.aload_n 0, 1) := by decide +kernel
theorem dX0_init_5 : decode cX0_init 5 = .ok (.aload_n 1, 1) := by decide +kernel
theorem dX0_init_6 : decode cX0_init 6 = .ok (.putfield 9, 3) := by decide +kernel
theorem dX0_init_9 : decode cX0_init 9 = .ok (.aload_n 0, 1) := by decide +kernel
theorem dX0_init_10 : decode cX0_init 10 = .ok (.aload_n 2, 1) := by decide +kernel
theorem dX0_init_11 : decode cX0_init 11 = .ok (.putfield 15, 3) := by decide +kernel
theorem dX0_init_14 : decode cX0_init 14 = .ok (.aload_n 0, 1) := by decide +kernel
theorem dX0_init_15 : decode cX0_init 15 = .ok (.bipush 96, 2) := by decide +kernel
theorem dX0_init_17 : decode cX0_init 17 = .ok (.newarray .int, 2) := by decide +kernel
theorem dX0_init_19 : decode cX0_init 19 = .ok (.putfield 19, 3) := by decide +kernel
theorem dX0_init_22 : decode cX0_init 22 = .ok (.aload_n 0, 1) := by decide +kernel
theorem dX0_init_23 : decode cX0_init 23 = .ok (.bipush 96, 2) := by decide +kernel
theorem dX0_init_25 : decode cX0_init 25 = .ok (.newarray .int, 2) := by decide +kernel
theorem dX0_init_27 : decode cX0_init 27 = .ok (.putfield 23, 3) := by decide +kernel
theorem dX0_init_30 : decode cX0_init 30 = .ok (.aload_n 0, 1) := by decide +kernel
theorem dX0_init_31 : decode cX0_init 31 = .ok (.bipush 24, 2) := by decide +kernel
theorem dX0_init_33 : decode cX0_init 33 = .ok (.newarray .int, 2) := by decide +kernel
theorem dX0_init_35 : decode cX0_init 35 = .ok (.putfield 26, 3) := by decide +kernel
theorem dX0_init_38 : decode cX0_init 38 = .ok (.return_, 1) := by decide +kernel
theorem dX3_init_0 : decode cX3_init 0 = .ok (.aload_n 0, 1) := by decide +kernel
theorem dX3_init_1 : decode cX3_init 1 = .ok (.invokespecial 3, 3) := by decide +kernel
theorem dX3_init_4 : decode cX3_init 4 = .ok (.aload_n 0, 1) := by decide +kernel
theorem dX3_init_5 : decode cX3_init 5 = .ok (.aload_n 1, 1) := by decide +kernel
theorem dX3_init_6 : decode cX3_init 6 = .ok (.putfield 9, 3) := by decide +kernel
theorem dX3_init_9 : decode cX3_init 9 = .ok (.aload_n 0, 1) := by decide +kernel
theorem dX3_init_10 : decode cX3_init 10 = .ok (.aload_n 2, 1) := by decide +kernel
theorem dX3_init_11 : decode cX3_init 11 = .ok (.putfield 15, 3) := by decide +kernel
theorem dX3_init_14 : decode cX3_init 14 = .ok (.aload_n 0, 1) := by decide +kernel
theorem dX3_init_15 : decode cX3_init 15 = .ok (.aload_n 3, 1) := by decide +kernel
theorem dX3_init_16 : decode cX3_init 16 = .ok (.putfield 19, 3) := by decide +kernel
theorem dX3_init_19 : decode cX3_init 19 = .ok (.return_, 1) := by decide +kernel
theorem dX7_init_0 : decode cX7_init 0 = .ok (.aload_n 0, 1) := by decide +kernel
theorem dX7_init_1 : decode cX7_init 1 = .ok (.invokespecial 3, 3) := by decide +kernel
theorem dX7_init_4 : decode cX7_init 4 = .ok (.aload_n 0, 1) := by decide +kernel
theorem dX7_init_5 : decode cX7_init 5 = .ok (.aload_n 1, 1) := by decide +kernel
theorem dX7_init_6 : decode cX7_init 6 = .ok (.putfield 9, 3) := by decide +kernel
theorem dX7_init_9 : decode cX7_init 9 = .ok (.aload_n 0, 1) := by decide +kernel
theorem dX7_init_10 : decode cX7_init 10 = .ok (.sipush 2760, 3) := by decide +kernel
theorem dX7_init_13 : decode cX7_init 13 = .ok (.newarray .int, 2) := by decide +kernel
theorem dX7_init_15 : decode cX7_init 15 = .ok (.putfield 15, 3) := by decide +kernel
theorem dX7_init_18 : decode cX7_init 18 = .ok (.aload_n 0, 1) := by decide +kernel
theorem dX7_init_19 : decode cX7_init 19 = .ok (.bipush 60, 2) := by decide +kernel
theorem dX7_init_21 : decode cX7_init 21 = .ok (.newarray .int, 2) := by decide +kernel
theorem dX7_init_23 : decode cX7_init 23 = .ok (.putfield 19, 3) := by decide +kernel
theorem dX7_init_26 : decode cX7_init 26 = .ok (.aload_n 0, 1) := by decide +kernel
theorem dX7_init_27 : decode cX7_init 27 = .ok (.bipush 46, 2) := by decide +kernel
theorem dX7_init_29 : decode cX7_init 29 = .ok (.newarray .int, 2) := by decide +kernel
theorem dX7_init_31 : decode cX7_init 31 = .ok (.putfield 22, 3) := by decide +kernel
theorem dX7_init_34 : decode cX7_init 34 = .ok (.return_, 1) := by decide +kernel
theorem dX8_init_0 : decode cX8_init 0 = .ok (.aload_n 0, 1) := by decide +kernel
theorem dX8_init_1 : decode cX8_init 1 = .ok (.invokespecial 3, 3) := by decide +kernel
theorem dX8_init_4 : decode cX8_init 4 = .ok (.aload_n 0, 1) := by decide +kernel
theorem dX8_init_5 : decode cX8_init 5 = .ok (.aload_n 1, 1) := by decide +kernel
theorem dX8_init_6 : decode cX8_init 6 = .ok (.putfield 9, 3) := by decide +kernel
theorem dX8_init_9 : decode cX8_init 9 = .ok (.aload_n 0, 1) := by decide +kernel
theorem dX8_init_10 : decode cX8_init 10 = .ok (.aload_n 2, 1) := by decide +kernel
theorem dX8_init_11 : decode cX8_init 11 = .ok (.putfield 15, 3) := by decide +kernel
theorem dX8_init_14 : decode cX8_init 14 = .ok (.aload_n 0, 1) := by decide +kernel
theorem dX8_init_15 : decode cX8_init 15 = .ok (.aload_n 3, 1) := by decide +kernel
theorem dX8_init_16 : decode cX8_init 16 = .ok (.putfield 19, 3) := by decide +kernel
theorem dX8_init_19 : decode cX8_init 19 = .ok (.aload_n 0, 1) := by decide +kernel
theorem dX8_init_20 : decode cX8_init 20 = .ok (.aload 4, 2) := by decide +kernel
theorem dX8_init_22 : decode cX8_init 22 = .ok (.putfield 23, 3) := by decide +kernel
theorem dX8_init_25 : decode cX8_init 25 = .ok (.aload_n 0, 1) := by decide +kernel
theorem dX8_init_26 : decode cX8_init 26 = .ok (.aload 5, 2) := by decide +kernel
theorem dX8_init_28 : decode cX8_init 28 = .ok (.putfield 27, 3) := by decide +kernel
theorem dX8_init_31 : decode cX8_init 31 = .ok (.aload_n 0, 1) := by decide +kernel
theorem dX8_init_32 : decode cX8_init 32 = .ok (.aload 6, 2) := by decide +kernel
theorem dX8_init_34 : decode cX8_init 34 = .ok (.putfield 31, 3) := by decide +kernel
theorem dX8_init_37 : decode cX8_init 37 = .ok (.aload_n 0, 1) := by decide +kernel
theorem dX8_init_38 : decode cX8_init 38 = .ok (.iconst 4, 1) := by decide +kernel
theorem dX8_init_39 : decode cX8_init 39 = .ok (.newarray .int, 2) := by decide +kernel
theorem dX8_init_41 : decode cX8_init 41 = .ok (.putfield 35, 3) := by decide +kernel
theorem dX8_init_44 : decode cX8_init 44 = .ok (.aload_n 0, 1) := by decide +kernel
theorem dX8_init_45 : decode cX8_init 45 = .ok (.iconst 4, 1) := by decide +kernel
theorem dX8_init_46 : decode cX8_init 46 = .ok (.newarray .int, 2) := by decide +kernel
theorem dX8_init_48 : decode cX8_init 48 = .ok (.putfield 39, 3) := by decide +kernel
theorem dX8_init_51 : decode cX8_init 51 = .ok (.aload_n 0, 1) := by decide +kernel
theorem dX8_init_52 : decode cX8_init 52 = .ok (.iconst 4, 1) := by decide +kernel
theorem dX8_init_53 : decode cX8_init 53 = .ok (.newarray .int, 2) := by decide +kernel
theorem dX8_init_55 : decode cX8_init 55 = .ok (.putfield 42, 3) := by decide +kernel
theorem dX8_init_58 : decode cX8_init 58 = .ok (.aload_n 0, 1) := by decide +kernel
theorem dX8_init_59 : decode cX8_init 59 = .ok (.iconst 4, 1) := by decide +kernel
theorem dX8_init_60 : decode cX8_init 60 = .ok (.newarray .int, 2) := by decide +kernel
theorem dX8_init_62 : decode cX8_init 62 = .ok (.putfield 45, 3) := by decide +kernel
theorem dX8_init_65 : decode cX8_init 65 = .ok (.return_, 1) := by decide +kernel
theorem dX5_init_0 : decode cX5_init 0 = .ok (.aload_n 0, 1) := by decide +kernel
theorem dX5_init_1 : decode cX5_init 1 = .ok (.invokespecial 3, 3) := by decide +kernel
theorem dX5_init_4 : decode cX5_init 4 = .ok (.aload_n 0, 1) := by decide +kernel
theorem dX5_init_5 : decode cX5_init 5 = .ok (.aload_n 1, 1) := by decide +kernel
theorem dX5_init_6 : decode cX5_init 6 = .ok (.putfield 9, 3) := by decide +kernel
theorem dX5_init_9 : decode cX5_init 9 = .ok (.aload_n 0, 1) := by decide +kernel
theorem dX5_init_10 : decode cX5_init 10 = .ok (.aload_n 2, 1) := by decide +kernel
theorem dX5_init_11 : decode cX5_init 11 = .ok (.putfield 15, 3) := by decide +kernel
theorem dX5_init_14 : decode cX5_init 14 = .ok (.aload_n 0, 1) := by decide +kernel
theorem dX5_init_15 : decode cX5_init 15 = .ok (.aload_n 3, 1) := by decide +kernel
theorem dX5_init_16 : decode cX5_init 16 = .ok (.putfield 19, 3) := by decide +kernel
theorem dX5_init_19 : decode cX5_init 19 = .ok (.aload_n 0, 1) := by decide +kernel
theorem dX5_init_20 : decode cX5_init 20 = .ok (.aload 4, 2) := by decide +kernel
theorem dX5_init_22 : decode cX5_init 22 = .ok (.putfield 23, 3) := by decide +kernel
theorem dX5_init_25 : decode cX5_init 25 = .ok (.aload_n 0, 1) := by decide +kernel
theorem dX5_init_26 : decode cX5_init 26 = .ok (.bipush 8, 2) := by decide +kernel
theorem dX5_init_28 : decode cX5_init 28 = .ok (.newarray .int, 2) := by decide +kernel
theorem dX5_init_30 : decode cX5_init 30 = .ok (.putfield 27, 3) := by decide +kernel
theorem dX5_init_33 : decode cX5_init 33 = .ok (.aload_n 0, 1) := by decide +kernel
theorem dX5_init_34 : decode cX5_init 34 = .ok (.sipush 301, 3) := by decide +kernel
theorem dX5_init_37 : decode cX5_init 37 = .ok (.newarray .int, 2) := by decide +kernel
theorem dX5_init_39 : decode cX5_init 39 = .ok (.putfield 31, 3) := by decide +kernel
theorem dX5_init_42 : decode cX5_init 42 = .ok (.aload_n 0, 1) := by decide +kernel
theorem dX5_init_43 : decode cX5_init 43 = .ok (.bipush 60, 2) := by decide +kernel
theorem dX5_init_45 : decode cX5_init 45 = .ok (.newarray .int, 2) := by decide +kernel
theorem dX5_init_47 : decode cX5_init 47 = .ok (.putfield 34, 3) := by decide +kernel
theorem dX5_init_50 : decode cX5_init 50 = .ok (.aload_n 0, 1) := by decide +kernel
theorem dX5_init_51 : decode cX5_init 51 = .ok (.bipush 42, 2) := by decide +kernel
theorem dX5_init_53 : decode cX5_init 53 = .ok (.newarray .int, 2) := by decide +kernel
theorem dX5_init_55 : decode cX5_init 55 = .ok (.putfield 37, 3) := by decide +kernel
theorem dX5_init_58 : decode cX5_init 58 = .ok (.aload_n 0, 1) := by decide +kernel
theorem dX5_init_59 : decode cX5_init 59 = .ok (.bipush 42, 2) := by decide +kernel
theorem dX5_init_61 : decode cX5_init 61 = .ok (.newarray .int, 2) := by decide +kernel
theorem dX5_init_63 : decode cX5_init 63 = .ok (.putfield 40, 3) := by decide +kernel
theorem dX5_init_66 : decode cX5_init 66 = .ok (.return_, 1) := by decide +kernel
theorem dX10_init_0 : decode cX10_init 0 = .ok (.aload_n 0, 1) := by decide +kernel
theorem dX10_init_1 : decode cX10_init 1 = .ok (.invokespecial 3, 3) := by decide +kernel
theorem dX10_init_4 : decode cX10_init 4 = .ok (.aload_n 0, 1) := by decide +kernel
theorem dX10_init_5 : decode cX10_init 5 = .ok (.aload_n 1, 1) := by decide +kernel
theorem dX10_init_6 : decode cX10_init 6 = .ok (.putfield 9, 3) := by decide +kernel
theorem dX10_init_9 : decode cX10_init 9 = .ok (.aload_n 0, 1) := by decide +kernel
theorem dX10_init_10 : decode cX10_init 10 = .ok (.sipush 400, 3) := by decide +kernel
theorem dX10_init_13 : decode cX10_init 13 = .ok (.newarray .int, 2) := by decide +kernel
theorem dX10_init_15 : decode cX10_init 15 = .ok (.putfield 15, 3) := by decide +kernel
theorem dX10_init_18 : decode cX10_init 18 = .ok (.aload_n 0, 1) := by decide +kernel
theorem dX10_init_19 : decode cX10_init 19 = .ok (.sipush 4000, 3) := by decide +kernel
theorem dX10_init_22 : decode cX10_init 22 = .ok (.newarray .int, 2) := by decide +kernel
theorem dX10_init_24 : decode cX10_init 24 = .ok (.putfield 19, 3) := by decide +kernel
theorem dX10_init_27 : decode cX10_init 27 = .ok (.aload_n 0, 1) := by decide +kernel
theorem dX10_init_28 : decode cX10_init 28 = .ok (.sipush 4000, 3) := by decide +kernel
theorem dX10_init_31 : decode cX10_init 31 = .ok (.newarray .int, 2) := by decide +kernel
theorem dX10_init_33 : decode cX10_init 33 = .ok (.putfield 22, 3) := by decide +kernel
theorem dX10_init_36 : decode cX10_init 36 = .ok (.aload_n 0, 1) := by decide +kernel
theorem dX10_init_37 : decode cX10_init 37 = .ok (.sipush 1203, 3) := by decide +kernel
theorem dX10_init_40 : decode cX10_init 40 = .ok (.newarray .int, 2) := by decide +kernel
theorem dX10_init_42 : decode cX10_init 42 = .ok (.putfield 25, 3) := by decide +kernel
theorem dX10_init_45 : decode cX10_init 45 = .ok (.aload_n 0, 1) := by decide +kernel
theorem dX10_init_46 : decode cX10_init 46 = .ok (.sipush 802, 3) := by decide +kernel
theorem dX10_init_49 : decode cX10_init 49 = .ok (.newarray .int, 2) := by decide +kernel
theorem dX10_init_51 : decode cX10_init 51 = .ok (.putfield 28, 3) := by decide +kernel
theorem dX10_init_54 : decode cX10_init 54 = .ok (.aload_n 0, 1) := by decide +kernel
theorem dX10_init_55 : decode cX10_init 55 = .ok (.sipush 401, 3) := by decide +kernel
theorem dX10_init_58 : decode cX10_init 58 = .ok (.newarray .int, 2) := by decide +kernel
theorem dX10_init_60 : decode cX10_init 60 = .ok (.putfield 31, 3) := by decide +kernel
theorem dX10_init_63 : decode cX10_init 63 = .ok (.aload_n 0, 1) := by decide +kernel
theorem dX10_init_64 : decode cX10_init 64 = .ok (.iconst (-1), 1) := by decide +kernel
theorem dX10_init_65 : decode cX10_init 65 = .ok (.putfield 34, 3) := by decide +kernel
theorem dX10_init_68 : decode cX10_init 68 = .ok (.return_, 1) := by decide +kernel
set_option maxHeartbeats 4000000 in
set_option maxRecDepth 100000 in
theorem c_X6_init (l : Launch) (dC : Nat → ClassId) (dI : Nat → Nat → Nat) (aC : Nat → ClassId) (h0 : Nat) (sz : Nat) : Met l yX6_init w_X6_init ({ frames := 1, cells := 5, slots := 937, locals := 24 }) (zPre (dC, dI) aC [(h0, .inr (5, [.int 0, .int 0, .int 0, .int 0, .int 0, .int 0, .int 0, .null, .null, .null, .null, .null]))] sz [.ref h0]) (va_Qv (fun (u : Unit) => True) (fun u zt => zB (dC, dI) [(h0, .inr (5, [.int 0, .int 0, .int 0, .int 0, .int 0, .int 0, .int 0, .ref (sz + 0), .ref (sz + 1), .ref (sz + 2), .ref (sz + 3), .ref (sz + 4)])), (sz + 0, .inl (aC 0, 48, .inl (fun _ => 0))), (sz + 1, .inl (aC 0, 327, .inl (fun _ => 0))), (sz + 2, .inl (aC 0, 327, .inl (fun _ => 0))), (sz + 3, .inl (aC 0, 175, .inl (fun _ => 0))), (sz + 4, .inl (aC 0, 60, .inl (fun _ => 0)))] (va_A [(h0, .inr (5, [.int 0, .int 0, .int 0, .int 0, .int 0, .int 0, .int 0, .null, .null, .null, .null, .null]))] sz) (sz + 5) zt) (va_A [(h0, .inr (5, [.int 0, .int 0, .int 0, .int 0, .int 0, .int 0, .int 0, .null, .null, .null, .null, .null]))] sz)) 5 937 (va_A [(h0, .inr (5, [.int 0, .int 0, .int 0, .int 0, .int 0, .int 0, .int 0, .null, .null, .null, .null, .null]))] sz) := by
  refine Met.ofW (cc := cX6_init) (maxL := 1) (ret := none) (by decide) rfl ?_
  intro p e s m args below meth c s₁ B hml hv
  generalize hQ : MQ below _ _ s _ _ _ = QQ
  obtain ⟨rfl, hsz, hP, hK, hD0⟩ := hv
  have hx := B.exec
  have hb := B.bytes
  have hr := B.returns
  have hts := atoms_spec (ws := w_X6_init) B.pre
  have hall := fun (w : Cond) (h : w ∈ zAll) => hts w (List.mem_cons_of_mem _ h)
  have hown : s.vm.findClass RX6 = some m.cls := findClass_of_methodNamed B.named
  have hlocks := B.notSynchronized
  have hin : meth.name = "<init>" := (name_of_methodNamed B.named B.method).1
  subst hsz
  have hD := hD0.self (sz := s.heap.size)
  generalize hAe : va_A [(h0, .inr (5, [.int 0, .int 0, .int 0, .int 0, .int 0, .int 0, .int 0, .null, .null, .null, .null, .null]))] s.heap.size = A at hD ⊢
  have hA : ∀ q : Nat, s.heap.size ≤ q → A q := fun q h => by rw [← hAe]; exact Or.inr h
  have hS : va_S A s.heap s.heap [] := va_S.rf
  have hz0 : s.heap.size = s.heap.size + 0 := rfl
  have hl := lv_entry ([.ref h0]) (n := 1) (Nat.le_of_ble_eq_true rfl)
  rw [lg_entry_eq]
  generalize (lg_sl ([.ref h0]) ++ List.replicate (1 - (lg_sl ([.ref h0])).length) Slot.unset).toArray = ls at hl ⊢
  have hl : lv_has ls 1 [(0, .ref h0)] := hl
  refine lv_aload_n hx hb dX6_init_0 rfl (lv_at hl 0 rfl) ?_
  refine W.objInit hx hb hown (hall _ zw_1) (hall _ zw_2) (hall _ zw_3) rfl (hl.1.trans hml.symm) rfl dX6_init_1 (Nat.le_of_ble_eq_true rfl) (Nat.le_of_ble_eq_true rfl) ?_
  refine lv_aload_n hx hb dX6_init_4 rfl (lv_at hl 0 rfl) ?_
  refine lv_bipush (v := 48) hx hb dX6_init_5 (by decide) ?_
  refine znewa (atype := .int) (ty := .int) (cA := aC 0) (N' := 48) (a0 := (48, .inl (fun _ => 0))) hx hb (hall _ zw_4) rfl hK.1 hP hD hS hA 0 rfl (fun h => h) rfl (by decide) (by decide) (Nat.le_of_ble_eq_true rfl) (Nat.le_of_ble_eq_true rfl) (Nat.le_of_ble_eq_true rfl) dX6_init_7 (fun q1 H2 eq1 hz hB hP' hD' hS' => ?_)
  obtain rfl : q1 = s.heap.size + 0 := eq1.trans hz0
  clear eq1
  replace hz0 : H2.size = s.heap.size + 1 := by omega
  clear hz
  clear hP hD hS hB
  have hP : va_P (dC, dI) vwCl [(h0, .inr (5, [.int 0, .int 0, .int 0, .int 0, .int 0, .int 0, .int 0, .null, .null, .null, .null, .null])), (s.heap.size + 0, .inl (aC 0, 48, .inl (fun _ => 0)))] H2 := hP'
  have hD : va_D A [(h0, .inr (5, [.int 0, .int 0, .int 0, .int 0, .int 0, .int 0, .int 0, .null, .null, .null, .null, .null])), (s.heap.size + 0, .inl (aC 0, 48, .inl (fun _ => 0)))] := hD'
  have hS : va_S A s.heap H2 [] := hS'
  clear hP' hD' hS'
  show W p l e _ s m _ below meth c _ _ _ _ QQ (F0 m 9 ls [.ref (s.heap.size + 0), .ref h0])
  refine zputF (D := (dC, dI)) (ci := 5) (v := .ref (s.heap.size + 0)) (ty := (.array .int)) (C := RX6) (T := TX6) (N := 12) hx hb hall zx_6 tyX6 tyX6_ok nmX6 hown hK.1 hP hD hS 0 rfl rfl 7 (by decide) (hall _ zw_5) (fun _ h9 => h9) rfl hin rfl (by decide +kernel) rfl rfl (Nat.le_of_ble_eq_true rfl) dX6_init_9 (fun H3 L4 hB hP' hD' hS' => ?_)
  replace hz0 : H3.size = s.heap.size + 1 := hB.1.trans hz0
  clear hP hD hS hB
  have hP : va_P (dC, dI) vwCl [(h0, .inr (5, [.int 0, .int 0, .int 0, .int 0, .int 0, .int 0, .int 0, .ref (s.heap.size + 0), .null, .null, .null, .null])), (s.heap.size + 0, .inl (aC 0, 48, .inl (fun _ => 0)))] H3 := hP'
  have hD : va_D A [(h0, .inr (5, [.int 0, .int 0, .int 0, .int 0, .int 0, .int 0, .int 0, .ref (s.heap.size + 0), .null, .null, .null, .null])), (s.heap.size + 0, .inl (aC 0, 48, .inl (fun _ => 0)))] := hD'
  have hS : va_S A s.heap H3 L4 := hS'
  clear hP' hD' hS'
  clear H2
  refine lv_aload_n hx hb dX6_init_12 rfl (lv_at hl 0 rfl) ?_
  refine lv_sipush (v := 327) hx hb dX6_init_13 (by decide) ?_
  refine znewa (atype := .int) (ty := .int) (cA := aC 0) (N' := 327) (a0 := (327, .inl (fun _ => 0))) hx hb (hall _ zw_4) rfl hK.1 hP hD hS hA 0 rfl (fun h => h) rfl (by decide) (by decide) (Nat.le_of_ble_eq_true rfl) (Nat.le_of_ble_eq_true rfl) (Nat.le_of_ble_eq_true rfl) dX6_init_16 (fun q5 H6 eq5 hz hB hP' hD' hS' => ?_)
  obtain rfl : q5 = s.heap.size + 1 := eq5.trans hz0
  clear eq5
  replace hz0 : H6.size = s.heap.size + 2 := by omega
  clear hz
  clear hP hD hS hB
  have hP : va_P (dC, dI) vwCl [(h0, .inr (5, [.int 0, .int 0, .int 0, .int 0, .int 0, .int 0, .int 0, .ref (s.heap.size + 0), .null, .null, .null, .null])), (s.heap.size + 0, .inl (aC 0, 48, .inl (fun _ => 0))), (s.heap.size + 1, .inl (aC 0, 327, .inl (fun _ => 0)))] H6 := hP'
  have hD : va_D A [(h0, .inr (5, [.int 0, .int 0, .int 0, .int 0, .int 0, .int 0, .int 0, .ref (s.heap.size + 0), .null, .null, .null, .null])), (s.heap.size + 0, .inl (aC 0, 48, .inl (fun _ => 0))), (s.heap.size + 1, .inl (aC 0, 327, .inl (fun _ => 0)))] := hD'
  have hS : va_S A s.heap H6 L4 := hS'
  clear hP' hD' hS'
  clear H3
  refine zputF (D := (dC, dI)) (ci := 5) (v := .ref (s.heap.size + 1)) (ty := (.array .int)) (C := RX6) (T := TX6) (N := 12) hx hb hall zx_6 tyX6 tyX6_ok nmX6 hown hK.1 hP hD hS 0 rfl rfl 8 (by decide) (hall _ zw_6) (fun _ h9 => h9) rfl hin rfl (by decide +kernel) rfl rfl (Nat.le_of_ble_eq_true rfl) dX6_init_18 (fun H7 L8 hB hP' hD' hS' => ?_)
  replace hz0 : H7.size = s.heap.size + 2 := hB.1.trans hz0
  clear hP hD hS hB
  have hP : va_P (dC, dI) vwCl [(h0, .inr (5, [.int 0, .int 0, .int 0, .int 0, .int 0, .int 0, .int 0, .ref (s.heap.size + 0), .ref (s.heap.size + 1), .null, .null, .null])), (s.heap.size + 0, .inl (aC 0, 48, .inl (fun _ => 0))), (s.heap.size + 1, .inl (aC 0, 327, .inl (fun _ => 0)))] H7 := hP'
  have hD : va_D A [(h0, .inr (5, [.int 0, .int 0, .int 0, .int 0, .int 0, .int 0, .int 0, .ref (s.heap.size + 0), .ref (s.heap.size + 1), .null, .null, .null])), (s.heap.size + 0, .inl (aC 0, 48, .inl (fun _ => 0))), (s.heap.size + 1, .inl (aC 0, 327, .inl (fun _ => 0)))] := hD'
  have hS : va_S A s.heap H7 L8 := hS'
  clear hP' hD' hS'
  clear L4 H6
  show W p l e _ s m _ below meth c _ _ _ _ QQ (F0 m 21 ls [])
  refine lv_aload_n hx hb dX6_init_21 rfl (lv_at hl 0 rfl) ?_
  refine lv_sipush (v := 327) hx hb dX6_init_22 (by decide) ?_
  refine znewa (atype := .int) (ty := .int) (cA := aC 0) (N' := 327) (a0 := (327, .inl (fun _ => 0))) hx hb (hall _ zw_4) rfl hK.1 hP hD hS hA 0 rfl (fun h => h) rfl (by decide) (by decide) (Nat.le_of_ble_eq_true rfl) (Nat.le_of_ble_eq_true rfl) (Nat.le_of_ble_eq_true rfl) dX6_init_25 (fun q9 H10 eq9 hz hB hP' hD' hS' => ?_)
  obtain rfl : q9 = s.heap.size + 2 := eq9.trans hz0
  clear eq9
  replace hz0 : H10.size = s.heap.size + 3 := by omega
  clear hz
  clear hP hD hS hB
  have hP : va_P (dC, dI) vwCl [(h0, .inr (5, [.int 0, .int 0, .int 0, .int 0, .int 0, .int 0, .int 0, .ref (s.heap.size + 0), .ref (s.heap.size + 1), .null, .null, .null])), (s.heap.size + 0, .inl (aC 0, 48, .inl (fun _ => 0))), (s.heap.size + 1, .inl (aC 0, 327, .inl (fun _ => 0))), (s.heap.size + 2, .inl (aC 0, 327, .inl (fun _ => 0)))] H10 := hP'
  have hD : va_D A [(h0, .inr (5, [.int 0, .int 0, .int 0, .int 0, .int 0, .int 0, .int 0, .ref (s.heap.size + 0), .ref (s.heap.size + 1), .null, .null, .null])), (s.heap.size + 0, .inl (aC 0, 48, .inl (fun _ => 0))), (s.heap.size + 1, .inl (aC 0, 327, .inl (fun _ => 0))), (s.heap.size + 2, .inl (aC 0, 327, .inl (fun _ => 0)))] := hD'
  have hS : va_S A s.heap H10 L8 := hS'
  clear hP' hD' hS'
  clear H7
  refine zputF (D := (dC, dI)) (ci := 5) (v := .ref (s.heap.size + 2)) (ty := (.array .int)) (C := RX6) (T := TX6) (N := 12) hx hb hall zx_6 tyX6 tyX6_ok nmX6 hown hK.1 hP hD hS 0 rfl rfl 9 (by decide) (hall _ zw_7) (fun _ h9 => h9) rfl hin rfl (by decide +kernel) rfl rfl (Nat.le_of_ble_eq_true rfl) dX6_init_27 (fun H11 L12 hB hP' hD' hS' => ?_)
  replace hz0 : H11.size = s.heap.size + 3 := hB.1.trans hz0
  clear hP hD hS hB
  have hP : va_P (dC, dI) vwCl [(h0, .inr (5, [.int 0, .int 0, .int 0, .int 0, .int 0, .int 0, .int 0, .ref (s.heap.size + 0), .ref (s.heap.size + 1), .ref (s.heap.size + 2), .null, .null])), (s.heap.size + 0, .inl (aC 0, 48, .inl (fun _ => 0))), (s.heap.size + 1, .inl (aC 0, 327, .inl (fun _ => 0))), (s.heap.size + 2, .inl (aC 0, 327, .inl (fun _ => 0)))] H11 := hP'
  have hD : va_D A [(h0, .inr (5, [.int 0, .int 0, .int 0, .int 0, .int 0, .int 0, .int 0, .ref (s.heap.size + 0), .ref (s.heap.size + 1), .ref (s.heap.size + 2), .null, .null])), (s.heap.size + 0, .inl (aC 0, 48, .inl (fun _ => 0))), (s.heap.size + 1, .inl (aC 0, 327, .inl (fun _ => 0))), (s.heap.size + 2, .inl (aC 0, 327, .inl (fun _ => 0)))] := hD'
  have hS : va_S A s.heap H11 L12 := hS'
  clear hP' hD' hS'
  clear L8 H10
  refine lv_aload_n hx hb dX6_init_30 rfl (lv_at hl 0 rfl) ?_
  show W p l e _ s m _ below meth c _ _ _ _ QQ (F0 m 31 ls [.ref h0])
  refine lv_sipush (v := 175) hx hb dX6_init_31 (by decide) ?_
  refine znewa (atype := .int) (ty := .int) (cA := aC 0) (N' := 175) (a0 := (175, .inl (fun _ => 0))) hx hb (hall _ zw_4) rfl hK.1 hP hD hS hA 0 rfl (fun h => h) rfl (by decide) (by decide) (Nat.le_of_ble_eq_true rfl) (Nat.le_of_ble_eq_true rfl) (Nat.le_of_ble_eq_true rfl) dX6_init_34 (fun q13 H14 eq13 hz hB hP' hD' hS' => ?_)
  obtain rfl : q13 = s.heap.size + 3 := eq13.trans hz0
  clear eq13
  replace hz0 : H14.size = s.heap.size + 4 := by omega
  clear hz
  clear hP hD hS hB
  have hP : va_P (dC, dI) vwCl [(h0, .inr (5, [.int 0, .int 0, .int 0, .int 0, .int 0, .int 0, .int 0, .ref (s.heap.size + 0), .ref (s.heap.size + 1), .ref (s.heap.size + 2), .null, .null])), (s.heap.size + 0, .inl (aC 0, 48, .inl (fun _ => 0))), (s.heap.size + 1, .inl (aC 0, 327, .inl (fun _ => 0))), (s.heap.size + 2, .inl (aC 0, 327, .inl (fun _ => 0))), (s.heap.size + 3, .inl (aC 0, 175, .inl (fun _ => 0)))] H14 := hP'
  have hD : va_D A [(h0, .inr (5, [.int 0, .int 0, .int 0, .int 0, .int 0, .int 0, .int 0, .ref (s.heap.size + 0), .ref (s.heap.size + 1), .ref (s.heap.size + 2), .null, .null])), (s.heap.size + 0, .inl (aC 0, 48, .inl (fun _ => 0))), (s.heap.size + 1, .inl (aC 0, 327, .inl (fun _ => 0))), (s.heap.size + 2, .inl (aC 0, 327, .inl (fun _ => 0))), (s.heap.size + 3, .inl (aC 0, 175, .inl (fun _ => 0)))] := hD'
  have hS : va_S A s.heap H14 L12 := hS'
  clear hP' hD' hS'
  clear H11
  refine zputF (D := (dC, dI)) (ci := 5) (v := .ref (s.heap.size + 3)) (ty := (.array .int)) (C := RX6) (T := TX6) (N := 12) hx hb hall zx_6 tyX6 tyX6_ok nmX6 hown hK.1 hP hD hS 0 rfl rfl 10 (by decide) (hall _ zw_8) (fun _ h9 => h9) rfl hin rfl (by decide +kernel) rfl rfl (Nat.le_of_ble_eq_true rfl) dX6_init_36 (fun H15 L16 hB hP' hD' hS' => ?_)
  replace hz0 : H15.size = s.heap.size + 4 := hB.1.trans hz0
  clear hP hD hS hB
  have hP : va_P (dC, dI) vwCl [(h0, .inr (5, [.int 0, .int 0, .int 0, .int 0, .int 0, .int 0, .int 0, .ref (s.heap.size + 0), .ref (s.heap.size + 1), .ref (s.heap.size + 2), .ref (s.heap.size + 3), .null])), (s.heap.size + 0, .inl (aC 0, 48, .inl (fun _ => 0))), (s.heap.size + 1, .inl (aC 0, 327, .inl (fun _ => 0))), (s.heap.size + 2, .inl (aC 0, 327, .inl (fun _ => 0))), (s.heap.size + 3, .inl (aC 0, 175, .inl (fun _ => 0)))] H15 := hP'
  have hD : va_D A [(h0, .inr (5, [.int 0, .int 0, .int 0, .int 0, .int 0, .int 0, .int 0, .ref (s.heap.size + 0), .ref (s.heap.size + 1), .ref (s.heap.size + 2), .ref (s.heap.size + 3), .null])), (s.heap.size + 0, .inl (aC 0, 48, .inl (fun _ => 0))), (s.heap.size + 1, .inl (aC 0, 327, .inl (fun _ => 0))), (s.heap.size + 2, .inl (aC 0, 327, .inl (fun _ => 0))), (s.heap.size + 3, .inl (aC 0, 175, .inl (fun _ => 0)))] := hD'
  have hS : va_S A s.heap H15 L16 := hS'
  clear hP' hD' hS'
  clear L12 H14
  refine lv_aload_n hx hb dX6_init_39 rfl (lv_at hl 0 rfl) ?_
  refine lv_bipush (v := 60) hx hb dX6_init_40 (by decide) ?_
  show W p l e _ s m _ below meth c _ _ _ _ QQ (F0 m 42 ls [.int 60, .ref h0])
  refine znewa (atype := .int) (ty := .int) (cA := aC 0) (N' := 60) (a0 := (60, .inl (fun _ => 0))) hx hb (hall _ zw_4) rfl hK.1 hP hD hS hA 0 rfl (fun h => h) rfl (by decide) (by decide) (Nat.le_of_ble_eq_true rfl) (Nat.le_of_ble_eq_true rfl) (Nat.le_of_ble_eq_true rfl) dX6_init_42 (fun q17 H18 eq17 hz hB hP' hD' hS' => ?_)
  obtain rfl : q17 = s.heap.size + 4 := eq17.trans hz0
  clear eq17
  replace hz0 : H18.size = s.heap.size + 5 := by omega
  clear hz
  clear hP hD hS hB
  have hP : va_P (dC, dI) vwCl [(h0, .inr (5, [.int 0, .int 0, .int 0, .int 0, .int 0, .int 0, .int 0, .ref (s.heap.size + 0), .ref (s.heap.size + 1), .ref (s.heap.size + 2), .ref (s.heap.size + 3), .null])), (s.heap.size + 0, .inl (aC 0, 48, .inl (fun _ => 0))), (s.heap.size + 1, .inl (aC 0, 327, .inl (fun _ => 0))), (s.heap.size + 2, .inl (aC 0, 327, .inl (fun _ => 0))), (s.heap.size + 3, .inl (aC 0, 175, .inl (fun _ => 0))), (s.heap.size + 4, .inl (aC 0, 60, .inl (fun _ => 0)))] H18 := hP'
  have hD : va_D A [(h0, .inr (5, [.int 0, .int 0, .int 0, .int 0, .int 0, .int 0, .int 0, .ref (s.heap.size + 0), .ref (s.heap.size + 1), .ref (s.heap.size + 2), .ref (s.heap.size + 3), .null])), (s.heap.size + 0, .inl (aC 0, 48, .inl (fun _ => 0))), (s.heap.size + 1, .inl (aC 0, 327, .inl (fun _ => 0))), (s.heap.size + 2, .inl (aC 0, 327, .inl (fun _ => 0))), (s.heap.size + 3, .inl (aC 0, 175, .inl (fun _ => 0))), (s.heap.size + 4, .inl (aC 0, 60, .inl (fun _ => 0)))] := hD'
  have hS : va_S A s.heap H18 L16 := hS'
  clear hP' hD' hS'
  clear H15
  refine zputF (D := (dC, dI)) (ci := 5) (v := .ref (s.heap.size + 4)) (ty := (.array .int)) (C := RX6) (T := TX6) (N := 12) hx hb hall zx_6 tyX6 tyX6_ok nmX6 hown hK.1 hP hD hS 0 rfl rfl 11 (by decide) (hall _ zw_9) (fun _ h9 => h9) rfl hin rfl (by decide +kernel) rfl rfl (Nat.le_of_ble_eq_true rfl) dX6_init_44 (fun H19 L20 hB hP' hD' hS' => ?_)
  replace hz0 : H19.size = s.heap.size + 5 := hB.1.trans hz0
  clear hP hD hS hB
  have hP : va_P (dC, dI) vwCl [(h0, .inr (5, [.int 0, .int 0, .int 0, .int 0, .int 0, .int 0, .int 0, .ref (s.heap.size + 0), .ref (s.heap.size + 1), .ref (s.heap.size + 2), .ref (s.heap.size + 3), .ref (s.heap.size + 4)])), (s.heap.size + 0, .inl (aC 0, 48, .inl (fun _ => 0))), (s.heap.size + 1, .inl (aC 0, 327, .inl (fun _ => 0))), (s.heap.size + 2, .inl (aC 0, 327, .inl (fun _ => 0))), (s.heap.size + 3, .inl (aC 0, 175, .inl (fun _ => 0))), (s.heap.size + 4, .inl (aC 0, 60, .inl (fun _ => 0)))] H19 := hP'
  have hD : va_D A [(h0, .inr (5, [.int 0, .int 0, .int 0, .int 0, .int 0, .int 0, .int 0, .ref (s.heap.size + 0), .ref (s.heap.size + 1), .ref (s.heap.size + 2), .ref (s.heap.size + 3), .ref (s.heap.size + 4)])), (s.heap.size + 0, .inl (aC 0, 48, .inl (fun _ => 0))), (s.heap.size + 1, .inl (aC 0, 327, .inl (fun _ => 0))), (s.heap.size + 2, .inl (aC 0, 327, .inl (fun _ => 0))), (s.heap.size + 3, .inl (aC 0, 175, .inl (fun _ => 0))), (s.heap.size + 4, .inl (aC 0, 60, .inl (fun _ => 0)))] := hD'
  have hS : va_S A s.heap H19 L20 := hS'
  clear hP' hD' hS'
  clear L16 H18
  refine W.widen (k := 5) (n := 937) (Nat.le_of_ble_eq_true rfl) (Nat.le_of_ble_eq_true rfl) ?_
  rw [← hQ, hAe]
  exact W.vret hx hb hr (fun zt ht hW => ⟨⟨(), rfl, trivial, by rw [ht]; exact hP, hD, by rw [ht]; exact hz0⟩, hS.F ht⟩) hS.2.2 dX6_init_47

set_option maxHeartbeats 4000000 in
set_option maxRecDepth 100000 in
theorem c_X4_init (l : Launch) (dC : Nat → ClassId) (dI : Nat → Nat → Nat) (aC : Nat → ClassId) (h0 : Nat) (sz : Nat) : Met l yX4_init w_X4_init ({ frames := 1, cells := 1, slots := 131072, locals := 24 }) (zPre (dC, dI) aC [(h0, .inr (3, [.null, .int 0, .int 0]))] sz [.ref h0]) (va_Qv (fun (u : Unit) => True) (fun u zt => zB (dC, dI) [(h0, .inr (3, [.ref (sz + 0), .int 2048, .int 0])), (sz + 0, .inl (aC 0, 131072, .inl (fun _ => 0)))] (va_A [(h0, .inr (3, [.null, .int 0, .int 0]))] sz) (sz + 1) zt) (va_A [(h0, .inr (3, [.null, .int 0, .int 0]))] sz)) 1 131072 (va_A [(h0, .inr (3, [.null, .int 0, .int 0]))] sz) := by
  refine Met.ofW (cc := cX4_init) (maxL := 1) (ret := none) (by decide) rfl ?_
  intro p e s m args below meth c s₁ B hml hv
  generalize hQ : MQ below _ _ s _ _ _ = QQ
  obtain ⟨rfl, hsz, hP, hK, hD0⟩ := hv
  have hx := B.exec
  have hb := B.bytes
  have hr := B.returns
  have hts := atoms_spec (ws := w_X4_init) B.pre
  have hall := fun (w : Cond) (h : w ∈ zAll) => hts w (List.mem_cons_of_mem _ h)
  have hown : s.vm.findClass RX4 = some m.cls := findClass_of_methodNamed B.named
  have hlocks := B.notSynchronized
  have hin : meth.name = "<init>" := (name_of_methodNamed B.named B.method).1
  subst hsz
  have hD := hD0.self (sz := s.heap.size)
  generalize hAe : va_A [(h0, .inr (3, [.null, .int 0, .int 0]))] s.heap.size = A at hD ⊢
  have hA : ∀ q : Nat, s.heap.size ≤ q → A q := fun q h => by rw [← hAe]; exact Or.inr h
  have hS : va_S A s.heap s.heap [] := va_S.rf
  have hz0 : s.heap.size = s.heap.size + 0 := rfl
  have hl := lv_entry ([.ref h0]) (n := 1) (Nat.le_of_ble_eq_true rfl)
  rw [lg_entry_eq]
  generalize (lg_sl ([.ref h0]) ++ List.replicate (1 - (lg_sl ([.ref h0])).length) Slot.unset).toArray = ls at hl ⊢
  have hl : lv_has ls 1 [(0, .ref h0)] := hl
  refine lv_aload_n hx hb dX4_init_0 rfl (lv_at hl 0 rfl) ?_
  refine W.objInit hx hb hown (hall _ zw_17) (hall _ zw_2) (hall _ zw_3) rfl (hl.1.trans hml.symm) rfl dX4_init_1 (Nat.le_of_ble_eq_true rfl) (Nat.le_of_ble_eq_true rfl) ?_
  refine lv_aload_n hx hb dX4_init_4 rfl (lv_at hl 0 rfl) ?_
  refine lv_ldc hx hb hown (hall _ zw_18) dX4_init_5 ?_
  refine znewa (atype := .int) (ty := .int) (cA := aC 0) (N' := 131072) (a0 := (131072, .inl (fun _ => 0))) hx hb (hall _ zw_4) rfl hK.1 hP hD hS hA 0 rfl (fun h => h) rfl (by decide) (by decide) (Nat.le_of_ble_eq_true rfl) (Nat.le_of_ble_eq_true rfl) (Nat.le_of_ble_eq_true rfl) dX4_init_7 (fun q21 H22 eq21 hz hB hP' hD' hS' => ?_)
  obtain rfl : q21 = s.heap.size + 0 := eq21.trans hz0
  clear eq21
  replace hz0 : H22.size = s.heap.size + 1 := by omega
  clear hz
  clear hP hD hS hB
  have hP : va_P (dC, dI) vwCl [(h0, .inr (3, [.null, .int 0, .int 0])), (s.heap.size + 0, .inl (aC 0, 131072, .inl (fun _ => 0)))] H22 := hP'
  have hD : va_D A [(h0, .inr (3, [.null, .int 0, .int 0])), (s.heap.size + 0, .inl (aC 0, 131072, .inl (fun _ => 0)))] := hD'
  have hS : va_S A s.heap H22 [] := hS'
  clear hP' hD' hS'
  show W p l e _ s m _ below meth c _ _ _ _ QQ (F0 m 9 ls [.ref (s.heap.size + 0), .ref h0])
  refine zputF (D := (dC, dI)) (ci := 3) (v := .ref (s.heap.size + 0)) (ty := (.array .int)) (C := RX4) (T := TX4) (N := 3) hx hb hall zx_4 tyX4 tyX4_ok nmX4 hown hK.1 hP hD hS 0 rfl rfl 0 (by decide) (hall _ zw_19) (fun _ h9 => h9) rfl hin rfl (by decide +kernel) rfl rfl (Nat.le_of_ble_eq_true rfl) dX4_init_9 (fun H23 L24 hB hP' hD' hS' => ?_)
  replace hz0 : H23.size = s.heap.size + 1 := hB.1.trans hz0
  clear hP hD hS hB
  have hP : va_P (dC, dI) vwCl [(h0, .inr (3, [.ref (s.heap.size + 0), .int 0, .int 0])), (s.heap.size + 0, .inl (aC 0, 131072, .inl (fun _ => 0)))] H23 := hP'
  have hD : va_D A [(h0, .inr (3, [.ref (s.heap.size + 0), .int 0, .int 0])), (s.heap.size + 0, .inl (aC 0, 131072, .inl (fun _ => 0)))] := hD'
  have hS : va_S A s.heap H23 L24 := hS'
  clear hP' hD' hS'
  clear H22
  refine lv_aload_n hx hb dX4_init_12 rfl (lv_at hl 0 rfl) ?_
  refine lv_sipush (v := 2048) hx hb dX4_init_13 (by decide) ?_
  refine zput (D := (dC, dI)) (ci := 3) (v := .int 2048) (ty := .int) (C := RX4) (T := TX4) (N := 3) hx hb hall zx_4 tyX4 tyX4_ok nmX4 hown hK.1 hP hD hS 0 rfl rfl 1 (by decide) (hall _ zw_20) (fun _ h9 => h9) rfl (by decide +kernel) rfl rfl (Nat.le_of_ble_eq_true rfl) dX4_init_16 (fun H25 L26 hB hP' hD' hS' => ?_)
  replace hz0 : H25.size = s.heap.size + 1 := hB.1.trans hz0
  clear hP hD hS hB
  have hP : va_P (dC, dI) vwCl [(h0, .inr (3, [.ref (s.heap.size + 0), .int 2048, .int 0])), (s.heap.size + 0, .inl (aC 0, 131072, .inl (fun _ => 0)))] H25 := hP'
  have hD : va_D A [(h0, .inr (3, [.ref (s.heap.size + 0), .int 2048, .int 0])), (s.heap.size + 0, .inl (aC 0, 131072, .inl (fun _ => 0)))] := hD'
  have hS : va_S A s.heap H25 L26 := hS'
  clear hP' hD' hS'
  clear L24 H23
  refine lv_aload_n hx hb dX4_init_19 rfl (lv_at hl 0 rfl) ?_
  show W p l e _ s m _ below meth c _ _ _ _ QQ (F0 m 20 ls [.ref h0])
  refine lv_iconst (v := 0) hx hb dX4_init_20 (by decide) ?_
  refine zput (D := (dC, dI)) (ci := 3) (v := .int 0) (ty := .boolean) (C := RX4) (T := TX4) (N := 3) hx hb hall zx_4 tyX4 tyX4_ok nmX4 hown hK.1 hP hD hS 0 rfl rfl 2 (by decide) (hall _ zw_21) (fun _ h9 => h9) rfl (by decide +kernel) rfl rfl (Nat.le_of_ble_eq_true rfl) dX4_init_21 (fun H27 L28 hB hP' hD' hS' => ?_)
  replace hz0 : H27.size = s.heap.size + 1 := hB.1.trans hz0
  clear hP hD hS hB
  have hP : va_P (dC, dI) vwCl [(h0, .inr (3, [.ref (s.heap.size + 0), .int 2048, .int 0])), (s.heap.size + 0, .inl (aC 0, 131072, .inl (fun _ => 0)))] H27 := hP'
  have hD : va_D A [(h0, .inr (3, [.ref (s.heap.size + 0), .int 2048, .int 0])), (s.heap.size + 0, .inl (aC 0, 131072, .inl (fun _ => 0)))] := hD'
  have hS : va_S A s.heap H27 L28 := hS'
  clear hP' hD' hS'
  clear L26 H25
  refine W.widen (k := 1) (n := 131072) (Nat.le_of_ble_eq_true rfl) (Nat.le_of_ble_eq_true rfl) ?_
  rw [← hQ, hAe]
  exact W.vret hx hb hr (fun zt ht hW => ⟨⟨(), rfl, trivial, by rw [ht]; exact hP, hD, by rw [ht]; exact hz0⟩, hS.F ht⟩) hS.2.2 dX4_init_24

set_option maxHeartbeats 4000000 in
set_option maxRecDepth 100000 in
theorem c_X2_init (l : Launch) (dC : Nat → ClassId) (dI : Nat → Nat → Nat) (aC : Nat → ClassId) (h0 : Nat) (r1 : Nat) (sz : Nat) : Met l yX2_init w_X2_init ({ frames := 1, cells := 0, slots := 0, locals := 24 }) (zPre (dC, dI) aC [(h0, .inr (1, [.null]))] sz [.ref h0, .ref r1]) (va_Qv (fun (u : Unit) => True) (fun u zt => zB (dC, dI) [(h0, .inr (1, [.ref r1]))] (va_A [(h0, .inr (1, [.null]))] sz) (sz + 0) zt) (va_A [(h0, .inr (1, [.null]))] sz)) 0 0 (va_A [(h0, .inr (1, [.null]))] sz) := by
  refine Met.ofW (cc := cX2_init) (maxL := 2) (ret := none) (by decide) rfl ?_
  intro p e s m args below meth c s₁ B hml hv
  generalize hQ : MQ below _ _ s _ _ _ = QQ
  obtain ⟨rfl, hsz, hP, hK, hD0⟩ := hv
  have hx := B.exec
  have hb := B.bytes
  have hr := B.returns
  have hts := atoms_spec (ws := w_X2_init) B.pre
  have hall := fun (w : Cond) (h : w ∈ zAll) => hts w (List.mem_cons_of_mem _ h)
  have hown : s.vm.findClass RX2 = some m.cls := findClass_of_methodNamed B.named
  have hlocks := B.notSynchronized
  have hin : meth.name = "<init>" := (name_of_methodNamed B.named B.method).1
  subst hsz
  have hD := hD0.self (sz := s.heap.size)
  generalize hAe : va_A [(h0, .inr (1, [.null]))] s.heap.size = A at hD ⊢
  have hA : ∀ q : Nat, s.heap.size ≤ q → A q := fun q h => by rw [← hAe]; exact Or.inr h
  have hS : va_S A s.heap s.heap [] := va_S.rf
  have hz0 : s.heap.size = s.heap.size + 0 := rfl
  have hl := lv_entry ([.ref h0, .ref r1]) (n := 2) (Nat.le_of_ble_eq_true rfl)
  rw [lg_entry_eq]
  generalize (lg_sl ([.ref h0, .ref r1]) ++ List.replicate (2 - (lg_sl ([.ref h0, .ref r1])).length) Slot.unset).toArray = ls at hl ⊢
  have hl : lv_has ls 2 [(0, .ref h0), (1, .ref r1)] := hl
  refine lv_aload_n hx hb dX2_init_0 rfl (lv_at hl 0 rfl) ?_
  refine W.objInit hx hb hown (hall _ zw_23) (hall _ zw_2) (hall _ zw_3) rfl (hl.1.trans hml.symm) rfl dX2_init_1 (Nat.le_of_ble_eq_true rfl) (Nat.le_of_ble_eq_true rfl) ?_
  refine lv_aload_n hx hb dX2_init_4 rfl (lv_at hl 0 rfl) ?_
  refine lv_aload_n hx hb dX2_init_5 rfl (lv_at hl 1 rfl) ?_
  refine zputF (D := (dC, dI)) (ci := 1) (v := .ref r1) (ty := (.object "SumHouse$Room")) (C := RX2) (T := TX2) (N := 1) hx hb hall zx_2 tyX2 tyX2_ok nmX2 hown hK.1 hP hD hS 0 rfl rfl 0 (by decide) (hall _ zw_24) (fun _ h9 => h9) rfl hin rfl (by decide +kernel) rfl rfl (Nat.le_of_ble_eq_true rfl) dX2_init_6 (fun H29 L30 hB hP' hD' hS' => ?_)
  replace hz0 : H29.size = s.heap.size + 0 := hB.1.trans hz0
  clear hP hD hS hB
  have hP : va_P (dC, dI) vwCl [(h0, .inr (1, [.ref r1]))] H29 := hP'
  have hD : va_D A [(h0, .inr (1, [.ref r1]))] := hD'
  have hS : va_S A s.heap H29 L30 := hS'
  clear hP' hD' hS'
  refine W.widen (k := 0) (n := 0) (Nat.le_of_ble_eq_true rfl) (Nat.le_of_ble_eq_true rfl) ?_
  rw [← hQ, hAe]
  exact W.vret hx hb hr (fun zt ht hW => ⟨⟨(), rfl, trivial, by rw [ht]; exact hP, hD, by rw [ht]; exact hz0⟩, hS.F ht⟩) hS.2.2 dX2_init_9

set_option maxHeartbeats 4000000 in
set_option maxRecDepth 100000 in
theorem c_X0_init (l : Launch) (dC : Nat → ClassId) (dI : Nat → Nat → Nat) (aC : Nat → ClassId) (h0 : Nat) (r1 : Nat) (r2 : Nat) (sz : Nat) : Met l yX0_init w_X0_init ({ frames := 1, cells := 3, slots := 216, locals := 24 }) (zPre (dC, dI) aC [(h0, .inr (0, [.null, .null, .null, .null, .null]))] sz [.ref h0, .ref r1, .ref r2]) (va_Qv (fun (u : Unit) => True) (fun u zt => zB (dC, dI) [(h0, .inr (0, [.ref r1, .ref r2, .ref (sz + 0), .ref (sz + 1), .ref (sz + 2)])), (sz + 0, .inl (aC 0, 96, .inl (fun _ => 0))), (sz + 1, .inl (aC 0, 96, .inl (fun _ => 0))), (sz + 2, .inl (aC 0, 24, .inl (fun _ => 0)))] (va_A [(h0, .inr (0, [.null, .null, .null, .null, .null]))] sz) (sz + 3) zt) (va_A [(h0, .inr (0, [.null, .null, .null, .null, .null]))] sz)) 3 216 (va_A [(h0, .inr (0, [.null, .null, .null, .null, .null]))] sz) := by
  refine Met.ofW (cc := cX0_init) (maxL := 3) (ret := none) (by decide) rfl ?_
  intro p e s m args below meth c s₁ B hml hv
  generalize hQ : MQ below _ _ s _ _ _ = QQ
  obtain ⟨rfl, hsz, hP, hK, hD0⟩ := hv
  have hx := B.exec
  have hb := B.bytes
  have hr := B.returns
  have hts := atoms_spec (ws := w_X0_init) B.pre
  have hall := fun (w : Cond) (h : w ∈ zAll) => hts w (List.mem_cons_of_mem _ h)
  have hown : s.vm.findClass RX0 = some m.cls := findClass_of_methodNamed B.named
  have hlocks := B.notSynchronized
  have hin : meth.name = "<init>" := (name_of_methodNamed B.named B.method).1
  subst hsz
  have hD := hD0.self (sz := s.heap.size)
  generalize hAe : va_A [(h0, .inr (0, [.null, .null, .null, .null, .null]))] s.heap.size = A at hD ⊢
  have hA : ∀ q : Nat, s.heap.size ≤ q → A q := fun q h => by rw [← hAe]; exact Or.inr h
  have hS : va_S A s.heap s.heap [] := va_S.rf
  have hz0 : s.heap.size = s.heap.size + 0 := rfl
  have hl := lv_entry ([.ref h0, .ref r1, .ref r2]) (n := 3) (Nat.le_of_ble_eq_true rfl)
  rw [lg_entry_eq]
  generalize (lg_sl ([.ref h0, .ref r1, .ref r2]) ++ List.replicate (3 - (lg_sl ([.ref h0, .ref r1, .ref r2])).length) Slot.unset).toArray = ls at hl ⊢
  have hl : lv_has ls 3 [(0, .ref h0), (1, .ref r1), (2, .ref r2)] := hl
  refine lv_aload_n hx hb dX0_init_0 rfl (lv_at hl 0 rfl) ?_
  refine W.objInit hx hb hown (hall _ zw_52) (hall _ zw_2) (hall _ zw_3) rfl (hl.1.trans hml.symm) rfl dX0_init_1 (Nat.le_of_ble_eq_true rfl) (Nat.le_of_ble_eq_true rfl) ?_
  refine lv_aload_n hx hb dX0_init_4 rfl (lv_at hl 0 rfl) ?_
  refine lv_aload_n hx hb dX0_init_5 rfl (lv_at hl 1 rfl) ?_
  refine zputF (D := (dC, dI)) (ci := 0) (v := .ref r1) (ty := (.object "SumHouse$Room")) (C := RX0) (T := TX0) (N := 5) hx hb hall zx_0 tyX0 tyX0_ok nmX0 hown hK.1 hP hD hS 0 rfl rfl 0 (by decide) (hall _ zw_53) (fun _ h9 => h9) rfl hin rfl (by decide +kernel) rfl rfl (Nat.le_of_ble_eq_true rfl) dX0_init_6 (fun H31 L32 hB hP' hD' hS' => ?_)
  replace hz0 : H31.size = s.heap.size + 0 := hB.1.trans hz0
  clear hP hD hS hB
  have hP : va_P (dC, dI) vwCl [(h0, .inr (0, [.ref r1, .null, .null, .null, .null]))] H31 := hP'
  have hD : va_D A [(h0, .inr (0, [.ref r1, .null, .null, .null, .null]))] := hD'
  have hS : va_S A s.heap H31 L32 := hS'
  clear hP' hD' hS'
  show W p l e _ s m _ below meth c _ _ _ _ QQ (F0 m 9 ls [])
  refine lv_aload_n hx hb dX0_init_9 rfl (lv_at hl 0 rfl) ?_
  refine lv_aload_n hx hb dX0_init_10 rfl (lv_at hl 2 rfl) ?_
  refine zputF (D := (dC, dI)) (ci := 0) (v := .ref r2) (ty := (.object "SumHouse$Planes")) (C := RX0) (T := TX0) (N := 5) hx hb hall zx_0 tyX0 tyX0_ok nmX0 hown hK.1 hP hD hS 0 rfl rfl 1 (by decide) (hall _ zw_54) (fun _ h9 => h9) rfl hin rfl (by decide +kernel) rfl rfl (Nat.le_of_ble_eq_true rfl) dX0_init_11 (fun H33 L34 hB hP' hD' hS' => ?_)
  replace hz0 : H33.size = s.heap.size + 0 := hB.1.trans hz0
  clear hP hD hS hB
  have hP : va_P (dC, dI) vwCl [(h0, .inr (0, [.ref r1, .ref r2, .null, .null, .null]))] H33 := hP'
  have hD : va_D A [(h0, .inr (0, [.ref r1, .ref r2, .null, .null, .null]))] := hD'
  have hS : va_S A s.heap H33 L34 := hS'
  clear hP' hD' hS'
  clear L32 H31
  refine lv_aload_n hx hb dX0_init_14 rfl (lv_at hl 0 rfl) ?_
  refine lv_bipush (v := 96) hx hb dX0_init_15 (by decide) ?_
  show W p l e _ s m _ below meth c _ _ _ _ QQ (F0 m 17 ls [.int 96, .ref h0])
  refine znewa (atype := .int) (ty := .int) (cA := aC 0) (N' := 96) (a0 := (96, .inl (fun _ => 0))) hx hb (hall _ zw_4) rfl hK.1 hP hD hS hA 0 rfl (fun h => h) rfl (by decide) (by decide) (Nat.le_of_ble_eq_true rfl) (Nat.le_of_ble_eq_true rfl) (Nat.le_of_ble_eq_true rfl) dX0_init_17 (fun q35 H36 eq35 hz hB hP' hD' hS' => ?_)
  obtain rfl : q35 = s.heap.size + 0 := eq35.trans hz0
  clear eq35
  replace hz0 : H36.size = s.heap.size + 1 := by omega
  clear hz
  clear hP hD hS hB
  have hP : va_P (dC, dI) vwCl [(h0, .inr (0, [.ref r1, .ref r2, .null, .null, .null])), (s.heap.size + 0, .inl (aC 0, 96, .inl (fun _ => 0)))] H36 := hP'
  have hD : va_D A [(h0, .inr (0, [.ref r1, .ref r2, .null, .null, .null])), (s.heap.size + 0, .inl (aC 0, 96, .inl (fun _ => 0)))] := hD'
  have hS : va_S A s.heap H36 L34 := hS'
  clear hP' hD' hS'
  clear H33
  refine zputF (D := (dC, dI)) (ci := 0) (v := .ref (s.heap.size + 0)) (ty := (.array .int)) (C := RX0) (T := TX0) (N := 5) hx hb hall zx_0 tyX0 tyX0_ok nmX0 hown hK.1 hP hD hS 0 rfl rfl 2 (by decide) (hall _ zw_55) (fun _ h9 => h9) rfl hin rfl (by decide +kernel) rfl rfl (Nat.le_of_ble_eq_true rfl) dX0_init_19 (fun H37 L38 hB hP' hD' hS' => ?_)
  replace hz0 : H37.size = s.heap.size + 1 := hB.1.trans hz0
  clear hP hD hS hB
  have hP : va_P (dC, dI) vwCl [(h0, .inr (0, [.ref r1, .ref r2, .ref (s.heap.size + 0), .null, .null])), (s.heap.size + 0, .inl (aC 0, 96, .inl (fun _ => 0)))] H37 := hP'
  have hD : va_D A [(h0, .inr (0, [.ref r1, .ref r2, .ref (s.heap.size + 0), .null, .null])), (s.heap.size + 0, .inl (aC 0, 96, .inl (fun _ => 0)))] := hD'
  have hS : va_S A s.heap H37 L38 := hS'
  clear hP' hD' hS'
  clear L34 H36
  refine lv_aload_n hx hb dX0_init_22 rfl (lv_at hl 0 rfl) ?_
  refine lv_bipush (v := 96) hx hb dX0_init_23 (by decide) ?_
  refine znewa (atype := .int) (ty := .int) (cA := aC 0) (N' := 96) (a0 := (96, .inl (fun _ => 0))) hx hb (hall _ zw_4) rfl hK.1 hP hD hS hA 0 rfl (fun h => h) rfl (by decide) (by decide) (Nat.le_of_ble_eq_true rfl) (Nat.le_of_ble_eq_true rfl) (Nat.le_of_ble_eq_true rfl) dX0_init_25 (fun q39 H40 eq39 hz hB hP' hD' hS' => ?_)
  obtain rfl : q39 = s.heap.size + 1 := eq39.trans hz0
  clear eq39
  replace hz0 : H40.size = s.heap.size + 2 := by omega
  clear hz
  clear hP hD hS hB
  have hP : va_P (dC, dI) vwCl [(h0, .inr (0, [.ref r1, .ref r2, .ref (s.heap.size + 0), .null, .null])), (s.heap.size + 0, .inl (aC 0, 96, .inl (fun _ => 0))), (s.heap.size + 1, .inl (aC 0, 96, .inl (fun _ => 0)))] H40 := hP'
  have hD : va_D A [(h0, .inr (0, [.ref r1, .ref r2, .ref (s.heap.size + 0), .null, .null])), (s.heap.size + 0, .inl (aC 0, 96, .inl (fun _ => 0))), (s.heap.size + 1, .inl (aC 0, 96, .inl (fun _ => 0)))] := hD'
  have hS : va_S A s.heap H40 L38 := hS'
  clear hP' hD' hS'
  clear H37
  show W p l e _ s m _ below meth c _ _ _ _ QQ (F0 m 27 ls [.ref (s.heap.size + 1), .ref h0])
  refine zputF (D := (dC, dI)) (ci := 0) (v := .ref (s.heap.size + 1)) (ty := (.array .int)) (C := RX0) (T := TX0) (N := 5) hx hb hall zx_0 tyX0 tyX0_ok nmX0 hown hK.1 hP hD hS 0 rfl rfl 3 (by decide) (hall _ zw_56) (fun _ h9 => h9) rfl hin rfl (by decide +kernel) rfl rfl (Nat.le_of_ble_eq_true rfl) dX0_init_27 (fun H41 L42 hB hP' hD' hS' => ?_)
  replace hz0 : H41.size = s.heap.size + 2 := hB.1.trans hz0
  clear hP hD hS hB
  have hP : va_P (dC, dI) vwCl [(h0, .inr (0, [.ref r1, .ref r2, .ref (s.heap.size + 0), .ref (s.heap.size + 1), .null])), (s.heap.size + 0, .inl (aC 0, 96, .inl (fun _ => 0))), (s.heap.size + 1, .inl (aC 0, 96, .inl (fun _ => 0)))] H41 := hP'
  have hD : va_D A [(h0, .inr (0, [.ref r1, .ref r2, .ref (s.heap.size + 0), .ref (s.heap.size + 1), .null])), (s.heap.size + 0, .inl (aC 0, 96, .inl (fun _ => 0))), (s.heap.size + 1, .inl (aC 0, 96, .inl (fun _ => 0)))] := hD'
  have hS : va_S A s.heap H41 L42 := hS'
  clear hP' hD' hS'
  clear L38 H40
  refine lv_aload_n hx hb dX0_init_30 rfl (lv_at hl 0 rfl) ?_
  refine lv_bipush (v := 24) hx hb dX0_init_31 (by decide) ?_
  refine znewa (atype := .int) (ty := .int) (cA := aC 0) (N' := 24) (a0 := (24, .inl (fun _ => 0))) hx hb (hall _ zw_4) rfl hK.1 hP hD hS hA 0 rfl (fun h => h) rfl (by decide) (by decide) (Nat.le_of_ble_eq_true rfl) (Nat.le_of_ble_eq_true rfl) (Nat.le_of_ble_eq_true rfl) dX0_init_33 (fun q43 H44 eq43 hz hB hP' hD' hS' => ?_)
  obtain rfl : q43 = s.heap.size + 2 := eq43.trans hz0
  clear eq43
  replace hz0 : H44.size = s.heap.size + 3 := by omega
  clear hz
  clear hP hD hS hB
  have hP : va_P (dC, dI) vwCl [(h0, .inr (0, [.ref r1, .ref r2, .ref (s.heap.size + 0), .ref (s.heap.size + 1), .null])), (s.heap.size + 0, .inl (aC 0, 96, .inl (fun _ => 0))), (s.heap.size + 1, .inl (aC 0, 96, .inl (fun _ => 0))), (s.heap.size + 2, .inl (aC 0, 24, .inl (fun _ => 0)))] H44 := hP'
  have hD : va_D A [(h0, .inr (0, [.ref r1, .ref r2, .ref (s.heap.size + 0), .ref (s.heap.size + 1), .null])), (s.heap.size + 0, .inl (aC 0, 96, .inl (fun _ => 0))), (s.heap.size + 1, .inl (aC 0, 96, .inl (fun _ => 0))), (s.heap.size + 2, .inl (aC 0, 24, .inl (fun _ => 0)))] := hD'
  have hS : va_S A s.heap H44 L42 := hS'
  clear hP' hD' hS'
  clear H41
  refine zputF (D := (dC, dI)) (ci := 0) (v := .ref (s.heap.size + 2)) (ty := (.array .int)) (C := RX0) (T := TX0) (N := 5) hx hb hall zx_0 tyX0 tyX0_ok nmX0 hown hK.1 hP hD hS 0 rfl rfl 4 (by decide) (hall _ zw_57) (fun _ h9 => h9) rfl hin rfl (by decide +kernel) rfl rfl (Nat.le_of_ble_eq_true rfl) dX0_init_35 (fun H45 L46 hB hP' hD' hS' => ?_)
  replace hz0 : H45.size = s.heap.size + 3 := hB.1.trans hz0
  clear hP hD hS hB
  have hP : va_P (dC, dI) vwCl [(h0, .inr (0, [.ref r1, .ref r2, .ref (s.heap.size + 0), .ref (s.heap.size + 1), .ref (s.heap.size + 2)])), (s.heap.size + 0, .inl (aC 0, 96, .inl (fun _ => 0))), (s.heap.size + 1, .inl (aC 0, 96, .inl (fun _ => 0))), (s.heap.size + 2, .inl (aC 0, 24, .inl (fun _ => 0)))] H45 := hP'
  have hD : va_D A [(h0, .inr (0, [.ref r1, .ref r2, .ref (s.heap.size + 0), .ref (s.heap.size + 1), .ref (s.heap.size + 2)])), (s.heap.size + 0, .inl (aC 0, 96, .inl (fun _ => 0))), (s.heap.size + 1, .inl (aC 0, 96, .inl (fun _ => 0))), (s.heap.size + 2, .inl (aC 0, 24, .inl (fun _ => 0)))] := hD'
  have hS : va_S A s.heap H45 L46 := hS'
  clear hP' hD' hS'
  clear L42 H44
  refine W.widen (k := 3) (n := 216) (Nat.le_of_ble_eq_true rfl) (Nat.le_of_ble_eq_true rfl) ?_
  rw [← hQ, hAe]
  exact W.vret hx hb hr (fun zt ht hW => ⟨⟨(), rfl, trivial, by rw [ht]; exact hP, hD, by rw [ht]; exact hz0⟩, hS.F ht⟩) hS.2.2 dX0_init_38

set_option maxHeartbeats 4000000 in
set_option maxRecDepth 100000 in
theorem c_X3_init (l : Launch) (dC : Nat → ClassId) (dI : Nat → Nat → Nat) (aC : Nat → ClassId) (h0 : Nat) (r1 : Nat) (r2 : Nat) (r3 : Nat) (sz : Nat) : Met l yX3_init w_X3_init ({ frames := 1, cells := 0, slots := 0, locals := 24 }) (zPre (dC, dI) aC [(h0, .inr (2, [.null, .null, .null]))] sz [.ref h0, .ref r1, .ref r2, .ref r3]) (va_Qv (fun (u : Unit) => True) (fun u zt => zB (dC, dI) [(h0, .inr (2, [.ref r1, .ref r2, .ref r3]))] (va_A [(h0, .inr (2, [.null, .null, .null]))] sz) (sz + 0) zt) (va_A [(h0, .inr (2, [.null, .null, .null]))] sz)) 0 0 (va_A [(h0, .inr (2, [.null, .null, .null]))] sz) := by
  refine Met.ofW (cc := cX3_init) (maxL := 4) (ret := none) (by decide) rfl ?_
  intro p e s m args below meth c s₁ B hml hv
  generalize hQ : MQ below _ _ s _ _ _ = QQ
  obtain ⟨rfl, hsz, hP, hK, hD0⟩ := hv
  have hx := B.exec
  have hb := B.bytes
  have hr := B.returns
  have hts := atoms_spec (ws := w_X3_init) B.pre
  have hall := fun (w : Cond) (h : w ∈ zAll) => hts w (List.mem_cons_of_mem _ h)
  have hown : s.vm.findClass RX3 = some m.cls := findClass_of_methodNamed B.named
  have hlocks := B.notSynchronized
  have hin : meth.name = "<init>" := (name_of_methodNamed B.named B.method).1
  subst hsz
  have hD := hD0.self (sz := s.heap.size)
  generalize hAe : va_A [(h0, .inr (2, [.null, .null, .null]))] s.heap.size = A at hD ⊢
  have hA : ∀ q : Nat, s.heap.size ≤ q → A q := fun q h => by rw [← hAe]; exact Or.inr h
  have hS : va_S A s.heap s.heap [] := va_S.rf
  have hz0 : s.heap.size = s.heap.size + 0 := rfl
  have hl := lv_entry ([.ref h0, .ref r1, .ref r2, .ref r3]) (n := 4) (Nat.le_of_ble_eq_true rfl)
  rw [lg_entry_eq]
  generalize (lg_sl ([.ref h0, .ref r1, .ref r2, .ref r3]) ++ List.replicate (4 - (lg_sl ([.ref h0, .ref r1, .ref r2, .ref r3])).length) Slot.unset).toArray = ls at hl ⊢
  have hl : lv_has ls 4 [(0, .ref h0), (1, .ref r1), (2, .ref r2), (3, .ref r3)] := hl
  refine lv_aload_n hx hb dX3_init_0 rfl (lv_at hl 0 rfl) ?_
  refine W.objInit hx hb hown (hall _ zw_44) (hall _ zw_2) (hall _ zw_3) rfl (hl.1.trans hml.symm) rfl dX3_init_1 (Nat.le_of_ble_eq_true rfl) (Nat.le_of_ble_eq_true rfl) ?_
  refine lv_aload_n hx hb dX3_init_4 rfl (lv_at hl 0 rfl) ?_
  refine lv_aload_n hx hb dX3_init_5 rfl (lv_at hl 1 rfl) ?_
  refine zputF (D := (dC, dI)) (ci := 2) (v := .ref r1) (ty := (.object "SumHouse$Room")) (C := RX3) (T := TX3) (N := 3) hx hb hall zx_3 tyX3 tyX3_ok nmX3 hown hK.1 hP hD hS 0 rfl rfl 0 (by decide) (hall _ zw_45) (fun _ h9 => h9) rfl hin rfl (by decide +kernel) rfl rfl (Nat.le_of_ble_eq_true rfl) dX3_init_6 (fun H47 L48 hB hP' hD' hS' => ?_)
  replace hz0 : H47.size = s.heap.size + 0 := hB.1.trans hz0
  clear hP hD hS hB
  have hP : va_P (dC, dI) vwCl [(h0, .inr (2, [.ref r1, .null, .null]))] H47 := hP'
  have hD : va_D A [(h0, .inr (2, [.ref r1, .null, .null]))] := hD'
  have hS : va_S A s.heap H47 L48 := hS'
  clear hP' hD' hS'
  show W p l e _ s m _ below meth c _ _ _ _ QQ (F0 m 9 ls [])
  refine lv_aload_n hx hb dX3_init_9 rfl (lv_at hl 0 rfl) ?_
  refine lv_aload_n hx hb dX3_init_10 rfl (lv_at hl 2 rfl) ?_
  refine zputF (D := (dC, dI)) (ci := 2) (v := .ref r2) (ty := (.object "SumHouse$Planes")) (C := RX3) (T := TX3) (N := 3) hx hb hall zx_3 tyX3 tyX3_ok nmX3 hown hK.1 hP hD hS 0 rfl rfl 1 (by decide) (hall _ zw_46) (fun _ h9 => h9) rfl hin rfl (by decide +kernel) rfl rfl (Nat.le_of_ble_eq_true rfl) dX3_init_11 (fun H49 L50 hB hP' hD' hS' => ?_)
  replace hz0 : H49.size = s.heap.size + 0 := hB.1.trans hz0
  clear hP hD hS hB
  have hP : va_P (dC, dI) vwCl [(h0, .inr (2, [.ref r1, .ref r2, .null]))] H49 := hP'
  have hD : va_D A [(h0, .inr (2, [.ref r1, .ref r2, .null]))] := hD'
  have hS : va_S A s.heap H49 L50 := hS'
  clear hP' hD' hS'
  clear L48 H47
  refine lv_aload_n hx hb dX3_init_14 rfl (lv_at hl 0 rfl) ?_
  refine lv_aload_n hx hb dX3_init_15 rfl (lv_at hl 3 rfl) ?_
  show W p l e _ s m _ below meth c _ _ _ _ QQ (F0 m 16 ls [.ref r3, .ref h0])
  refine zputF (D := (dC, dI)) (ci := 2) (v := .ref r3) (ty := (.object "SumHouse$Divisors")) (C := RX3) (T := TX3) (N := 3) hx hb hall zx_3 tyX3 tyX3_ok nmX3 hown hK.1 hP hD hS 0 rfl rfl 2 (by decide) (hall _ zw_47) (fun _ h9 => h9) rfl hin rfl (by decide +kernel) rfl rfl (Nat.le_of_ble_eq_true rfl) dX3_init_16 (fun H51 L52 hB hP' hD' hS' => ?_)
  replace hz0 : H51.size = s.heap.size + 0 := hB.1.trans hz0
  clear hP hD hS hB
  have hP : va_P (dC, dI) vwCl [(h0, .inr (2, [.ref r1, .ref r2, .ref r3]))] H51 := hP'
  have hD : va_D A [(h0, .inr (2, [.ref r1, .ref r2, .ref r3]))] := hD'
  have hS : va_S A s.heap H51 L52 := hS'
  clear hP' hD' hS'
  clear L50 H49
  refine W.widen (k := 0) (n := 0) (Nat.le_of_ble_eq_true rfl) (Nat.le_of_ble_eq_true rfl) ?_
  rw [← hQ, hAe]
  exact W.vret hx hb hr (fun zt ht hW => ⟨⟨(), rfl, trivial, by rw [ht]; exact hP, hD, by rw [ht]; exact hz0⟩, hS.F ht⟩) hS.2.2 dX3_init_19

set_option maxHeartbeats 4000000 in
set_option maxRecDepth 100000 in
theorem c_X7_init (l : Launch) (dC : Nat → ClassId) (dI : Nat → Nat → Nat) (aC : Nat → ClassId) (h0 : Nat) (r1 : Nat) (sz : Nat) : Met l yX7_init w_X7_init ({ frames := 1, cells := 3, slots := 2866, locals := 24 }) (zPre (dC, dI) aC [(h0, .inr (6, [.null, .null, .null, .null, .int 0, .int 0, .int 0, .int 0, .int 0, .int 0, .int 0, .int 0, .int 0, .int 0]))] sz [.ref h0, .ref r1]) (va_Qv (fun (u : Unit) => True) (fun u zt => zB (dC, dI) [(h0, .inr (6, [.ref r1, .ref (sz + 0), .ref (sz + 1), .ref (sz + 2), .int 0, .int 0, .int 0, .int 0, .int 0, .int 0, .int 0, .int 0, .int 0, .int 0])), (sz + 0, .inl (aC 0, 2760, .inl (fun _ => 0))), (sz + 1, .inl (aC 0, 60, .inl (fun _ => 0))), (sz + 2, .inl (aC 0, 46, .inl (fun _ => 0)))] (va_A [(h0, .inr (6, [.null, .null, .null, .null, .int 0, .int 0, .int 0, .int 0, .int 0, .int 0, .int 0, .int 0, .int 0, .int 0]))] sz) (sz + 3) zt) (va_A [(h0, .inr (6, [.null, .null, .null, .null, .int 0, .int 0, .int 0, .int 0, .int 0, .int 0, .int 0, .int 0, .int 0, .int 0]))] sz)) 3 2866 (va_A [(h0, .inr (6, [.null, .null, .null, .null, .int 0, .int 0, .int 0, .int 0, .int 0, .int 0, .int 0, .int 0, .int 0, .int 0]))] sz) := by
  refine Met.ofW (cc := cX7_init) (maxL := 2) (ret := none) (by decide) rfl ?_
  intro p e s m args below meth c s₁ B hml hv
  generalize hQ : MQ below _ _ s _ _ _ = QQ
  obtain ⟨rfl, hsz, hP, hK, hD0⟩ := hv
  have hx := B.exec
  have hb := B.bytes
  have hr := B.returns
  have hts := atoms_spec (ws := w_X7_init) B.pre
  have hall := fun (w : Cond) (h : w ∈ zAll) => hts w (List.mem_cons_of_mem _ h)
  have hown : s.vm.findClass RX7 = some m.cls := findClass_of_methodNamed B.named
  have hlocks := B.notSynchronized
  have hin : meth.name = "<init>" := (name_of_methodNamed B.named B.method).1
  subst hsz
  have hD := hD0.self (sz := s.heap.size)
  generalize hAe : va_A [(h0, .inr (6, [.null, .null, .null, .null, .int 0, .int 0, .int 0, .int 0, .int 0, .int 0, .int 0, .int 0, .int 0, .int 0]))] s.heap.size = A at hD ⊢
  have hA : ∀ q : Nat, s.heap.size ≤ q → A q := fun q h => by rw [← hAe]; exact Or.inr h
  have hS : va_S A s.heap s.heap [] := va_S.rf
  have hz0 : s.heap.size = s.heap.size + 0 := rfl
  have hl := lv_entry ([.ref h0, .ref r1]) (n := 2) (Nat.le_of_ble_eq_true rfl)
  rw [lg_entry_eq]
  generalize (lg_sl ([.ref h0, .ref r1]) ++ List.replicate (2 - (lg_sl ([.ref h0, .ref r1])).length) Slot.unset).toArray = ls at hl ⊢
  have hl : lv_has ls 2 [(0, .ref h0), (1, .ref r1)] := hl
  refine lv_aload_n hx hb dX7_init_0 rfl (lv_at hl 0 rfl) ?_
  refine W.objInit hx hb hown (hall _ zw_72) (hall _ zw_2) (hall _ zw_3) rfl (hl.1.trans hml.symm) rfl dX7_init_1 (Nat.le_of_ble_eq_true rfl) (Nat.le_of_ble_eq_true rfl) ?_
  refine lv_aload_n hx hb dX7_init_4 rfl (lv_at hl 0 rfl) ?_
  refine lv_aload_n hx hb dX7_init_5 rfl (lv_at hl 1 rfl) ?_
  refine zputF (D := (dC, dI)) (ci := 6) (v := .ref r1) (ty := (.object "SumHouse$Room")) (C := RX7) (T := TX7) (N := 14) hx hb hall zx_7 tyX7 tyX7_ok nmX7 hown hK.1 hP hD hS 0 rfl rfl 0 (by decide) (hall _ zw_73) (fun _ h9 => h9) rfl hin rfl (by decide +kernel) rfl rfl (Nat.le_of_ble_eq_true rfl) dX7_init_6 (fun H53 L54 hB hP' hD' hS' => ?_)
  replace hz0 : H53.size = s.heap.size + 0 := hB.1.trans hz0
  clear hP hD hS hB
  have hP : va_P (dC, dI) vwCl [(h0, .inr (6, [.ref r1, .null, .null, .null, .int 0, .int 0, .int 0, .int 0, .int 0, .int 0, .int 0, .int 0, .int 0, .int 0]))] H53 := hP'
  have hD : va_D A [(h0, .inr (6, [.ref r1, .null, .null, .null, .int 0, .int 0, .int 0, .int 0, .int 0, .int 0, .int 0, .int 0, .int 0, .int 0]))] := hD'
  have hS : va_S A s.heap H53 L54 := hS'
  clear hP' hD' hS'
  show W p l e _ s m _ below meth c _ _ _ _ QQ (F0 m 9 ls [])
  refine lv_aload_n hx hb dX7_init_9 rfl (lv_at hl 0 rfl) ?_
  refine lv_sipush (v := 2760) hx hb dX7_init_10 (by decide) ?_
  refine znewa (atype := .int) (ty := .int) (cA := aC 0) (N' := 2760) (a0 := (2760, .inl (fun _ => 0))) hx hb (hall _ zw_4) rfl hK.1 hP hD hS hA 0 rfl (fun h => h) rfl (by decide) (by decide) (Nat.le_of_ble_eq_true rfl) (Nat.le_of_ble_eq_true rfl) (Nat.le_of_ble_eq_true rfl) dX7_init_13 (fun q55 H56 eq55 hz hB hP' hD' hS' => ?_)
  obtain rfl : q55 = s.heap.size + 0 := eq55.trans hz0
  clear eq55
  replace hz0 : H56.size = s.heap.size + 1 := by omega
  clear hz
  clear hP hD hS hB
  have hP : va_P (dC, dI) vwCl [(h0, .inr (6, [.ref r1, .null, .null, .null, .int 0, .int 0, .int 0, .int 0, .int 0, .int 0, .int 0, .int 0, .int 0, .int 0])), (s.heap.size + 0, .inl (aC 0, 2760, .inl (fun _ => 0)))] H56 := hP'
  have hD : va_D A [(h0, .inr (6, [.ref r1, .null, .null, .null, .int 0, .int 0, .int 0, .int 0, .int 0, .int 0, .int 0, .int 0, .int 0, .int 0])), (s.heap.size + 0, .inl (aC 0, 2760, .inl (fun _ => 0)))] := hD'
  have hS : va_S A s.heap H56 L54 := hS'
  clear hP' hD' hS'
  clear H53
  refine zputF (D := (dC, dI)) (ci := 6) (v := .ref (s.heap.size + 0)) (ty := (.array .int)) (C := RX7) (T := TX7) (N := 14) hx hb hall zx_7 tyX7 tyX7_ok nmX7 hown hK.1 hP hD hS 0 rfl rfl 1 (by decide) (hall _ zw_74) (fun _ h9 => h9) rfl hin rfl (by decide +kernel) rfl rfl (Nat.le_of_ble_eq_true rfl) dX7_init_15 (fun H57 L58 hB hP' hD' hS' => ?_)
  replace hz0 : H57.size = s.heap.size + 1 := hB.1.trans hz0
  clear hP hD hS hB
  have hP : va_P (dC, dI) vwCl [(h0, .inr (6, [.ref r1, .ref (s.heap.size + 0), .null, .null, .int 0, .int 0, .int 0, .int 0, .int 0, .int 0, .int 0, .int 0, .int 0, .int 0])), (s.heap.size + 0, .inl (aC 0, 2760, .inl (fun _ => 0)))] H57 := hP'
  have hD : va_D A [(h0, .inr (6, [.ref r1, .ref (s.heap.size + 0), .null, .null, .int 0, .int 0, .int 0, .int 0, .int 0, .int 0, .int 0, .int 0, .int 0, .int 0])), (s.heap.size + 0, .inl (aC 0, 2760, .inl (fun _ => 0)))] := hD'
  have hS : va_S A s.heap H57 L58 := hS'
  clear hP' hD' hS'
  clear L54 H56
  refine lv_aload_n hx hb dX7_init_18 rfl (lv_at hl 0 rfl) ?_
  show W p l e _ s m _ below meth c _ _ _ _ QQ (F0 m 19 ls [.ref h0])
  refine lv_bipush (v := 60) hx hb dX7_init_19 (by decide) ?_
  refine znewa (atype := .int) (ty := .int) (cA := aC 0) (N' := 60) (a0 := (60, .inl (fun _ => 0))) hx hb (hall _ zw_4) rfl hK.1 hP hD hS hA 0 rfl (fun h => h) rfl (by decide) (by decide) (Nat.le_of_ble_eq_true rfl) (Nat.le_of_ble_eq_true rfl) (Nat.le_of_ble_eq_true rfl) dX7_init_21 (fun q59 H60 eq59 hz hB hP' hD' hS' => ?_)
  obtain rfl : q59 = s.heap.size + 1 := eq59.trans hz0
  clear eq59
  replace hz0 : H60.size = s.heap.size + 2 := by omega
  clear hz
  clear hP hD hS hB
  have hP : va_P (dC, dI) vwCl [(h0, .inr (6, [.ref r1, .ref (s.heap.size + 0), .null, .null, .int 0, .int 0, .int 0, .int 0, .int 0, .int 0, .int 0, .int 0, .int 0, .int 0])), (s.heap.size + 0, .inl (aC 0, 2760, .inl (fun _ => 0))), (s.heap.size + 1, .inl (aC 0, 60, .inl (fun _ => 0)))] H60 := hP'
  have hD : va_D A [(h0, .inr (6, [.ref r1, .ref (s.heap.size + 0), .null, .null, .int 0, .int 0, .int 0, .int 0, .int 0, .int 0, .int 0, .int 0, .int 0, .int 0])), (s.heap.size + 0, .inl (aC 0, 2760, .inl (fun _ => 0))), (s.heap.size + 1, .inl (aC 0, 60, .inl (fun _ => 0)))] := hD'
  have hS : va_S A s.heap H60 L58 := hS'
  clear hP' hD' hS'
  clear H57
  refine zputF (D := (dC, dI)) (ci := 6) (v := .ref (s.heap.size + 1)) (ty := (.array .int)) (C := RX7) (T := TX7) (N := 14) hx hb hall zx_7 tyX7 tyX7_ok nmX7 hown hK.1 hP hD hS 0 rfl rfl 2 (by decide) (hall _ zw_75) (fun _ h9 => h9) rfl hin rfl (by decide +kernel) rfl rfl (Nat.le_of_ble_eq_true rfl) dX7_init_23 (fun H61 L62 hB hP' hD' hS' => ?_)
  replace hz0 : H61.size = s.heap.size + 2 := hB.1.trans hz0
  clear hP hD hS hB
  have hP : va_P (dC, dI) vwCl [(h0, .inr (6, [.ref r1, .ref (s.heap.size + 0), .ref (s.heap.size + 1), .null, .int 0, .int 0, .int 0, .int 0, .int 0, .int 0, .int 0, .int 0, .int 0, .int 0])), (s.heap.size + 0, .inl (aC 0, 2760, .inl (fun _ => 0))), (s.heap.size + 1, .inl (aC 0, 60, .inl (fun _ => 0)))] H61 := hP'
  have hD : va_D A [(h0, .inr (6, [.ref r1, .ref (s.heap.size + 0), .ref (s.heap.size + 1), .null, .int 0, .int 0, .int 0, .int 0, .int 0, .int 0, .int 0, .int 0, .int 0, .int 0])), (s.heap.size + 0, .inl (aC 0, 2760, .inl (fun _ => 0))), (s.heap.size + 1, .inl (aC 0, 60, .inl (fun _ => 0)))] := hD'
  have hS : va_S A s.heap H61 L62 := hS'
  clear hP' hD' hS'
  clear L58 H60
  refine lv_aload_n hx hb dX7_init_26 rfl (lv_at hl 0 rfl) ?_
  refine lv_bipush (v := 46) hx hb dX7_init_27 (by decide) ?_
  show W p l e _ s m _ below meth c _ _ _ _ QQ (F0 m 29 ls [.int 46, .ref h0])
  refine znewa (atype := .int) (ty := .int) (cA := aC 0) (N' := 46) (a0 := (46, .inl (fun _ => 0))) hx hb (hall _ zw_4) rfl hK.1 hP hD hS hA 0 rfl (fun h => h) rfl (by decide) (by decide) (Nat.le_of_ble_eq_true rfl) (Nat.le_of_ble_eq_true rfl) (Nat.le_of_ble_eq_true rfl) dX7_init_29 (fun q63 H64 eq63 hz hB hP' hD' hS' => ?_)
  obtain rfl : q63 = s.heap.size + 2 := eq63.trans hz0
  clear eq63
  replace hz0 : H64.size = s.heap.size + 3 := by omega
  clear hz
  clear hP hD hS hB
  have hP : va_P (dC, dI) vwCl [(h0, .inr (6, [.ref r1, .ref (s.heap.size + 0), .ref (s.heap.size + 1), .null, .int 0, .int 0, .int 0, .int 0, .int 0, .int 0, .int 0, .int 0, .int 0, .int 0])), (s.heap.size + 0, .inl (aC 0, 2760, .inl (fun _ => 0))), (s.heap.size + 1, .inl (aC 0, 60, .inl (fun _ => 0))), (s.heap.size + 2, .inl (aC 0, 46, .inl (fun _ => 0)))] H64 := hP'
  have hD : va_D A [(h0, .inr (6, [.ref r1, .ref (s.heap.size + 0), .ref (s.heap.size + 1), .null, .int 0, .int 0, .int 0, .int 0, .int 0, .int 0, .int 0, .int 0, .int 0, .int 0])), (s.heap.size + 0, .inl (aC 0, 2760, .inl (fun _ => 0))), (s.heap.size + 1, .inl (aC 0, 60, .inl (fun _ => 0))), (s.heap.size + 2, .inl (aC 0, 46, .inl (fun _ => 0)))] := hD'
  have hS : va_S A s.heap H64 L62 := hS'
  clear hP' hD' hS'
  clear H61
  refine zputF (D := (dC, dI)) (ci := 6) (v := .ref (s.heap.size + 2)) (ty := (.array .int)) (C := RX7) (T := TX7) (N := 14) hx hb hall zx_7 tyX7 tyX7_ok nmX7 hown hK.1 hP hD hS 0 rfl rfl 3 (by decide) (hall _ zw_76) (fun _ h9 => h9) rfl hin rfl (by decide +kernel) rfl rfl (Nat.le_of_ble_eq_true rfl) dX7_init_31 (fun H65 L66 hB hP' hD' hS' => ?_)
  replace hz0 : H65.size = s.heap.size + 3 := hB.1.trans hz0
  clear hP hD hS hB
  have hP : va_P (dC, dI) vwCl [(h0, .inr (6, [.ref r1, .ref (s.heap.size + 0), .ref (s.heap.size + 1), .ref (s.heap.size + 2), .int 0, .int 0, .int 0, .int 0, .int 0, .int 0, .int 0, .int 0, .int 0, .int 0])), (s.heap.size + 0, .inl (aC 0, 2760, .inl (fun _ => 0))), (s.heap.size + 1, .inl (aC 0, 60, .inl (fun _ => 0))), (s.heap.size + 2, .inl (aC 0, 46, .inl (fun _ => 0)))] H65 := hP'
  have hD : va_D A [(h0, .inr (6, [.ref r1, .ref (s.heap.size + 0), .ref (s.heap.size + 1), .ref (s.heap.size + 2), .int 0, .int 0, .int 0, .int 0, .int 0, .int 0, .int 0, .int 0, .int 0, .int 0])), (s.heap.size + 0, .inl (aC 0, 2760, .inl (fun _ => 0))), (s.heap.size + 1, .inl (aC 0, 60, .inl (fun _ => 0))), (s.heap.size + 2, .inl (aC 0, 46, .inl (fun _ => 0)))] := hD'
  have hS : va_S A s.heap H65 L66 := hS'
  clear hP' hD' hS'
  clear L62 H64
  refine W.widen (k := 3) (n := 2866) (Nat.le_of_ble_eq_true rfl) (Nat.le_of_ble_eq_true rfl) ?_
  rw [← hQ, hAe]
  exact W.vret hx hb hr (fun zt ht hW => ⟨⟨(), rfl, trivial, by rw [ht]; exact hP, hD, by rw [ht]; exact hz0⟩, hS.F ht⟩) hS.2.2 dX7_init_34

set_option maxHeartbeats 4000000 in
set_option maxRecDepth 100000 in
theorem c_X8_init (l : Launch) (dC : Nat → ClassId) (dI : Nat → Nat → Nat) (aC : Nat → ClassId) (h0 : Nat) (r1 : Nat) (r2 : Nat) (r3 : Nat) (r4 : Nat) (r5 : Nat) (r6 : Nat) (sz : Nat) : Met l yX8_init w_X8_init ({ frames := 1, cells := 4, slots := 16, locals := 24 }) (zPre (dC, dI) aC [(h0, .inr (7, [.null, .null, .null, .null, .null, .null, .int 0, .int 0, .int 0, .int 0, .int 0, .int 0, .int 0, .null, .null, .null, .null, .int 0]))] sz [.ref h0, .ref r1, .ref r2, .ref r3, .ref r4, .ref r5, .ref r6]) (va_Qv (fun (u : Unit) => True) (fun u zt => zB (dC, dI) [(h0, .inr (7, [.ref r1, .ref r2, .ref r3, .ref r4, .ref r5, .ref r6, .int 0, .int 0, .int 0, .int 0, .int 0, .int 0, .int 0, .ref (sz + 0), .ref (sz + 1), .ref (sz + 2), .ref (sz + 3), .int 0])), (sz + 0, .inl (aC 0, 4, .inl (fun _ => 0))), (sz + 1, .inl (aC 0, 4, .inl (fun _ => 0))), (sz + 2, .inl (aC 0, 4, .inl (fun _ => 0))), (sz + 3, .inl (aC 0, 4, .inl (fun _ => 0)))] (va_A [(h0, .inr (7, [.null, .null, .null, .null, .null, .null, .int 0, .int 0, .int 0, .int 0, .int 0, .int 0, .int 0, .null, .null, .null, .null, .int 0]))] sz) (sz + 4) zt) (va_A [(h0, .inr (7, [.null, .null, .null, .null, .null, .null, .int 0, .int 0, .int 0, .int 0, .int 0, .int 0, .int 0, .null, .null, .null, .null, .int 0]))] sz)) 4 16 (va_A [(h0, .inr (7, [.null, .null, .null, .null, .null, .null, .int 0, .int 0, .int 0, .int 0, .int 0, .int 0, .int 0, .null, .null, .null, .null, .int 0]))] sz) := by
  refine Met.ofW (cc := cX8_init) (maxL := 7) (ret := none) (by decide) rfl ?_
  intro p e s m args below meth c s₁ B hml hv
  generalize hQ : MQ below _ _ s _ _ _ = QQ
  obtain ⟨rfl, hsz, hP, hK, hD0⟩ := hv
  have hx := B.exec
  have hb := B.bytes
  have hr := B.returns
  have hts := atoms_spec (ws := w_X8_init) B.pre
  have hall := fun (w : Cond) (h : w ∈ zAll) => hts w (List.mem_cons_of_mem _ h)
  have hown : s.vm.findClass RX8 = some m.cls := findClass_of_methodNamed B.named
  have hlocks := B.notSynchronized
  have hin : meth.name = "<init>" := (name_of_methodNamed B.named B.method).1
  subst hsz
  have hD := hD0.self (sz := s.heap.size)
  generalize hAe : va_A [(h0, .inr (7, [.null, .null, .null, .null, .null, .null, .int 0, .int 0, .int 0, .int 0, .int 0, .int 0, .int 0, .null, .null, .null, .null, .int 0]))] s.heap.size = A at hD ⊢
  have hA : ∀ q : Nat, s.heap.size ≤ q → A q := fun q h => by rw [← hAe]; exact Or.inr h
  have hS : va_S A s.heap s.heap [] := va_S.rf
  have hz0 : s.heap.size = s.heap.size + 0 := rfl
  have hl := lv_entry ([.ref h0, .ref r1, .ref r2, .ref r3, .ref r4, .ref r5, .ref r6]) (n := 7) (Nat.le_of_ble_eq_true rfl)
  rw [lg_entry_eq]
  generalize (lg_sl ([.ref h0, .ref r1, .ref r2, .ref r3, .ref r4, .ref r5, .ref r6]) ++ List.replicate (7 - (lg_sl ([.ref h0, .ref r1, .ref r2, .ref r3, .ref r4, .ref r5, .ref r6])).length) Slot.unset).toArray = ls at hl ⊢
  have hl : lv_has ls 7 [(0, .ref h0), (1, .ref r1), (2, .ref r2), (3, .ref r3), (4, .ref r4), (5, .ref r5), (6, .ref r6)] := hl
  refine lv_aload_n hx hb dX8_init_0 rfl (lv_at hl 0 rfl) ?_
  refine W.objInit hx hb hown (hall _ zw_77) (hall _ zw_2) (hall _ zw_3) rfl (hl.1.trans hml.symm) rfl dX8_init_1 (Nat.le_of_ble_eq_true rfl) (Nat.le_of_ble_eq_true rfl) ?_
  refine lv_aload_n hx hb dX8_init_4 rfl (lv_at hl 0 rfl) ?_
  refine lv_aload_n hx hb dX8_init_5 rfl (lv_at hl 1 rfl) ?_
  refine zputF (D := (dC, dI)) (ci := 7) (v := .ref r1) (ty := (.object "SumHouse$Room")) (C := RX8) (T := TX8) (N := 18) hx hb hall zx_8 tyX8 tyX8_ok nmX8 hown hK.1 hP hD hS 0 rfl rfl 0 (by decide) (hall _ zw_78) (fun _ h9 => h9) rfl hin rfl (by decide +kernel) rfl rfl (Nat.le_of_ble_eq_true rfl) dX8_init_6 (fun H67 L68 hB hP' hD' hS' => ?_)
  replace hz0 : H67.size = s.heap.size + 0 := hB.1.trans hz0
  clear hP hD hS hB
  have hP : va_P (dC, dI) vwCl [(h0, .inr (7, [.ref r1, .null, .null, .null, .null, .null, .int 0, .int 0, .int 0, .int 0, .int 0, .int 0, .int 0, .null, .null, .null, .null, .int 0]))] H67 := hP'
  have hD : va_D A [(h0, .inr (7, [.ref r1, .null, .null, .null, .null, .null, .int 0, .int 0, .int 0, .int 0, .int 0, .int 0, .int 0, .null, .null, .null, .null, .int 0]))] := hD'
  have hS : va_S A s.heap H67 L68 := hS'
  clear hP' hD' hS'
  show W p l e _ s m _ below meth c _ _ _ _ QQ (F0 m 9 ls [])
  refine lv_aload_n hx hb dX8_init_9 rfl (lv_at hl 0 rfl) ?_
  refine lv_aload_n hx hb dX8_init_10 rfl (lv_at hl 2 rfl) ?_
  refine zputF (D := (dC, dI)) (ci := 7) (v := .ref r2) (ty := (.object "SumHouse$Planes")) (C := RX8) (T := TX8) (N := 18) hx hb hall zx_8 tyX8 tyX8_ok nmX8 hown hK.1 hP hD hS 0 rfl rfl 1 (by decide) (hall _ zw_79) (fun _ h9 => h9) rfl hin rfl (by decide +kernel) rfl rfl (Nat.le_of_ble_eq_true rfl) dX8_init_11 (fun H69 L70 hB hP' hD' hS' => ?_)
  replace hz0 : H69.size = s.heap.size + 0 := hB.1.trans hz0
  clear hP hD hS hB
  have hP : va_P (dC, dI) vwCl [(h0, .inr (7, [.ref r1, .ref r2, .null, .null, .null, .null, .int 0, .int 0, .int 0, .int 0, .int 0, .int 0, .int 0, .null, .null, .null, .null, .int 0]))] H69 := hP'
  have hD : va_D A [(h0, .inr (7, [.ref r1, .ref r2, .null, .null, .null, .null, .int 0, .int 0, .int 0, .int 0, .int 0, .int 0, .int 0, .null, .null, .null, .null, .int 0]))] := hD'
  have hS : va_S A s.heap H69 L70 := hS'
  clear hP' hD' hS'
  clear L68 H67
  refine lv_aload_n hx hb dX8_init_14 rfl (lv_at hl 0 rfl) ?_
  refine lv_aload_n hx hb dX8_init_15 rfl (lv_at hl 3 rfl) ?_
  show W p l e _ s m _ below meth c _ _ _ _ QQ (F0 m 16 ls [.ref r3, .ref h0])
  refine zputF (D := (dC, dI)) (ci := 7) (v := .ref r3) (ty := (.object "SumHouse$Divisors")) (C := RX8) (T := TX8) (N := 18) hx hb hall zx_8 tyX8 tyX8_ok nmX8 hown hK.1 hP hD hS 0 rfl rfl 2 (by decide) (hall _ zw_80) (fun _ h9 => h9) rfl hin rfl (by decide +kernel) rfl rfl (Nat.le_of_ble_eq_true rfl) dX8_init_16 (fun H71 L72 hB hP' hD' hS' => ?_)
  replace hz0 : H71.size = s.heap.size + 0 := hB.1.trans hz0
  clear hP hD hS hB
  have hP : va_P (dC, dI) vwCl [(h0, .inr (7, [.ref r1, .ref r2, .ref r3, .null, .null, .null, .int 0, .int 0, .int 0, .int 0, .int 0, .int 0, .int 0, .null, .null, .null, .null, .int 0]))] H71 := hP'
  have hD : va_D A [(h0, .inr (7, [.ref r1, .ref r2, .ref r3, .null, .null, .null, .int 0, .int 0, .int 0, .int 0, .int 0, .int 0, .int 0, .null, .null, .null, .null, .int 0]))] := hD'
  have hS : va_S A s.heap H71 L72 := hS'
  clear hP' hD' hS'
  clear L70 H69
  refine lv_aload_n hx hb dX8_init_19 rfl (lv_at hl 0 rfl) ?_
  refine lv_aload hx hb dX8_init_20 (lv_at hl 4 rfl) ?_
  refine zputF (D := (dC, dI)) (ci := 7) (v := .ref r4) (ty := (.object "SumHouse$Ratios")) (C := RX8) (T := TX8) (N := 18) hx hb hall zx_8 tyX8 tyX8_ok nmX8 hown hK.1 hP hD hS 0 rfl rfl 3 (by decide) (hall _ zw_81) (fun _ h9 => h9) rfl hin rfl (by decide +kernel) rfl rfl (Nat.le_of_ble_eq_true rfl) dX8_init_22 (fun H73 L74 hB hP' hD' hS' => ?_)
  replace hz0 : H73.size = s.heap.size + 0 := hB.1.trans hz0
  clear hP hD hS hB
  have hP : va_P (dC, dI) vwCl [(h0, .inr (7, [.ref r1, .ref r2, .ref r3, .ref r4, .null, .null, .int 0, .int 0, .int 0, .int 0, .int 0, .int 0, .int 0, .null, .null, .null, .null, .int 0]))] H73 := hP'
  have hD : va_D A [(h0, .inr (7, [.ref r1, .ref r2, .ref r3, .ref r4, .null, .null, .int 0, .int 0, .int 0, .int 0, .int 0, .int 0, .int 0, .null, .null, .null, .null, .int 0]))] := hD'
  have hS : va_S A s.heap H73 L74 := hS'
  clear hP' hD' hS'
  clear L72 H71
  refine lv_aload_n hx hb dX8_init_25 rfl (lv_at hl 0 rfl) ?_
  show W p l e _ s m _ below meth c _ _ _ _ QQ (F0 m 26 ls [.ref h0])
  refine lv_aload hx hb dX8_init_26 (lv_at hl 5 rfl) ?_
  refine zputF (D := (dC, dI)) (ci := 7) (v := .ref r5) (ty := (.object "SumHouse$Terms")) (C := RX8) (T := TX8) (N := 18) hx hb hall zx_8 tyX8 tyX8_ok nmX8 hown hK.1 hP hD hS 0 rfl rfl 4 (by decide) (hall _ zw_82) (fun _ h9 => h9) rfl hin rfl (by decide +kernel) rfl rfl (Nat.le_of_ble_eq_true rfl) dX8_init_28 (fun H75 L76 hB hP' hD' hS' => ?_)
  replace hz0 : H75.size = s.heap.size + 0 := hB.1.trans hz0
  clear hP hD hS hB
  have hP : va_P (dC, dI) vwCl [(h0, .inr (7, [.ref r1, .ref r2, .ref r3, .ref r4, .ref r5, .null, .int 0, .int 0, .int 0, .int 0, .int 0, .int 0, .int 0, .null, .null, .null, .null, .int 0]))] H75 := hP'
  have hD : va_D A [(h0, .inr (7, [.ref r1, .ref r2, .ref r3, .ref r4, .ref r5, .null, .int 0, .int 0, .int 0, .int 0, .int 0, .int 0, .int 0, .null, .null, .null, .null, .int 0]))] := hD'
  have hS : va_S A s.heap H75 L76 := hS'
  clear hP' hD' hS'
  clear L74 H73
  refine lv_aload_n hx hb dX8_init_31 rfl (lv_at hl 0 rfl) ?_
  refine lv_aload hx hb dX8_init_32 (lv_at hl 6 rfl) ?_
  refine zputF (D := (dC, dI)) (ci := 7) (v := .ref r6) (ty := (.object "SumHouse$Solver")) (C := RX8) (T := TX8) (N := 18) hx hb hall zx_8 tyX8 tyX8_ok nmX8 hown hK.1 hP hD hS 0 rfl rfl 5 (by decide) (hall _ zw_83) (fun _ h9 => h9) rfl hin rfl (by decide +kernel) rfl rfl (Nat.le_of_ble_eq_true rfl) dX8_init_34 (fun H77 L78 hB hP' hD' hS' => ?_)
  replace hz0 : H77.size = s.heap.size + 0 := hB.1.trans hz0
  clear hP hD hS hB
  have hP : va_P (dC, dI) vwCl [(h0, .inr (7, [.ref r1, .ref r2, .ref r3, .ref r4, .ref r5, .ref r6, .int 0, .int 0, .int 0, .int 0, .int 0, .int 0, .int 0, .null, .null, .null, .null, .int 0]))] H77 := hP'
  have hD : va_D A [(h0, .inr (7, [.ref r1, .ref r2, .ref r3, .ref r4, .ref r5, .ref r6, .int 0, .int 0, .int 0, .int 0, .int 0, .int 0, .int 0, .null, .null, .null, .null, .int 0]))] := hD'
  have hS : va_S A s.heap H77 L78 := hS'
  clear hP' hD' hS'
  clear L76 H75
  show W p l e _ s m _ below meth c _ _ _ _ QQ (F0 m 37 ls [])
  refine lv_aload_n hx hb dX8_init_37 rfl (lv_at hl 0 rfl) ?_
  refine lv_iconst (v := 4) hx hb dX8_init_38 (by decide) ?_
  refine znewa (atype := .int) (ty := .int) (cA := aC 0) (N' := 4) (a0 := (4, .inl (fun _ => 0))) hx hb (hall _ zw_4) rfl hK.1 hP hD hS hA 0 rfl (fun h => h) rfl (by decide) (by decide) (Nat.le_of_ble_eq_true rfl) (Nat.le_of_ble_eq_true rfl) (Nat.le_of_ble_eq_true rfl) dX8_init_39 (fun q79 H80 eq79 hz hB hP' hD' hS' => ?_)
  obtain rfl : q79 = s.heap.size + 0 := eq79.trans hz0
  clear eq79
  replace hz0 : H80.size = s.heap.size + 1 := by omega
  clear hz
  clear hP hD hS hB
  have hP : va_P (dC, dI) vwCl [(h0, .inr (7, [.ref r1, .ref r2, .ref r3, .ref r4, .ref r5, .ref r6, .int 0, .int 0, .int 0, .int 0, .int 0, .int 0, .int 0, .null, .null, .null, .null, .int 0])), (s.heap.size + 0, .inl (aC 0, 4, .inl (fun _ => 0)))] H80 := hP'
  have hD : va_D A [(h0, .inr (7, [.ref r1, .ref r2, .ref r3, .ref r4, .ref r5, .ref r6, .int 0, .int 0, .int 0, .int 0, .int 0, .int 0, .int 0, .null, .null, .null, .null, .int 0])), (s.heap.size + 0, .inl (aC 0, 4, .inl (fun _ => 0)))] := hD'
  have hS : va_S A s.heap H80 L78 := hS'
  clear hP' hD' hS'
  clear H77
  refine zputF (D := (dC, dI)) (ci := 7) (v := .ref (s.heap.size + 0)) (ty := (.array .int)) (C := RX8) (T := TX8) (N := 18) hx hb hall zx_8 tyX8 tyX8_ok nmX8 hown hK.1 hP hD hS 0 rfl rfl 13 (by decide) (hall _ zw_84) (fun _ h9 => h9) rfl hin rfl (by decide +kernel) rfl rfl (Nat.le_of_ble_eq_true rfl) dX8_init_41 (fun H81 L82 hB hP' hD' hS' => ?_)
  replace hz0 : H81.size = s.heap.size + 1 := hB.1.trans hz0
  clear hP hD hS hB
  have hP : va_P (dC, dI) vwCl [(h0, .inr (7, [.ref r1, .ref r2, .ref r3, .ref r4, .ref r5, .ref r6, .int 0, .int 0, .int 0, .int 0, .int 0, .int 0, .int 0, .ref (s.heap.size + 0), .null, .null, .null, .int 0])), (s.heap.size + 0, .inl (aC 0, 4, .inl (fun _ => 0)))] H81 := hP'
  have hD : va_D A [(h0, .inr (7, [.ref r1, .ref r2, .ref r3, .ref r4, .ref r5, .ref r6, .int 0, .int 0, .int 0, .int 0, .int 0, .int 0, .int 0, .ref (s.heap.size + 0), .null, .null, .null, .int 0])), (s.heap.size + 0, .inl (aC 0, 4, .inl (fun _ => 0)))] := hD'
  have hS : va_S A s.heap H81 L82 := hS'
  clear hP' hD' hS'
  clear L78 H80
  refine lv_aload_n hx hb dX8_init_44 rfl (lv_at hl 0 rfl) ?_
  show W p l e _ s m _ below meth c _ _ _ _ QQ (F0 m 45 ls [.ref h0])
  refine lv_iconst (v := 4) hx hb dX8_init_45 (by decide) ?_
  refine znewa (atype := .int) (ty := .int) (cA := aC 0) (N' := 4) (a0 := (4, .inl (fun _ => 0))) hx hb (hall _ zw_4) rfl hK.1 hP hD hS hA 0 rfl (fun h => h) rfl (by decide) (by decide) (Nat.le_of_ble_eq_true rfl) (Nat.le_of_ble_eq_true rfl) (Nat.le_of_ble_eq_true rfl) dX8_init_46 (fun q83 H84 eq83 hz hB hP' hD' hS' => ?_)
  obtain rfl : q83 = s.heap.size + 1 := eq83.trans hz0
  clear eq83
  replace hz0 : H84.size = s.heap.size + 2 := by omega
  clear hz
  clear hP hD hS hB
  have hP : va_P (dC, dI) vwCl [(h0, .inr (7, [.ref r1, .ref r2, .ref r3, .ref r4, .ref r5, .ref r6, .int 0, .int 0, .int 0, .int 0, .int 0, .int 0, .int 0, .ref (s.heap.size + 0), .null, .null, .null, .int 0])), (s.heap.size + 0, .inl (aC 0, 4, .inl (fun _ => 0))), (s.heap.size + 1, .inl (aC 0, 4, .inl (fun _ => 0)))] H84 := hP'
  have hD : va_D A [(h0, .inr (7, [.ref r1, .ref r2, .ref r3, .ref r4, .ref r5, .ref r6, .int 0, .int 0, .int 0, .int 0, .int 0, .int 0, .int 0, .ref (s.heap.size + 0), .null, .null, .null, .int 0])), (s.heap.size + 0, .inl (aC 0, 4, .inl (fun _ => 0))), (s.heap.size + 1, .inl (aC 0, 4, .inl (fun _ => 0)))] := hD'
  have hS : va_S A s.heap H84 L82 := hS'
  clear hP' hD' hS'
  clear H81
  refine zputF (D := (dC, dI)) (ci := 7) (v := .ref (s.heap.size + 1)) (ty := (.array .int)) (C := RX8) (T := TX8) (N := 18) hx hb hall zx_8 tyX8 tyX8_ok nmX8 hown hK.1 hP hD hS 0 rfl rfl 14 (by decide) (hall _ zw_85) (fun _ h9 => h9) rfl hin rfl (by decide +kernel) rfl rfl (Nat.le_of_ble_eq_true rfl) dX8_init_48 (fun H85 L86 hB hP' hD' hS' => ?_)
  replace hz0 : H85.size = s.heap.size + 2 := hB.1.trans hz0
  clear hP hD hS hB
  have hP : va_P (dC, dI) vwCl [(h0, .inr (7, [.ref r1, .ref r2, .ref r3, .ref r4, .ref r5, .ref r6, .int 0, .int 0, .int 0, .int 0, .int 0, .int 0, .int 0, .ref (s.heap.size + 0), .ref (s.heap.size + 1), .null, .null, .int 0])), (s.heap.size + 0, .inl (aC 0, 4, .inl (fun _ => 0))), (s.heap.size + 1, .inl (aC 0, 4, .inl (fun _ => 0)))] H85 := hP'
  have hD : va_D A [(h0, .inr (7, [.ref r1, .ref r2, .ref r3, .ref r4, .ref r5, .ref r6, .int 0, .int 0, .int 0, .int 0, .int 0, .int 0, .int 0, .ref (s.heap.size + 0), .ref (s.heap.size + 1), .null, .null, .int 0])), (s.heap.size + 0, .inl (aC 0, 4, .inl (fun _ => 0))), (s.heap.size + 1, .inl (aC 0, 4, .inl (fun _ => 0)))] := hD'
  have hS : va_S A s.heap H85 L86 := hS'
  clear hP' hD' hS'
  clear L82 H84
  refine lv_aload_n hx hb dX8_init_51 rfl (lv_at hl 0 rfl) ?_
  refine lv_iconst (v := 4) hx hb dX8_init_52 (by decide) ?_
  show W p l e _ s m _ below meth c _ _ _ _ QQ (F0 m 53 ls [.int 4, .ref h0])
  refine znewa (atype := .int) (ty := .int) (cA := aC 0) (N' := 4) (a0 := (4, .inl (fun _ => 0))) hx hb (hall _ zw_4) rfl hK.1 hP hD hS hA 0 rfl (fun h => h) rfl (by decide) (by decide) (Nat.le_of_ble_eq_true rfl) (Nat.le_of_ble_eq_true rfl) (Nat.le_of_ble_eq_true rfl) dX8_init_53 (fun q87 H88 eq87 hz hB hP' hD' hS' => ?_)
  obtain rfl : q87 = s.heap.size + 2 := eq87.trans hz0
  clear eq87
  replace hz0 : H88.size = s.heap.size + 3 := by omega
  clear hz
  clear hP hD hS hB
  have hP : va_P (dC, dI) vwCl [(h0, .inr (7, [.ref r1, .ref r2, .ref r3, .ref r4, .ref r5, .ref r6, .int 0, .int 0, .int 0, .int 0, .int 0, .int 0, .int 0, .ref (s.heap.size + 0), .ref (s.heap.size + 1), .null, .null, .int 0])), (s.heap.size + 0, .inl (aC 0, 4, .inl (fun _ => 0))), (s.heap.size + 1, .inl (aC 0, 4, .inl (fun _ => 0))), (s.heap.size + 2, .inl (aC 0, 4, .inl (fun _ => 0)))] H88 := hP'
  have hD : va_D A [(h0, .inr (7, [.ref r1, .ref r2, .ref r3, .ref r4, .ref r5, .ref r6, .int 0, .int 0, .int 0, .int 0, .int 0, .int 0, .int 0, .ref (s.heap.size + 0), .ref (s.heap.size + 1), .null, .null, .int 0])), (s.heap.size + 0, .inl (aC 0, 4, .inl (fun _ => 0))), (s.heap.size + 1, .inl (aC 0, 4, .inl (fun _ => 0))), (s.heap.size + 2, .inl (aC 0, 4, .inl (fun _ => 0)))] := hD'
  have hS : va_S A s.heap H88 L86 := hS'
  clear hP' hD' hS'
  clear H85
  refine zputF (D := (dC, dI)) (ci := 7) (v := .ref (s.heap.size + 2)) (ty := (.array .int)) (C := RX8) (T := TX8) (N := 18) hx hb hall zx_8 tyX8 tyX8_ok nmX8 hown hK.1 hP hD hS 0 rfl rfl 15 (by decide) (hall _ zw_86) (fun _ h9 => h9) rfl hin rfl (by decide +kernel) rfl rfl (Nat.le_of_ble_eq_true rfl) dX8_init_55 (fun H89 L90 hB hP' hD' hS' => ?_)
  replace hz0 : H89.size = s.heap.size + 3 := hB.1.trans hz0
  clear hP hD hS hB
  have hP : va_P (dC, dI) vwCl [(h0, .inr (7, [.ref r1, .ref r2, .ref r3, .ref r4, .ref r5, .ref r6, .int 0, .int 0, .int 0, .int 0, .int 0, .int 0, .int 0, .ref (s.heap.size + 0), .ref (s.heap.size + 1), .ref (s.heap.size + 2), .null, .int 0])), (s.heap.size + 0, .inl (aC 0, 4, .inl (fun _ => 0))), (s.heap.size + 1, .inl (aC 0, 4, .inl (fun _ => 0))), (s.heap.size + 2, .inl (aC 0, 4, .inl (fun _ => 0)))] H89 := hP'
  have hD : va_D A [(h0, .inr (7, [.ref r1, .ref r2, .ref r3, .ref r4, .ref r5, .ref r6, .int 0, .int 0, .int 0, .int 0, .int 0, .int 0, .int 0, .ref (s.heap.size + 0), .ref (s.heap.size + 1), .ref (s.heap.size + 2), .null, .int 0])), (s.heap.size + 0, .inl (aC 0, 4, .inl (fun _ => 0))), (s.heap.size + 1, .inl (aC 0, 4, .inl (fun _ => 0))), (s.heap.size + 2, .inl (aC 0, 4, .inl (fun _ => 0)))] := hD'
  have hS : va_S A s.heap H89 L90 := hS'
  clear hP' hD' hS'
  clear L86 H88
  refine lv_aload_n hx hb dX8_init_58 rfl (lv_at hl 0 rfl) ?_
  refine lv_iconst (v := 4) hx hb dX8_init_59 (by decide) ?_
  refine znewa (atype := .int) (ty := .int) (cA := aC 0) (N' := 4) (a0 := (4, .inl (fun _ => 0))) hx hb (hall _ zw_4) rfl hK.1 hP hD hS hA 0 rfl (fun h => h) rfl (by decide) (by decide) (Nat.le_of_ble_eq_true rfl) (Nat.le_of_ble_eq_true rfl) (Nat.le_of_ble_eq_true rfl) dX8_init_60 (fun q91 H92 eq91 hz hB hP' hD' hS' => ?_)
  obtain rfl : q91 = s.heap.size + 3 := eq91.trans hz0
  clear eq91
  replace hz0 : H92.size = s.heap.size + 4 := by omega
  clear hz
  clear hP hD hS hB
  have hP : va_P (dC, dI) vwCl [(h0, .inr (7, [.ref r1, .ref r2, .ref r3, .ref r4, .ref r5, .ref r6, .int 0, .int 0, .int 0, .int 0, .int 0, .int 0, .int 0, .ref (s.heap.size + 0), .ref (s.heap.size + 1), .ref (s.heap.size + 2), .null, .int 0])), (s.heap.size + 0, .inl (aC 0, 4, .inl (fun _ => 0))), (s.heap.size + 1, .inl (aC 0, 4, .inl (fun _ => 0))), (s.heap.size + 2, .inl (aC 0, 4, .inl (fun _ => 0))), (s.heap.size + 3, .inl (aC 0, 4, .inl (fun _ => 0)))] H92 := hP'
  have hD : va_D A [(h0, .inr (7, [.ref r1, .ref r2, .ref r3, .ref r4, .ref r5, .ref r6, .int 0, .int 0, .int 0, .int 0, .int 0, .int 0, .int 0, .ref (s.heap.size + 0), .ref (s.heap.size + 1), .ref (s.heap.size + 2), .null, .int 0])), (s.heap.size + 0, .inl (aC 0, 4, .inl (fun _ => 0))), (s.heap.size + 1, .inl (aC 0, 4, .inl (fun _ => 0))), (s.heap.size + 2, .inl (aC 0, 4, .inl (fun _ => 0))), (s.heap.size + 3, .inl (aC 0, 4, .inl (fun _ => 0)))] := hD'
  have hS : va_S A s.heap H92 L90 := hS'
  clear hP' hD' hS'
  clear H89
  show W p l e _ s m _ below meth c _ _ _ _ QQ (F0 m 62 ls [.ref (s.heap.size + 3), .ref h0])
  refine zputF (D := (dC, dI)) (ci := 7) (v := .ref (s.heap.size + 3)) (ty := (.array .int)) (C := RX8) (T := TX8) (N := 18) hx hb hall zx_8 tyX8 tyX8_ok nmX8 hown hK.1 hP hD hS 0 rfl rfl 16 (by decide) (hall _ zw_87) (fun _ h9 => h9) rfl hin rfl (by decide +kernel) rfl rfl (Nat.le_of_ble_eq_true rfl) dX8_init_62 (fun H93 L94 hB hP' hD' hS' => ?_)
  replace hz0 : H93.size = s.heap.size + 4 := hB.1.trans hz0
  clear hP hD hS hB
  have hP : va_P (dC, dI) vwCl [(h0, .inr (7, [.ref r1, .ref r2, .ref r3, .ref r4, .ref r5, .ref r6, .int 0, .int 0, .int 0, .int 0, .int 0, .int 0, .int 0, .ref (s.heap.size + 0), .ref (s.heap.size + 1), .ref (s.heap.size + 2), .ref (s.heap.size + 3), .int 0])), (s.heap.size + 0, .inl (aC 0, 4, .inl (fun _ => 0))), (s.heap.size + 1, .inl (aC 0, 4, .inl (fun _ => 0))), (s.heap.size + 2, .inl (aC 0, 4, .inl (fun _ => 0))), (s.heap.size + 3, .inl (aC 0, 4, .inl (fun _ => 0)))] H93 := hP'
  have hD : va_D A [(h0, .inr (7, [.ref r1, .ref r2, .ref r3, .ref r4, .ref r5, .ref r6, .int 0, .int 0, .int 0, .int 0, .int 0, .int 0, .int 0, .ref (s.heap.size + 0), .ref (s.heap.size + 1), .ref (s.heap.size + 2), .ref (s.heap.size + 3), .int 0])), (s.heap.size + 0, .inl (aC 0, 4, .inl (fun _ => 0))), (s.heap.size + 1, .inl (aC 0, 4, .inl (fun _ => 0))), (s.heap.size + 2, .inl (aC 0, 4, .inl (fun _ => 0))), (s.heap.size + 3, .inl (aC 0, 4, .inl (fun _ => 0)))] := hD'
  have hS : va_S A s.heap H93 L94 := hS'
  clear hP' hD' hS'
  clear L90 H92
  refine W.widen (k := 4) (n := 16) (Nat.le_of_ble_eq_true rfl) (Nat.le_of_ble_eq_true rfl) ?_
  rw [← hQ, hAe]
  exact W.vret hx hb hr (fun zt ht hW => ⟨⟨(), rfl, trivial, by rw [ht]; exact hP, hD, by rw [ht]; exact hz0⟩, hS.F ht⟩) hS.2.2 dX8_init_65

set_option maxHeartbeats 4000000 in
set_option maxRecDepth 100000 in
theorem c_X5_init (l : Launch) (dC : Nat → ClassId) (dI : Nat → Nat → Nat) (aC : Nat → ClassId) (h0 : Nat) (r1 : Nat) (r2 : Nat) (r3 : Nat) (r4 : Nat) (sz : Nat) : Met l yX5_init w_X5_init ({ frames := 1, cells := 5, slots := 453, locals := 24 }) (zPre (dC, dI) aC [(h0, .inr (4, [.null, .null, .null, .null, .null, .null, .null, .null, .null]))] sz [.ref h0, .ref r1, .ref r2, .ref r3, .ref r4]) (va_Qv (fun (u : Unit) => True) (fun u zt => zB (dC, dI) [(h0, .inr (4, [.ref r1, .ref r2, .ref r3, .ref r4, .ref (sz + 0), .ref (sz + 1), .ref (sz + 2), .ref (sz + 3), .ref (sz + 4)])), (sz + 0, .inl (aC 0, 8, .inl (fun _ => 0))), (sz + 1, .inl (aC 0, 301, .inl (fun _ => 0))), (sz + 2, .inl (aC 0, 60, .inl (fun _ => 0))), (sz + 3, .inl (aC 0, 42, .inl (fun _ => 0))), (sz + 4, .inl (aC 0, 42, .inl (fun _ => 0)))] (va_A [(h0, .inr (4, [.null, .null, .null, .null, .null, .null, .null, .null, .null]))] sz) (sz + 5) zt) (va_A [(h0, .inr (4, [.null, .null, .null, .null, .null, .null, .null, .null, .null]))] sz)) 5 453 (va_A [(h0, .inr (4, [.null, .null, .null, .null, .null, .null, .null, .null, .null]))] sz) := by
  refine Met.ofW (cc := cX5_init) (maxL := 5) (ret := none) (by decide) rfl ?_
  intro p e s m args below meth c s₁ B hml hv
  generalize hQ : MQ below _ _ s _ _ _ = QQ
  obtain ⟨rfl, hsz, hP, hK, hD0⟩ := hv
  have hx := B.exec
  have hb := B.bytes
  have hr := B.returns
  have hts := atoms_spec (ws := w_X5_init) B.pre
  have hall := fun (w : Cond) (h : w ∈ zAll) => hts w (List.mem_cons_of_mem _ h)
  have hown : s.vm.findClass RX5 = some m.cls := findClass_of_methodNamed B.named
  have hlocks := B.notSynchronized
  have hin : meth.name = "<init>" := (name_of_methodNamed B.named B.method).1
  subst hsz
  have hD := hD0.self (sz := s.heap.size)
  generalize hAe : va_A [(h0, .inr (4, [.null, .null, .null, .null, .null, .null, .null, .null, .null]))] s.heap.size = A at hD ⊢
  have hA : ∀ q : Nat, s.heap.size ≤ q → A q := fun q h => by rw [← hAe]; exact Or.inr h
  have hS : va_S A s.heap s.heap [] := va_S.rf
  have hz0 : s.heap.size = s.heap.size + 0 := rfl
  have hl := lv_entry ([.ref h0, .ref r1, .ref r2, .ref r3, .ref r4]) (n := 5) (Nat.le_of_ble_eq_true rfl)
  rw [lg_entry_eq]
  generalize (lg_sl ([.ref h0, .ref r1, .ref r2, .ref r3, .ref r4]) ++ List.replicate (5 - (lg_sl ([.ref h0, .ref r1, .ref r2, .ref r3, .ref r4])).length) Slot.unset).toArray = ls at hl ⊢
  have hl : lv_has ls 5 [(0, .ref h0), (1, .ref r1), (2, .ref r2), (3, .ref r3), (4, .ref r4)] := hl
  refine lv_aload_n hx hb dX5_init_0 rfl (lv_at hl 0 rfl) ?_
  refine W.objInit hx hb hown (hall _ zw_58) (hall _ zw_2) (hall _ zw_3) rfl (hl.1.trans hml.symm) rfl dX5_init_1 (Nat.le_of_ble_eq_true rfl) (Nat.le_of_ble_eq_true rfl) ?_
  refine lv_aload_n hx hb dX5_init_4 rfl (lv_at hl 0 rfl) ?_
  refine lv_aload_n hx hb dX5_init_5 rfl (lv_at hl 1 rfl) ?_
  refine zputF (D := (dC, dI)) (ci := 4) (v := .ref r1) (ty := (.object "SumHouse$Room")) (C := RX5) (T := TX5) (N := 9) hx hb hall zx_5 tyX5 tyX5_ok nmX5 hown hK.1 hP hD hS 0 rfl rfl 0 (by decide) (hall _ zw_59) (fun _ h9 => h9) rfl hin rfl (by decide +kernel) rfl rfl (Nat.le_of_ble_eq_true rfl) dX5_init_6 (fun H95 L96 hB hP' hD' hS' => ?_)
  replace hz0 : H95.size = s.heap.size + 0 := hB.1.trans hz0
  clear hP hD hS hB
  have hP : va_P (dC, dI) vwCl [(h0, .inr (4, [.ref r1, .null, .null, .null, .null, .null, .null, .null, .null]))] H95 := hP'
  have hD : va_D A [(h0, .inr (4, [.ref r1, .null, .null, .null, .null, .null, .null, .null, .null]))] := hD'
  have hS : va_S A s.heap H95 L96 := hS'
  clear hP' hD' hS'
  show W p l e _ s m _ below meth c _ _ _ _ QQ (F0 m 9 ls [])
  refine lv_aload_n hx hb dX5_init_9 rfl (lv_at hl 0 rfl) ?_
  refine lv_aload_n hx hb dX5_init_10 rfl (lv_at hl 2 rfl) ?_
  refine zputF (D := (dC, dI)) (ci := 4) (v := .ref r2) (ty := (.object "SumHouse$Planes")) (C := RX5) (T := TX5) (N := 9) hx hb hall zx_5 tyX5 tyX5_ok nmX5 hown hK.1 hP hD hS 0 rfl rfl 1 (by decide) (hall _ zw_60) (fun _ h9 => h9) rfl hin rfl (by decide +kernel) rfl rfl (Nat.le_of_ble_eq_true rfl) dX5_init_11 (fun H97 L98 hB hP' hD' hS' => ?_)
  replace hz0 : H97.size = s.heap.size + 0 := hB.1.trans hz0
  clear hP hD hS hB
  have hP : va_P (dC, dI) vwCl [(h0, .inr (4, [.ref r1, .ref r2, .null, .null, .null, .null, .null, .null, .null]))] H97 := hP'
  have hD : va_D A [(h0, .inr (4, [.ref r1, .ref r2, .null, .null, .null, .null, .null, .null, .null]))] := hD'
  have hS : va_S A s.heap H97 L98 := hS'
  clear hP' hD' hS'
  clear L96 H95
  refine lv_aload_n hx hb dX5_init_14 rfl (lv_at hl 0 rfl) ?_
  refine lv_aload_n hx hb dX5_init_15 rfl (lv_at hl 3 rfl) ?_
  show W p l e _ s m _ below meth c _ _ _ _ QQ (F0 m 16 ls [.ref r3, .ref h0])
  refine zputF (D := (dC, dI)) (ci := 4) (v := .ref r3) (ty := (.object "SumHouse$Divisors")) (C := RX5) (T := TX5) (N := 9) hx hb hall zx_5 tyX5 tyX5_ok nmX5 hown hK.1 hP hD hS 0 rfl rfl 2 (by decide) (hall _ zw_61) (fun _ h9 => h9) rfl hin rfl (by decide +kernel) rfl rfl (Nat.le_of_ble_eq_true rfl) dX5_init_16 (fun H99 L100 hB hP' hD' hS' => ?_)
  replace hz0 : H99.size = s.heap.size + 0 := hB.1.trans hz0
  clear hP hD hS hB
  have hP : va_P (dC, dI) vwCl [(h0, .inr (4, [.ref r1, .ref r2, .ref r3, .null, .null, .null, .null, .null, .null]))] H99 := hP'
  have hD : va_D A [(h0, .inr (4, [.ref r1, .ref r2, .ref r3, .null, .null, .null, .null, .null, .null]))] := hD'
  have hS : va_S A s.heap H99 L100 := hS'
  clear hP' hD' hS'
  clear L98 H97
  refine lv_aload_n hx hb dX5_init_19 rfl (lv_at hl 0 rfl) ?_
  refine lv_aload hx hb dX5_init_20 (lv_at hl 4 rfl) ?_
  refine zputF (D := (dC, dI)) (ci := 4) (v := .ref r4) (ty := (.object "SumHouse$Solver")) (C := RX5) (T := TX5) (N := 9) hx hb hall zx_5 tyX5 tyX5_ok nmX5 hown hK.1 hP hD hS 0 rfl rfl 3 (by decide) (hall _ zw_62) (fun _ h9 => h9) rfl hin rfl (by decide +kernel) rfl rfl (Nat.le_of_ble_eq_true rfl) dX5_init_22 (fun H101 L102 hB hP' hD' hS' => ?_)
  replace hz0 : H101.size = s.heap.size + 0 := hB.1.trans hz0
  clear hP hD hS hB
  have hP : va_P (dC, dI) vwCl [(h0, .inr (4, [.ref r1, .ref r2, .ref r3, .ref r4, .null, .null, .null, .null, .null]))] H101 := hP'
  have hD : va_D A [(h0, .inr (4, [.ref r1, .ref r2, .ref r3, .ref r4, .null, .null, .null, .null, .null]))] := hD'
  have hS : va_S A s.heap H101 L102 := hS'
  clear hP' hD' hS'
  clear L100 H99
  refine lv_aload_n hx hb dX5_init_25 rfl (lv_at hl 0 rfl) ?_
  show W p l e _ s m _ below meth c _ _ _ _ QQ (F0 m 26 ls [.ref h0])
  refine lv_bipush (v := 8) hx hb dX5_init_26 (by decide) ?_
  refine znewa (atype := .int) (ty := .int) (cA := aC 0) (N' := 8) (a0 := (8, .inl (fun _ => 0))) hx hb (hall _ zw_4) rfl hK.1 hP hD hS hA 0 rfl (fun h => h) rfl (by decide) (by decide) (Nat.le_of_ble_eq_true rfl) (Nat.le_of_ble_eq_true rfl) (Nat.le_of_ble_eq_true rfl) dX5_init_28 (fun q103 H104 eq103 hz hB hP' hD' hS' => ?_)
  obtain rfl : q103 = s.heap.size + 0 := eq103.trans hz0
  clear eq103
  replace hz0 : H104.size = s.heap.size + 1 := by omega
  clear hz
  clear hP hD hS hB
  have hP : va_P (dC, dI) vwCl [(h0, .inr (4, [.ref r1, .ref r2, .ref r3, .ref r4, .null, .null, .null, .null, .null])), (s.heap.size + 0, .inl (aC 0, 8, .inl (fun _ => 0)))] H104 := hP'
  have hD : va_D A [(h0, .inr (4, [.ref r1, .ref r2, .ref r3, .ref r4, .null, .null, .null, .null, .null])), (s.heap.size + 0, .inl (aC 0, 8, .inl (fun _ => 0)))] := hD'
  have hS : va_S A s.heap H104 L102 := hS'
  clear hP' hD' hS'
  clear H101
  refine zputF (D := (dC, dI)) (ci := 4) (v := .ref (s.heap.size + 0)) (ty := (.array .int)) (C := RX5) (T := TX5) (N := 9) hx hb hall zx_5 tyX5 tyX5_ok nmX5 hown hK.1 hP hD hS 0 rfl rfl 4 (by decide) (hall _ zw_63) (fun _ h9 => h9) rfl hin rfl (by decide +kernel) rfl rfl (Nat.le_of_ble_eq_true rfl) dX5_init_30 (fun H105 L106 hB hP' hD' hS' => ?_)
  replace hz0 : H105.size = s.heap.size + 1 := hB.1.trans hz0
  clear hP hD hS hB
  have hP : va_P (dC, dI) vwCl [(h0, .inr (4, [.ref r1, .ref r2, .ref r3, .ref r4, .ref (s.heap.size + 0), .null, .null, .null, .null])), (s.heap.size + 0, .inl (aC 0, 8, .inl (fun _ => 0)))] H105 := hP'
  have hD : va_D A [(h0, .inr (4, [.ref r1, .ref r2, .ref r3, .ref r4, .ref (s.heap.size + 0), .null, .null, .null, .null])), (s.heap.size + 0, .inl (aC 0, 8, .inl (fun _ => 0)))] := hD'
  have hS : va_S A s.heap H105 L106 := hS'
  clear hP' hD' hS'
  clear L102 H104
  refine lv_aload_n hx hb dX5_init_33 rfl (lv_at hl 0 rfl) ?_
  refine lv_sipush (v := 301) hx hb dX5_init_34 (by decide) ?_
  show W p l e _ s m _ below meth c _ _ _ _ QQ (F0 m 37 ls [.int 301, .ref h0])
  refine znewa (atype := .int) (ty := .int) (cA := aC 0) (N' := 301) (a0 := (301, .inl (fun _ => 0))) hx hb (hall _ zw_4) rfl hK.1 hP hD hS hA 0 rfl (fun h => h) rfl (by decide) (by decide) (Nat.le_of_ble_eq_true rfl) (Nat.le_of_ble_eq_true rfl) (Nat.le_of_ble_eq_true rfl) dX5_init_37 (fun q107 H108 eq107 hz hB hP' hD' hS' => ?_)
  obtain rfl : q107 = s.heap.size + 1 := eq107.trans hz0
  clear eq107
  replace hz0 : H108.size = s.heap.size + 2 := by omega
  clear hz
  clear hP hD hS hB
  have hP : va_P (dC, dI) vwCl [(h0, .inr (4, [.ref r1, .ref r2, .ref r3, .ref r4, .ref (s.heap.size + 0), .null, .null, .null, .null])), (s.heap.size + 0, .inl (aC 0, 8, .inl (fun _ => 0))), (s.heap.size + 1, .inl (aC 0, 301, .inl (fun _ => 0)))] H108 := hP'
  have hD : va_D A [(h0, .inr (4, [.ref r1, .ref r2, .ref r3, .ref r4, .ref (s.heap.size + 0), .null, .null, .null, .null])), (s.heap.size + 0, .inl (aC 0, 8, .inl (fun _ => 0))), (s.heap.size + 1, .inl (aC 0, 301, .inl (fun _ => 0)))] := hD'
  have hS : va_S A s.heap H108 L106 := hS'
  clear hP' hD' hS'
  clear H105
  refine zputF (D := (dC, dI)) (ci := 4) (v := .ref (s.heap.size + 1)) (ty := (.array .int)) (C := RX5) (T := TX5) (N := 9) hx hb hall zx_5 tyX5 tyX5_ok nmX5 hown hK.1 hP hD hS 0 rfl rfl 5 (by decide) (hall _ zw_64) (fun _ h9 => h9) rfl hin rfl (by decide +kernel) rfl rfl (Nat.le_of_ble_eq_true rfl) dX5_init_39 (fun H109 L110 hB hP' hD' hS' => ?_)
  replace hz0 : H109.size = s.heap.size + 2 := hB.1.trans hz0
  clear hP hD hS hB
  have hP : va_P (dC, dI) vwCl [(h0, .inr (4, [.ref r1, .ref r2, .ref r3, .ref r4, .ref (s.heap.size + 0), .ref (s.heap.size + 1), .null, .null, .null])), (s.heap.size + 0, .inl (aC 0, 8, .inl (fun _ => 0))), (s.heap.size + 1, .inl (aC 0, 301, .inl (fun _ => 0)))] H109 := hP'
  have hD : va_D A [(h0, .inr (4, [.ref r1, .ref r2, .ref r3, .ref r4, .ref (s.heap.size + 0), .ref (s.heap.size + 1), .null, .null, .null])), (s.heap.size + 0, .inl (aC 0, 8, .inl (fun _ => 0))), (s.heap.size + 1, .inl (aC 0, 301, .inl (fun _ => 0)))] := hD'
  have hS : va_S A s.heap H109 L110 := hS'
  clear hP' hD' hS'
  clear L106 H108
  refine lv_aload_n hx hb dX5_init_42 rfl (lv_at hl 0 rfl) ?_
  refine lv_bipush (v := 60) hx hb dX5_init_43 (by decide) ?_
  refine znewa (atype := .int) (ty := .int) (cA := aC 0) (N' := 60) (a0 := (60, .inl (fun _ => 0))) hx hb (hall _ zw_4) rfl hK.1 hP hD hS hA 0 rfl (fun h => h) rfl (by decide) (by decide) (Nat.le_of_ble_eq_true rfl) (Nat.le_of_ble_eq_true rfl) (Nat.le_of_ble_eq_true rfl) dX5_init_45 (fun q111 H112 eq111 hz hB hP' hD' hS' => ?_)
  obtain rfl : q111 = s.heap.size + 2 := eq111.trans hz0
  clear eq111
  replace hz0 : H112.size = s.heap.size + 3 := by omega
  clear hz
  clear hP hD hS hB
  have hP : va_P (dC, dI) vwCl [(h0, .inr (4, [.ref r1, .ref r2, .ref r3, .ref r4, .ref (s.heap.size + 0), .ref (s.heap.size + 1), .null, .null, .null])), (s.heap.size + 0, .inl (aC 0, 8, .inl (fun _ => 0))), (s.heap.size + 1, .inl (aC 0, 301, .inl (fun _ => 0))), (s.heap.size + 2, .inl (aC 0, 60, .inl (fun _ => 0)))] H112 := hP'
  have hD : va_D A [(h0, .inr (4, [.ref r1, .ref r2, .ref r3, .ref r4, .ref (s.heap.size + 0), .ref (s.heap.size + 1), .null, .null, .null])), (s.heap.size + 0, .inl (aC 0, 8, .inl (fun _ => 0))), (s.heap.size + 1, .inl (aC 0, 301, .inl (fun _ => 0))), (s.heap.size + 2, .inl (aC 0, 60, .inl (fun _ => 0)))] := hD'
  have hS : va_S A s.heap H112 L110 := hS'
  clear hP' hD' hS'
  clear H109
  show W p l e _ s m _ below meth c _ _ _ _ QQ (F0 m 47 ls [.ref (s.heap.size + 2), .ref h0])
  refine zputF (D := (dC, dI)) (ci := 4) (v := .ref (s.heap.size + 2)) (ty := (.array .int)) (C := RX5) (T := TX5) (N := 9) hx hb hall zx_5 tyX5 tyX5_ok nmX5 hown hK.1 hP hD hS 0 rfl rfl 6 (by decide) (hall _ zw_65) (fun _ h9 => h9) rfl hin rfl (by decide +kernel) rfl rfl (Nat.le_of_ble_eq_true rfl) dX5_init_47 (fun H113 L114 hB hP' hD' hS' => ?_)
  replace hz0 : H113.size = s.heap.size + 3 := hB.1.trans hz0
  clear hP hD hS hB
  have hP : va_P (dC, dI) vwCl [(h0, .inr (4, [.ref r1, .ref r2, .ref r3, .ref r4, .ref (s.heap.size + 0), .ref (s.heap.size + 1), .ref (s.heap.size + 2), .null, .null])), (s.heap.size + 0, .inl (aC 0, 8, .inl (fun _ => 0))), (s.heap.size + 1, .inl (aC 0, 301, .inl (fun _ => 0))), (s.heap.size + 2, .inl (aC 0, 60, .inl (fun _ => 0)))] H113 := hP'
  have hD : va_D A [(h0, .inr (4, [.ref r1, .ref r2, .ref r3, .ref r4, .ref (s.heap.size + 0), .ref (s.heap.size + 1), .ref (s.heap.size + 2), .null, .null])), (s.heap.size + 0, .inl (aC 0, 8, .inl (fun _ => 0))), (s.heap.size + 1, .inl (aC 0, 301, .inl (fun _ => 0))), (s.heap.size + 2, .inl (aC 0, 60, .inl (fun _ => 0)))] := hD'
  have hS : va_S A s.heap H113 L114 := hS'
  clear hP' hD' hS'
  clear L110 H112
  refine lv_aload_n hx hb dX5_init_50 rfl (lv_at hl 0 rfl) ?_
  refine lv_bipush (v := 42) hx hb dX5_init_51 (by decide) ?_
  refine znewa (atype := .int) (ty := .int) (cA := aC 0) (N' := 42) (a0 := (42, .inl (fun _ => 0))) hx hb (hall _ zw_4) rfl hK.1 hP hD hS hA 0 rfl (fun h => h) rfl (by decide) (by decide) (Nat.le_of_ble_eq_true rfl) (Nat.le_of_ble_eq_true rfl) (Nat.le_of_ble_eq_true rfl) dX5_init_53 (fun q115 H116 eq115 hz hB hP' hD' hS' => ?_)
  obtain rfl : q115 = s.heap.size + 3 := eq115.trans hz0
  clear eq115
  replace hz0 : H116.size = s.heap.size + 4 := by omega
  clear hz
  clear hP hD hS hB
  have hP : va_P (dC, dI) vwCl [(h0, .inr (4, [.ref r1, .ref r2, .ref r3, .ref r4, .ref (s.heap.size + 0), .ref (s.heap.size + 1), .ref (s.heap.size + 2), .null, .null])), (s.heap.size + 0, .inl (aC 0, 8, .inl (fun _ => 0))), (s.heap.size + 1, .inl (aC 0, 301, .inl (fun _ => 0))), (s.heap.size + 2, .inl (aC 0, 60, .inl (fun _ => 0))), (s.heap.size + 3, .inl (aC 0, 42, .inl (fun _ => 0)))] H116 := hP'
  have hD : va_D A [(h0, .inr (4, [.ref r1, .ref r2, .ref r3, .ref r4, .ref (s.heap.size + 0), .ref (s.heap.size + 1), .ref (s.heap.size + 2), .null, .null])), (s.heap.size + 0, .inl (aC 0, 8, .inl (fun _ => 0))), (s.heap.size + 1, .inl (aC 0, 301, .inl (fun _ => 0))), (s.heap.size + 2, .inl (aC 0, 60, .inl (fun _ => 0))), (s.heap.size + 3, .inl (aC 0, 42, .inl (fun _ => 0)))] := hD'
  have hS : va_S A s.heap H116 L114 := hS'
  clear hP' hD' hS'
  clear H113
  refine zputF (D := (dC, dI)) (ci := 4) (v := .ref (s.heap.size + 3)) (ty := (.array .int)) (C := RX5) (T := TX5) (N := 9) hx hb hall zx_5 tyX5 tyX5_ok nmX5 hown hK.1 hP hD hS 0 rfl rfl 7 (by decide) (hall _ zw_66) (fun _ h9 => h9) rfl hin rfl (by decide +kernel) rfl rfl (Nat.le_of_ble_eq_true rfl) dX5_init_55 (fun H117 L118 hB hP' hD' hS' => ?_)
  replace hz0 : H117.size = s.heap.size + 4 := hB.1.trans hz0
  clear hP hD hS hB
  have hP : va_P (dC, dI) vwCl [(h0, .inr (4, [.ref r1, .ref r2, .ref r3, .ref r4, .ref (s.heap.size + 0), .ref (s.heap.size + 1), .ref (s.heap.size + 2), .ref (s.heap.size + 3), .null])), (s.heap.size + 0, .inl (aC 0, 8, .inl (fun _ => 0))), (s.heap.size + 1, .inl (aC 0, 301, .inl (fun _ => 0))), (s.heap.size + 2, .inl (aC 0, 60, .inl (fun _ => 0))), (s.heap.size + 3, .inl (aC 0, 42, .inl (fun _ => 0)))] H117 := hP'
  have hD : va_D A [(h0, .inr (4, [.ref r1, .ref r2, .ref r3, .ref r4, .ref (s.heap.size + 0), .ref (s.heap.size + 1), .ref (s.heap.size + 2), .ref (s.heap.size + 3), .null])), (s.heap.size + 0, .inl (aC 0, 8, .inl (fun _ => 0))), (s.heap.size + 1, .inl (aC 0, 301, .inl (fun _ => 0))), (s.heap.size + 2, .inl (aC 0, 60, .inl (fun _ => 0))), (s.heap.size + 3, .inl (aC 0, 42, .inl (fun _ => 0)))] := hD'
  have hS : va_S A s.heap H117 L118 := hS'
  clear hP' hD' hS'
  clear L114 H116
  show W p l e _ s m _ below meth c _ _ _ _ QQ (F0 m 58 ls [])
  refine lv_aload_n hx hb dX5_init_58 rfl (lv_at hl 0 rfl) ?_
  refine lv_bipush (v := 42) hx hb dX5_init_59 (by decide) ?_
  refine znewa (atype := .int) (ty := .int) (cA := aC 0) (N' := 42) (a0 := (42, .inl (fun _ => 0))) hx hb (hall _ zw_4) rfl hK.1 hP hD hS hA 0 rfl (fun h => h) rfl (by decide) (by decide) (Nat.le_of_ble_eq_true rfl) (Nat.le_of_ble_eq_true rfl) (Nat.le_of_ble_eq_true rfl) dX5_init_61 (fun q119 H120 eq119 hz hB hP' hD' hS' => ?_)
  obtain rfl : q119 = s.heap.size + 4 := eq119.trans hz0
  clear eq119
  replace hz0 : H120.size = s.heap.size + 5 := by omega
  clear hz
  clear hP hD hS hB
  have hP : va_P (dC, dI) vwCl [(h0, .inr (4, [.ref r1, .ref r2, .ref r3, .ref r4, .ref (s.heap.size + 0), .ref (s.heap.size + 1), .ref (s.heap.size + 2), .ref (s.heap.size + 3), .null])), (s.heap.size + 0, .inl (aC 0, 8, .inl (fun _ => 0))), (s.heap.size + 1, .inl (aC 0, 301, .inl (fun _ => 0))), (s.heap.size + 2, .inl (aC 0, 60, .inl (fun _ => 0))), (s.heap.size + 3, .inl (aC 0, 42, .inl (fun _ => 0))), (s.heap.size + 4, .inl (aC 0, 42, .inl (fun _ => 0)))] H120 := hP'
  have hD : va_D A [(h0, .inr (4, [.ref r1, .ref r2, .ref r3, .ref r4, .ref (s.heap.size + 0), .ref (s.heap.size + 1), .ref (s.heap.size + 2), .ref (s.heap.size + 3), .null])), (s.heap.size + 0, .inl (aC 0, 8, .inl (fun _ => 0))), (s.heap.size + 1, .inl (aC 0, 301, .inl (fun _ => 0))), (s.heap.size + 2, .inl (aC 0, 60, .inl (fun _ => 0))), (s.heap.size + 3, .inl (aC 0, 42, .inl (fun _ => 0))), (s.heap.size + 4, .inl (aC 0, 42, .inl (fun _ => 0)))] := hD'
  have hS : va_S A s.heap H120 L118 := hS'
  clear hP' hD' hS'
  clear H117
  refine zputF (D := (dC, dI)) (ci := 4) (v := .ref (s.heap.size + 4)) (ty := (.array .int)) (C := RX5) (T := TX5) (N := 9) hx hb hall zx_5 tyX5 tyX5_ok nmX5 hown hK.1 hP hD hS 0 rfl rfl 8 (by decide) (hall _ zw_67) (fun _ h9 => h9) rfl hin rfl (by decide +kernel) rfl rfl (Nat.le_of_ble_eq_true rfl) dX5_init_63 (fun H121 L122 hB hP' hD' hS' => ?_)
  replace hz0 : H121.size = s.heap.size + 5 := hB.1.trans hz0
  clear hP hD hS hB
  have hP : va_P (dC, dI) vwCl [(h0, .inr (4, [.ref r1, .ref r2, .ref r3, .ref r4, .ref (s.heap.size + 0), .ref (s.heap.size + 1), .ref (s.heap.size + 2), .ref (s.heap.size + 3), .ref (s.heap.size + 4)])), (s.heap.size + 0, .inl (aC 0, 8, .inl (fun _ => 0))), (s.heap.size + 1, .inl (aC 0, 301, .inl (fun _ => 0))), (s.heap.size + 2, .inl (aC 0, 60, .inl (fun _ => 0))), (s.heap.size + 3, .inl (aC 0, 42, .inl (fun _ => 0))), (s.heap.size + 4, .inl (aC 0, 42, .inl (fun _ => 0)))] H121 := hP'
  have hD : va_D A [(h0, .inr (4, [.ref r1, .ref r2, .ref r3, .ref r4, .ref (s.heap.size + 0), .ref (s.heap.size + 1), .ref (s.heap.size + 2), .ref (s.heap.size + 3), .ref (s.heap.size + 4)])), (s.heap.size + 0, .inl (aC 0, 8, .inl (fun _ => 0))), (s.heap.size + 1, .inl (aC 0, 301, .inl (fun _ => 0))), (s.heap.size + 2, .inl (aC 0, 60, .inl (fun _ => 0))), (s.heap.size + 3, .inl (aC 0, 42, .inl (fun _ => 0))), (s.heap.size + 4, .inl (aC 0, 42, .inl (fun _ => 0)))] := hD'
  have hS : va_S A s.heap H121 L122 := hS'
  clear hP' hD' hS'
  clear L118 H120
  refine W.widen (k := 5) (n := 453) (Nat.le_of_ble_eq_true rfl) (Nat.le_of_ble_eq_true rfl) ?_
  rw [← hQ, hAe]
  exact W.vret hx hb hr (fun zt ht hW => ⟨⟨(), rfl, trivial, by rw [ht]; exact hP, hD, by rw [ht]; exact hz0⟩, hS.F ht⟩) hS.2.2 dX5_init_66

set_option maxHeartbeats 4000000 in
set_option maxRecDepth 100000 in
theorem c_X10_init (l : Launch) (dC : Nat → ClassId) (dI : Nat → Nat → Nat) (aC : Nat → ClassId) (h0 : Nat) (r1 : Nat) (sz : Nat) : Met l yX10_init w_X10_init ({ frames := 1, cells := 6, slots := 10806, locals := 24 }) (zPre (dC, dI) aC [(h0, .inr (9, [.null, .null, .int 0, .null, .int 0, .null, .int 0, .null, .int 0, .null, .int 0, .int 0, .int 0, .null, .int 0, .int 0, .int 0, .int 0, .int 0]))] sz [.ref h0, .ref r1]) (va_Qv (fun (u : Unit) => True) (fun u zt => zB (dC, dI) [(h0, .inr (9, [.ref r1, .ref (sz + 0), .int 0, .ref (sz + 1), .int 0, .ref (sz + 2), .int 0, .ref (sz + 3), .int 0, .ref (sz + 4), .int 0, .int 0, .int 0, .ref (sz + 5), .int 0, .int 0, .int 0, .int 0, .int (-1)])), (sz + 0, .inl (aC 0, 400, .inl (fun _ => 0))), (sz + 1, .inl (aC 0, 4000, .inl (fun _ => 0))), (sz + 2, .inl (aC 0, 4000, .inl (fun _ => 0))), (sz + 3, .inl (aC 0, 1203, .inl (fun _ => 0))), (sz + 4, .inl (aC 0, 802, .inl (fun _ => 0))), (sz + 5, .inl (aC 0, 401, .inl (fun _ => 0)))] (va_A [(h0, .inr (9, [.null, .null, .int 0, .null, .int 0, .null, .int 0, .null, .int 0, .null, .int 0, .int 0, .int 0, .null, .int 0, .int 0, .int 0, .int 0, .int 0]))] sz) (sz + 6) zt) (va_A [(h0, .inr (9, [.null, .null, .int 0, .null, .int 0, .null, .int 0, .null, .int 0, .null, .int 0, .int 0, .int 0, .null, .int 0, .int 0, .int 0, .int 0, .int 0]))] sz)) 6 10806 (va_A [(h0, .inr (9, [.null, .null, .int 0, .null, .int 0, .null, .int 0, .null, .int 0, .null, .int 0, .int 0, .int 0, .null, .int 0, .int 0, .int 0, .int 0, .int 0]))] sz) := by
  refine Met.ofW (cc := cX10_init) (maxL := 2) (ret := none) (by decide) rfl ?_
  intro p e s m args below meth c s₁ B hml hv
  generalize hQ : MQ below _ _ s _ _ _ = QQ
  obtain ⟨rfl, hsz, hP, hK, hD0⟩ := hv
  have hx := B.exec
  have hb := B.bytes
  have hr := B.returns
  have hts := atoms_spec (ws := w_X10_init) B.pre
  have hall := fun (w : Cond) (h : w ∈ zAll) => hts w (List.mem_cons_of_mem _ h)
  have hown : s.vm.findClass RX10 = some m.cls := findClass_of_methodNamed B.named
  have hlocks := B.notSynchronized
  have hin : meth.name = "<init>" := (name_of_methodNamed B.named B.method).1
  subst hsz
  have hD := hD0.self (sz := s.heap.size)
  generalize hAe : va_A [(h0, .inr (9, [.null, .null, .int 0, .null, .int 0, .null, .int 0, .null, .int 0, .null, .int 0, .int 0, .int 0, .null, .int 0, .int 0, .int 0, .int 0, .int 0]))] s.heap.size = A at hD ⊢
  have hA : ∀ q : Nat, s.heap.size ≤ q → A q := fun q h => by rw [← hAe]; exact Or.inr h
  have hS : va_S A s.heap s.heap [] := va_S.rf
  have hz0 : s.heap.size = s.heap.size + 0 := rfl
  have hl := lv_entry ([.ref h0, .ref r1]) (n := 2) (Nat.le_of_ble_eq_true rfl)
  rw [lg_entry_eq]
  generalize (lg_sl ([.ref h0, .ref r1]) ++ List.replicate (2 - (lg_sl ([.ref h0, .ref r1])).length) Slot.unset).toArray = ls at hl ⊢
  have hl : lv_has ls 2 [(0, .ref h0), (1, .ref r1)] := hl
  refine lv_aload_n hx hb dX10_init_0 rfl (lv_at hl 0 rfl) ?_
  refine W.objInit hx hb hown (hall _ zw_141) (hall _ zw_2) (hall _ zw_3) rfl (hl.1.trans hml.symm) rfl dX10_init_1 (Nat.le_of_ble_eq_true rfl) (Nat.le_of_ble_eq_true rfl) ?_
  refine lv_aload_n hx hb dX10_init_4 rfl (lv_at hl 0 rfl) ?_
  refine lv_aload_n hx hb dX10_init_5 rfl (lv_at hl 1 rfl) ?_
  refine zputF (D := (dC, dI)) (ci := 9) (v := .ref r1) (ty := (.object "SumHouse$Terms")) (C := RX10) (T := TX10) (N := 19) hx hb hall zx_10 tyX10 tyX10_ok nmX10 hown hK.1 hP hD hS 0 rfl rfl 0 (by decide) (hall _ zw_142) (fun _ h9 => h9) rfl hin rfl (by decide +kernel) rfl rfl (Nat.le_of_ble_eq_true rfl) dX10_init_6 (fun H123 L124 hB hP' hD' hS' => ?_)
  replace hz0 : H123.size = s.heap.size + 0 := hB.1.trans hz0
  clear hP hD hS hB
  have hP : va_P (dC, dI) vwCl [(h0, .inr (9, [.ref r1, .null, .int 0, .null, .int 0, .null, .int 0, .null, .int 0, .null, .int 0, .int 0, .int 0, .null, .int 0, .int 0, .int 0, .int 0, .int 0]))] H123 := hP'
  have hD : va_D A [(h0, .inr (9, [.ref r1, .null, .int 0, .null, .int 0, .null, .int 0, .null, .int 0, .null, .int 0, .int 0, .int 0, .null, .int 0, .int 0, .int 0, .int 0, .int 0]))] := hD'
  have hS : va_S A s.heap H123 L124 := hS'
  clear hP' hD' hS'
  show W p l e _ s m _ below meth c _ _ _ _ QQ (F0 m 9 ls [])
  refine lv_aload_n hx hb dX10_init_9 rfl (lv_at hl 0 rfl) ?_
  refine lv_sipush (v := 400) hx hb dX10_init_10 (by decide) ?_
  refine znewa (atype := .int) (ty := .int) (cA := aC 0) (N' := 400) (a0 := (400, .inl (fun _ => 0))) hx hb (hall _ zw_4) rfl hK.1 hP hD hS hA 0 rfl (fun h => h) rfl (by decide) (by decide) (Nat.le_of_ble_eq_true rfl) (Nat.le_of_ble_eq_true rfl) (Nat.le_of_ble_eq_true rfl) dX10_init_13 (fun q125 H126 eq125 hz hB hP' hD' hS' => ?_)
  obtain rfl : q125 = s.heap.size + 0 := eq125.trans hz0
  clear eq125
  replace hz0 : H126.size = s.heap.size + 1 := by omega
  clear hz
  clear hP hD hS hB
  have hP : va_P (dC, dI) vwCl [(h0, .inr (9, [.ref r1, .null, .int 0, .null, .int 0, .null, .int 0, .null, .int 0, .null, .int 0, .int 0, .int 0, .null, .int 0, .int 0, .int 0, .int 0, .int 0])), (s.heap.size + 0, .inl (aC 0, 400, .inl (fun _ => 0)))] H126 := hP'
  have hD : va_D A [(h0, .inr (9, [.ref r1, .null, .int 0, .null, .int 0, .null, .int 0, .null, .int 0, .null, .int 0, .int 0, .int 0, .null, .int 0, .int 0, .int 0, .int 0, .int 0])), (s.heap.size + 0, .inl (aC 0, 400, .inl (fun _ => 0)))] := hD'
  have hS : va_S A s.heap H126 L124 := hS'
  clear hP' hD' hS'
  clear H123
  refine zputF (D := (dC, dI)) (ci := 9) (v := .ref (s.heap.size + 0)) (ty := (.array .int)) (C := RX10) (T := TX10) (N := 19) hx hb hall zx_10 tyX10 tyX10_ok nmX10 hown hK.1 hP hD hS 0 rfl rfl 1 (by decide) (hall _ zw_143) (fun _ h9 => h9) rfl hin rfl (by decide +kernel) rfl rfl (Nat.le_of_ble_eq_true rfl) dX10_init_15 (fun H127 L128 hB hP' hD' hS' => ?_)
  replace hz0 : H127.size = s.heap.size + 1 := hB.1.trans hz0
  clear hP hD hS hB
  have hP : va_P (dC, dI) vwCl [(h0, .inr (9, [.ref r1, .ref (s.heap.size + 0), .int 0, .null, .int 0, .null, .int 0, .null, .int 0, .null, .int 0, .int 0, .int 0, .null, .int 0, .int 0, .int 0, .int 0, .int 0])), (s.heap.size + 0, .inl (aC 0, 400, .inl (fun _ => 0)))] H127 := hP'
  have hD : va_D A [(h0, .inr (9, [.ref r1, .ref (s.heap.size + 0), .int 0, .null, .int 0, .null, .int 0, .null, .int 0, .null, .int 0, .int 0, .int 0, .null, .int 0, .int 0, .int 0, .int 0, .int 0])), (s.heap.size + 0, .inl (aC 0, 400, .inl (fun _ => 0)))] := hD'
  have hS : va_S A s.heap H127 L128 := hS'
  clear hP' hD' hS'
  clear L124 H126
  refine lv_aload_n hx hb dX10_init_18 rfl (lv_at hl 0 rfl) ?_
  show W p l e _ s m _ below meth c _ _ _ _ QQ (F0 m 19 ls [.ref h0])
  refine lv_sipush (v := 4000) hx hb dX10_init_19 (by decide) ?_
  refine znewa (atype := .int) (ty := .int) (cA := aC 0) (N' := 4000) (a0 := (4000, .inl (fun _ => 0))) hx hb (hall _ zw_4) rfl hK.1 hP hD hS hA 0 rfl (fun h => h) rfl (by decide) (by decide) (Nat.le_of_ble_eq_true rfl) (Nat.le_of_ble_eq_true rfl) (Nat.le_of_ble_eq_true rfl) dX10_init_22 (fun q129 H130 eq129 hz hB hP' hD' hS' => ?_)
  obtain rfl : q129 = s.heap.size + 1 := eq129.trans hz0
  clear eq129
  replace hz0 : H130.size = s.heap.size + 2 := by omega
  clear hz
  clear hP hD hS hB
  have hP : va_P (dC, dI) vwCl [(h0, .inr (9, [.ref r1, .ref (s.heap.size + 0), .int 0, .null, .int 0, .null, .int 0, .null, .int 0, .null, .int 0, .int 0, .int 0, .null, .int 0, .int 0, .int 0, .int 0, .int 0])), (s.heap.size + 0, .inl (aC 0, 400, .inl (fun _ => 0))), (s.heap.size + 1, .inl (aC 0, 4000, .inl (fun _ => 0)))] H130 := hP'
  have hD : va_D A [(h0, .inr (9, [.ref r1, .ref (s.heap.size + 0), .int 0, .null, .int 0, .null, .int 0, .null, .int 0, .null, .int 0, .int 0, .int 0, .null, .int 0, .int 0, .int 0, .int 0, .int 0])), (s.heap.size + 0, .inl (aC 0, 400, .inl (fun _ => 0))), (s.heap.size + 1, .inl (aC 0, 4000, .inl (fun _ => 0)))] := hD'
  have hS : va_S A s.heap H130 L128 := hS'
  clear hP' hD' hS'
  clear H127
  refine zputF (D := (dC, dI)) (ci := 9) (v := .ref (s.heap.size + 1)) (ty := (.array .int)) (C := RX10) (T := TX10) (N := 19) hx hb hall zx_10 tyX10 tyX10_ok nmX10 hown hK.1 hP hD hS 0 rfl rfl 3 (by decide) (hall _ zw_144) (fun _ h9 => h9) rfl hin rfl (by decide +kernel) rfl rfl (Nat.le_of_ble_eq_true rfl) dX10_init_24 (fun H131 L132 hB hP' hD' hS' => ?_)
  replace hz0 : H131.size = s.heap.size + 2 := hB.1.trans hz0
  clear hP hD hS hB
  have hP : va_P (dC, dI) vwCl [(h0, .inr (9, [.ref r1, .ref (s.heap.size + 0), .int 0, .ref (s.heap.size + 1), .int 0, .null, .int 0, .null, .int 0, .null, .int 0, .int 0, .int 0, .null, .int 0, .int 0, .int 0, .int 0, .int 0])), (s.heap.size + 0, .inl (aC 0, 400, .inl (fun _ => 0))), (s.heap.size + 1, .inl (aC 0, 4000, .inl (fun _ => 0)))] H131 := hP'
  have hD : va_D A [(h0, .inr (9, [.ref r1, .ref (s.heap.size + 0), .int 0, .ref (s.heap.size + 1), .int 0, .null, .int 0, .null, .int 0, .null, .int 0, .int 0, .int 0, .null, .int 0, .int 0, .int 0, .int 0, .int 0])), (s.heap.size + 0, .inl (aC 0, 400, .inl (fun _ => 0))), (s.heap.size + 1, .inl (aC 0, 4000, .inl (fun _ => 0)))] := hD'
  have hS : va_S A s.heap H131 L132 := hS'
  clear hP' hD' hS'
  clear L128 H130
  refine lv_aload_n hx hb dX10_init_27 rfl (lv_at hl 0 rfl) ?_
  refine lv_sipush (v := 4000) hx hb dX10_init_28 (by decide) ?_
  show W p l e _ s m _ below meth c _ _ _ _ QQ (F0 m 31 ls [.int 4000, .ref h0])
  refine znewa (atype := .int) (ty := .int) (cA := aC 0) (N' := 4000) (a0 := (4000, .inl (fun _ => 0))) hx hb (hall _ zw_4) rfl hK.1 hP hD hS hA 0 rfl (fun h => h) rfl (by decide) (by decide) (Nat.le_of_ble_eq_true rfl) (Nat.le_of_ble_eq_true rfl) (Nat.le_of_ble_eq_true rfl) dX10_init_31 (fun q133 H134 eq133 hz hB hP' hD' hS' => ?_)
  obtain rfl : q133 = s.heap.size + 2 := eq133.trans hz0
  clear eq133
  replace hz0 : H134.size = s.heap.size + 3 := by omega
  clear hz
  clear hP hD hS hB
  have hP : va_P (dC, dI) vwCl [(h0, .inr (9, [.ref r1, .ref (s.heap.size + 0), .int 0, .ref (s.heap.size + 1), .int 0, .null, .int 0, .null, .int 0, .null, .int 0, .int 0, .int 0, .null, .int 0, .int 0, .int 0, .int 0, .int 0])), (s.heap.size + 0, .inl (aC 0, 400, .inl (fun _ => 0))), (s.heap.size + 1, .inl (aC 0, 4000, .inl (fun _ => 0))), (s.heap.size + 2, .inl (aC 0, 4000, .inl (fun _ => 0)))] H134 := hP'
  have hD : va_D A [(h0, .inr (9, [.ref r1, .ref (s.heap.size + 0), .int 0, .ref (s.heap.size + 1), .int 0, .null, .int 0, .null, .int 0, .null, .int 0, .int 0, .int 0, .null, .int 0, .int 0, .int 0, .int 0, .int 0])), (s.heap.size + 0, .inl (aC 0, 400, .inl (fun _ => 0))), (s.heap.size + 1, .inl (aC 0, 4000, .inl (fun _ => 0))), (s.heap.size + 2, .inl (aC 0, 4000, .inl (fun _ => 0)))] := hD'
  have hS : va_S A s.heap H134 L132 := hS'
  clear hP' hD' hS'
  clear H131
  refine zputF (D := (dC, dI)) (ci := 9) (v := .ref (s.heap.size + 2)) (ty := (.array .int)) (C := RX10) (T := TX10) (N := 19) hx hb hall zx_10 tyX10 tyX10_ok nmX10 hown hK.1 hP hD hS 0 rfl rfl 5 (by decide) (hall _ zw_145) (fun _ h9 => h9) rfl hin rfl (by decide +kernel) rfl rfl (Nat.le_of_ble_eq_true rfl) dX10_init_33 (fun H135 L136 hB hP' hD' hS' => ?_)
  replace hz0 : H135.size = s.heap.size + 3 := hB.1.trans hz0
  clear hP hD hS hB
  have hP : va_P (dC, dI) vwCl [(h0, .inr (9, [.ref r1, .ref (s.heap.size + 0), .int 0, .ref (s.heap.size + 1), .int 0, .ref (s.heap.size + 2), .int 0, .null, .int 0, .null, .int 0, .int 0, .int 0, .null, .int 0, .int 0, .int 0, .int 0, .int 0])), (s.heap.size + 0, .inl (aC 0, 400, .inl (fun _ => 0))), (s.heap.size + 1, .inl (aC 0, 4000, .inl (fun _ => 0))), (s.heap.size + 2, .inl (aC 0, 4000, .inl (fun _ => 0)))] H135 := hP'
  have hD : va_D A [(h0, .inr (9, [.ref r1, .ref (s.heap.size + 0), .int 0, .ref (s.heap.size + 1), .int 0, .ref (s.heap.size + 2), .int 0, .null, .int 0, .null, .int 0, .int 0, .int 0, .null, .int 0, .int 0, .int 0, .int 0, .int 0])), (s.heap.size + 0, .inl (aC 0, 400, .inl (fun _ => 0))), (s.heap.size + 1, .inl (aC 0, 4000, .inl (fun _ => 0))), (s.heap.size + 2, .inl (aC 0, 4000, .inl (fun _ => 0)))] := hD'
  have hS : va_S A s.heap H135 L136 := hS'
  clear hP' hD' hS'
  clear L132 H134
  refine lv_aload_n hx hb dX10_init_36 rfl (lv_at hl 0 rfl) ?_
  refine lv_sipush (v := 1203) hx hb dX10_init_37 (by decide) ?_
  refine znewa (atype := .int) (ty := .int) (cA := aC 0) (N' := 1203) (a0 := (1203, .inl (fun _ => 0))) hx hb (hall _ zw_4) rfl hK.1 hP hD hS hA 0 rfl (fun h => h) rfl (by decide) (by decide) (Nat.le_of_ble_eq_true rfl) (Nat.le_of_ble_eq_true rfl) (Nat.le_of_ble_eq_true rfl) dX10_init_40 (fun q137 H138 eq137 hz hB hP' hD' hS' => ?_)
  obtain rfl : q137 = s.heap.size + 3 := eq137.trans hz0
  clear eq137
  replace hz0 : H138.size = s.heap.size + 4 := by omega
  clear hz
  clear hP hD hS hB
  have hP : va_P (dC, dI) vwCl [(h0, .inr (9, [.ref r1, .ref (s.heap.size + 0), .int 0, .ref (s.heap.size + 1), .int 0, .ref (s.heap.size + 2), .int 0, .null, .int 0, .null, .int 0, .int 0, .int 0, .null, .int 0, .int 0, .int 0, .int 0, .int 0])), (s.heap.size + 0, .inl (aC 0, 400, .inl (fun _ => 0))), (s.heap.size + 1, .inl (aC 0, 4000, .inl (fun _ => 0))), (s.heap.size + 2, .inl (aC 0, 4000, .inl (fun _ => 0))), (s.heap.size + 3, .inl (aC 0, 1203, .inl (fun _ => 0)))] H138 := hP'
  have hD : va_D A [(h0, .inr (9, [.ref r1, .ref (s.heap.size + 0), .int 0, .ref (s.heap.size + 1), .int 0, .ref (s.heap.size + 2), .int 0, .null, .int 0, .null, .int 0, .int 0, .int 0, .null, .int 0, .int 0, .int 0, .int 0, .int 0])), (s.heap.size + 0, .inl (aC 0, 400, .inl (fun _ => 0))), (s.heap.size + 1, .inl (aC 0, 4000, .inl (fun _ => 0))), (s.heap.size + 2, .inl (aC 0, 4000, .inl (fun _ => 0))), (s.heap.size + 3, .inl (aC 0, 1203, .inl (fun _ => 0)))] := hD'
  have hS : va_S A s.heap H138 L136 := hS'
  clear hP' hD' hS'
  clear H135
  show W p l e _ s m _ below meth c _ _ _ _ QQ (F0 m 42 ls [.ref (s.heap.size + 3), .ref h0])
  refine zputF (D := (dC, dI)) (ci := 9) (v := .ref (s.heap.size + 3)) (ty := (.array .int)) (C := RX10) (T := TX10) (N := 19) hx hb hall zx_10 tyX10 tyX10_ok nmX10 hown hK.1 hP hD hS 0 rfl rfl 7 (by decide) (hall _ zw_146) (fun _ h9 => h9) rfl hin rfl (by decide +kernel) rfl rfl (Nat.le_of_ble_eq_true rfl) dX10_init_42 (fun H139 L140 hB hP' hD' hS' => ?_)
  replace hz0 : H139.size = s.heap.size + 4 := hB.1.trans hz0
  clear hP hD hS hB
  have hP : va_P (dC, dI) vwCl [(h0, .inr (9, [.ref r1, .ref (s.heap.size + 0), .int 0, .ref (s.heap.size + 1), .int 0, .ref (s.heap.size + 2), .int 0, .ref (s.heap.size + 3), .int 0, .null, .int 0, .int 0, .int 0, .null, .int 0, .int 0, .int 0, .int 0, .int 0])), (s.heap.size + 0, .inl (aC 0, 400, .inl (fun _ => 0))), (s.heap.size + 1, .inl (aC 0, 4000, .inl (fun _ => 0))), (s.heap.size + 2, .inl (aC 0, 4000, .inl (fun _ => 0))), (s.heap.size + 3, .inl (aC 0, 1203, .inl (fun _ => 0)))] H139 := hP'
  have hD : va_D A [(h0, .inr (9, [.ref r1, .ref (s.heap.size + 0), .int 0, .ref (s.heap.size + 1), .int 0, .ref (s.heap.size + 2), .int 0, .ref (s.heap.size + 3), .int 0, .null, .int 0, .int 0, .int 0, .null, .int 0, .int 0, .int 0, .int 0, .int 0])), (s.heap.size + 0, .inl (aC 0, 400, .inl (fun _ => 0))), (s.heap.size + 1, .inl (aC 0, 4000, .inl (fun _ => 0))), (s.heap.size + 2, .inl (aC 0, 4000, .inl (fun _ => 0))), (s.heap.size + 3, .inl (aC 0, 1203, .inl (fun _ => 0)))] := hD'
  have hS : va_S A s.heap H139 L140 := hS'
  clear hP' hD' hS'
  clear L136 H138
  refine lv_aload_n hx hb dX10_init_45 rfl (lv_at hl 0 rfl) ?_
  refine lv_sipush (v := 802) hx hb dX10_init_46 (by decide) ?_
  refine znewa (atype := .int) (ty := .int) (cA := aC 0) (N' := 802) (a0 := (802, .inl (fun _ => 0))) hx hb (hall _ zw_4) rfl hK.1 hP hD hS hA 0 rfl (fun h => h) rfl (by decide) (by decide) (Nat.le_of_ble_eq_true rfl) (Nat.le_of_ble_eq_true rfl) (Nat.le_of_ble_eq_true rfl) dX10_init_49 (fun q141 H142 eq141 hz hB hP' hD' hS' => ?_)
  obtain rfl : q141 = s.heap.size + 4 := eq141.trans hz0
  clear eq141
  replace hz0 : H142.size = s.heap.size + 5 := by omega
  clear hz
  clear hP hD hS hB
  have hP : va_P (dC, dI) vwCl [(h0, .inr (9, [.ref r1, .ref (s.heap.size + 0), .int 0, .ref (s.heap.size + 1), .int 0, .ref (s.heap.size + 2), .int 0, .ref (s.heap.size + 3), .int 0, .null, .int 0, .int 0, .int 0, .null, .int 0, .int 0, .int 0, .int 0, .int 0])), (s.heap.size + 0, .inl (aC 0, 400, .inl (fun _ => 0))), (s.heap.size + 1, .inl (aC 0, 4000, .inl (fun _ => 0))), (s.heap.size + 2, .inl (aC 0, 4000, .inl (fun _ => 0))), (s.heap.size + 3, .inl (aC 0, 1203, .inl (fun _ => 0))), (s.heap.size + 4, .inl (aC 0, 802, .inl (fun _ => 0)))] H142 := hP'
  have hD : va_D A [(h0, .inr (9, [.ref r1, .ref (s.heap.size + 0), .int 0, .ref (s.heap.size + 1), .int 0, .ref (s.heap.size + 2), .int 0, .ref (s.heap.size + 3), .int 0, .null, .int 0, .int 0, .int 0, .null, .int 0, .int 0, .int 0, .int 0, .int 0])), (s.heap.size + 0, .inl (aC 0, 400, .inl (fun _ => 0))), (s.heap.size + 1, .inl (aC 0, 4000, .inl (fun _ => 0))), (s.heap.size + 2, .inl (aC 0, 4000, .inl (fun _ => 0))), (s.heap.size + 3, .inl (aC 0, 1203, .inl (fun _ => 0))), (s.heap.size + 4, .inl (aC 0, 802, .inl (fun _ => 0)))] := hD'
  have hS : va_S A s.heap H142 L140 := hS'
  clear hP' hD' hS'
  clear H139
  refine zputF (D := (dC, dI)) (ci := 9) (v := .ref (s.heap.size + 4)) (ty := (.array .int)) (C := RX10) (T := TX10) (N := 19) hx hb hall zx_10 tyX10 tyX10_ok nmX10 hown hK.1 hP hD hS 0 rfl rfl 9 (by decide) (hall _ zw_147) (fun _ h9 => h9) rfl hin rfl (by decide +kernel) rfl rfl (Nat.le_of_ble_eq_true rfl) dX10_init_51 (fun H143 L144 hB hP' hD' hS' => ?_)
  replace hz0 : H143.size = s.heap.size + 5 := hB.1.trans hz0
  clear hP hD hS hB
  have hP : va_P (dC, dI) vwCl [(h0, .inr (9, [.ref r1, .ref (s.heap.size + 0), .int 0, .ref (s.heap.size + 1), .int 0, .ref (s.heap.size + 2), .int 0, .ref (s.heap.size + 3), .int 0, .ref (s.heap.size + 4), .int 0, .int 0, .int 0, .null, .int 0, .int 0, .int 0, .int 0, .int 0])), (s.heap.size + 0, .inl (aC 0, 400, .inl (fun _ => 0))), (s.heap.size + 1, .inl (aC 0, 4000, .inl (fun _ => 0))), (s.heap.size + 2, .inl (aC 0, 4000, .inl (fun _ => 0))), (s.heap.size + 3, .inl (aC 0, 1203, .inl (fun _ => 0))), (s.heap.size + 4, .inl (aC 0, 802, .inl (fun _ => 0)))] H143 := hP'
  have hD : va_D A [(h0, .inr (9, [.ref r1, .ref (s.heap.size + 0), .int 0, .ref (s.heap.size + 1), .int 0, .ref (s.heap.size + 2), .int 0, .ref (s.heap.size + 3), .int 0, .ref (s.heap.size + 4), .int 0, .int 0, .int 0, .null, .int 0, .int 0, .int 0, .int 0, .int 0])), (s.heap.size + 0, .inl (aC 0, 400, .inl (fun _ => 0))), (s.heap.size + 1, .inl (aC 0, 4000, .inl (fun _ => 0))), (s.heap.size + 2, .inl (aC 0, 4000, .inl (fun _ => 0))), (s.heap.size + 3, .inl (aC 0, 1203, .inl (fun _ => 0))), (s.heap.size + 4, .inl (aC 0, 802, .inl (fun _ => 0)))] := hD'
  have hS : va_S A s.heap H143 L144 := hS'
  clear hP' hD' hS'
  clear L140 H142
  show W p l e _ s m _ below meth c _ _ _ _ QQ (F0 m 54 ls [])
  refine lv_aload_n hx hb dX10_init_54 rfl (lv_at hl 0 rfl) ?_
  refine lv_sipush (v := 401) hx hb dX10_init_55 (by decide) ?_
  refine znewa (atype := .int) (ty := .int) (cA := aC 0) (N' := 401) (a0 := (401, .inl (fun _ => 0))) hx hb (hall _ zw_4) rfl hK.1 hP hD hS hA 0 rfl (fun h => h) rfl (by decide) (by decide) (Nat.le_of_ble_eq_true rfl) (Nat.le_of_ble_eq_true rfl) (Nat.le_of_ble_eq_true rfl) dX10_init_58 (fun q145 H146 eq145 hz hB hP' hD' hS' => ?_)
  obtain rfl : q145 = s.heap.size + 5 := eq145.trans hz0
  clear eq145
  replace hz0 : H146.size = s.heap.size + 6 := by omega
  clear hz
  clear hP hD hS hB
  have hP : va_P (dC, dI) vwCl [(h0, .inr (9, [.ref r1, .ref (s.heap.size + 0), .int 0, .ref (s.heap.size + 1), .int 0, .ref (s.heap.size + 2), .int 0, .ref (s.heap.size + 3), .int 0, .ref (s.heap.size + 4), .int 0, .int 0, .int 0, .null, .int 0, .int 0, .int 0, .int 0, .int 0])), (s.heap.size + 0, .inl (aC 0, 400, .inl (fun _ => 0))), (s.heap.size + 1, .inl (aC 0, 4000, .inl (fun _ => 0))), (s.heap.size + 2, .inl (aC 0, 4000, .inl (fun _ => 0))), (s.heap.size + 3, .inl (aC 0, 1203, .inl (fun _ => 0))), (s.heap.size + 4, .inl (aC 0, 802, .inl (fun _ => 0))), (s.heap.size + 5, .inl (aC 0, 401, .inl (fun _ => 0)))] H146 := hP'
  have hD : va_D A [(h0, .inr (9, [.ref r1, .ref (s.heap.size + 0), .int 0, .ref (s.heap.size + 1), .int 0, .ref (s.heap.size + 2), .int 0, .ref (s.heap.size + 3), .int 0, .ref (s.heap.size + 4), .int 0, .int 0, .int 0, .null, .int 0, .int 0, .int 0, .int 0, .int 0])), (s.heap.size + 0, .inl (aC 0, 400, .inl (fun _ => 0))), (s.heap.size + 1, .inl (aC 0, 4000, .inl (fun _ => 0))), (s.heap.size + 2, .inl (aC 0, 4000, .inl (fun _ => 0))), (s.heap.size + 3, .inl (aC 0, 1203, .inl (fun _ => 0))), (s.heap.size + 4, .inl (aC 0, 802, .inl (fun _ => 0))), (s.heap.size + 5, .inl (aC 0, 401, .inl (fun _ => 0)))] := hD'
  have hS : va_S A s.heap H146 L144 := hS'
  clear hP' hD' hS'
  clear H143
  refine zputF (D := (dC, dI)) (ci := 9) (v := .ref (s.heap.size + 5)) (ty := (.array .int)) (C := RX10) (T := TX10) (N := 19) hx hb hall zx_10 tyX10 tyX10_ok nmX10 hown hK.1 hP hD hS 0 rfl rfl 13 (by decide) (hall _ zw_148) (fun _ h9 => h9) rfl hin rfl (by decide +kernel) rfl rfl (Nat.le_of_ble_eq_true rfl) dX10_init_60 (fun H147 L148 hB hP' hD' hS' => ?_)
  replace hz0 : H147.size = s.heap.size + 6 := hB.1.trans hz0
  clear hP hD hS hB
  have hP : va_P (dC, dI) vwCl [(h0, .inr (9, [.ref r1, .ref (s.heap.size + 0), .int 0, .ref (s.heap.size + 1), .int 0, .ref (s.heap.size + 2), .int 0, .ref (s.heap.size + 3), .int 0, .ref (s.heap.size + 4), .int 0, .int 0, .int 0, .ref (s.heap.size + 5), .int 0, .int 0, .int 0, .int 0, .int 0])), (s.heap.size + 0, .inl (aC 0, 400, .inl (fun _ => 0))), (s.heap.size + 1, .inl (aC 0, 4000, .inl (fun _ => 0))), (s.heap.size + 2, .inl (aC 0, 4000, .inl (fun _ => 0))), (s.heap.size + 3, .inl (aC 0, 1203, .inl (fun _ => 0))), (s.heap.size + 4, .inl (aC 0, 802, .inl (fun _ => 0))), (s.heap.size + 5, .inl (aC 0, 401, .inl (fun _ => 0)))] H147 := hP'
  have hD : va_D A [(h0, .inr (9, [.ref r1, .ref (s.heap.size + 0), .int 0, .ref (s.heap.size + 1), .int 0, .ref (s.heap.size + 2), .int 0, .ref (s.heap.size + 3), .int 0, .ref (s.heap.size + 4), .int 0, .int 0, .int 0, .ref (s.heap.size + 5), .int 0, .int 0, .int 0, .int 0, .int 0])), (s.heap.size + 0, .inl (aC 0, 400, .inl (fun _ => 0))), (s.heap.size + 1, .inl (aC 0, 4000, .inl (fun _ => 0))), (s.heap.size + 2, .inl (aC 0, 4000, .inl (fun _ => 0))), (s.heap.size + 3, .inl (aC 0, 1203, .inl (fun _ => 0))), (s.heap.size + 4, .inl (aC 0, 802, .inl (fun _ => 0))), (s.heap.size + 5, .inl (aC 0, 401, .inl (fun _ => 0)))] := hD'
  have hS : va_S A s.heap H147 L148 := hS'
  clear hP' hD' hS'
  clear L144 H146
  refine lv_aload_n hx hb dX10_init_63 rfl (lv_at hl 0 rfl) ?_
  show W p l e _ s m _ below meth c _ _ _ _ QQ (F0 m 64 ls [.ref h0])
  refine lv_iconst (v := (-1)) hx hb dX10_init_64 (by decide) ?_
  refine zput (D := (dC, dI)) (ci := 9) (v := .int (-1)) (ty := .int) (C := RX10) (T := TX10) (N := 19) hx hb hall zx_10 tyX10 tyX10_ok nmX10 hown hK.1 hP hD hS 0 rfl rfl 18 (by decide) (hall _ zw_149) (fun _ h9 => h9) rfl (by decide +kernel) rfl rfl (Nat.le_of_ble_eq_true rfl) dX10_init_65 (fun H149 L150 hB hP' hD' hS' => ?_)
  replace hz0 : H149.size = s.heap.size + 6 := hB.1.trans hz0
  clear hP hD hS hB
  have hP : va_P (dC, dI) vwCl [(h0, .inr (9, [.ref r1, .ref (s.heap.size + 0), .int 0, .ref (s.heap.size + 1), .int 0, .ref (s.heap.size + 2), .int 0, .ref (s.heap.size + 3), .int 0, .ref (s.heap.size + 4), .int 0, .int 0, .int 0, .ref (s.heap.size + 5), .int 0, .int 0, .int 0, .int 0, .int (-1)])), (s.heap.size + 0, .inl (aC 0, 400, .inl (fun _ => 0))), (s.heap.size + 1, .inl (aC 0, 4000, .inl (fun _ => 0))), (s.heap.size + 2, .inl (aC 0, 4000, .inl (fun _ => 0))), (s.heap.size + 3, .inl (aC 0, 1203, .inl (fun _ => 0))), (s.heap.size + 4, .inl (aC 0, 802, .inl (fun _ => 0))), (s.heap.size + 5, .inl (aC 0, 401, .inl (fun _ => 0)))] H149 := hP'
  have hD : va_D A [(h0, .inr (9, [.ref r1, .ref (s.heap.size + 0), .int 0, .ref (s.heap.size + 1), .int 0, .ref (s.heap.size + 2), .int 0, .ref (s.heap.size + 3), .int 0, .ref (s.heap.size + 4), .int 0, .int 0, .int 0, .ref (s.heap.size + 5), .int 0, .int 0, .int 0, .int 0, .int (-1)])), (s.heap.size + 0, .inl (aC 0, 400, .inl (fun _ => 0))), (s.heap.size + 1, .inl (aC 0, 4000, .inl (fun _ => 0))), (s.heap.size + 2, .inl (aC 0, 4000, .inl (fun _ => 0))), (s.heap.size + 3, .inl (aC 0, 1203, .inl (fun _ => 0))), (s.heap.size + 4, .inl (aC 0, 802, .inl (fun _ => 0))), (s.heap.size + 5, .inl (aC 0, 401, .inl (fun _ => 0)))] := hD'
  have hS : va_S A s.heap H149 L150 := hS'
  clear hP' hD' hS'
  clear L148 H147
  refine W.widen (k := 6) (n := 10806) (Nat.le_of_ble_eq_true rfl) (Nat.le_of_ble_eq_true rfl) ?_
  rw [← hQ, hAe]
  exact W.vret hx hb hr (fun zt ht hW => ⟨⟨(), rfl, trivial, by rw [ht]; exact hP, hD, by rw [ht]; exact hz0⟩, hS.F ht⟩) hS.2.2 dX10_init_68
