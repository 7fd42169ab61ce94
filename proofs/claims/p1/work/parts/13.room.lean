theorem dX4_get_0 : decode cX4_get 0 = .ok (.iload_n 1, 1) := by decide +kernel
theorem dX4_get_1 : decode cX4_get 1 = .ok (.ifCond .lt 18, 3) := by decide +kernel
theorem dX4_get_19 : decode cX4_get 19 = .ok (.iconst 0, 1) := by decide +kernel
theorem dX4_get_20 : decode cX4_get 20 = .ok (.ireturn, 1) := by decide +kernel
theorem dX4_get_4 : decode cX4_get 4 = .ok (.iload_n 1, 1) := by decide +kernel
theorem dX4_get_5 : decode cX4_get 5 = .ok (.ldc 11, 2) := by decide +kernel
theorem dX4_get_7 : decode cX4_get 7 = .ok (.if_icmp .ge 12, 3) := by decide +kernel
theorem dX4_get_10 : decode cX4_get 10 = .ok (.aload_n 0, 1) := by decide +kernel
theorem dX4_get_11 : decode cX4_get 11 = .ok (.getfield 12, 3) := by decide +kernel
theorem dX4_get_14 : decode cX4_get 14 = .ok (.iload_n 1, 1) := by decide +kernel
theorem dX4_get_15 : decode cX4_get 15 = .ok (.iaload, 1) := by decide +kernel
theorem dX4_get_16 : decode cX4_get 16 = .ok (.goto 4, 3) := by decide +kernel
theorem dX4_width_0 : decode cX4_width 0 = .ok (.iload_n 1, 1) := by decide +kernel
theorem dX4_width_1 : decode cX4_width 1 = .ok (.ifCond .lt 18, 3) := by decide +kernel
theorem dX4_width_19 : decode cX4_width 19 = .ok (.iconst 0, 1) := by decide +kernel
theorem dX4_width_20 : decode cX4_width 20 = .ok (.ireturn, 1) := by decide +kernel
theorem dX4_width_4 : decode cX4_width 4 = .ok (.iload_n 1, 1) := by decide +kernel
theorem dX4_width_5 : decode cX4_width 5 = .ok (.ldc 24, 2) := by decide +kernel
theorem dX4_width_7 : decode cX4_width 7 = .ok (.if_icmp .ge 12, 3) := by decide +kernel
theorem dX4_width_10 : decode cX4_width 10 = .ok (.aload_n 0, 1) := by decide +kernel
theorem dX4_width_11 : decode cX4_width 11 = .ok (.getfield 12, 3) := by decide +kernel
theorem dX4_width_14 : decode cX4_width 14 = .ok (.iload_n 1, 1) := by decide +kernel
theorem dX4_width_15 : decode cX4_width 15 = .ok (.iaload, 1) := by decide +kernel
theorem dX4_width_16 : decode cX4_width 16 = .ok (.goto 4, 3) := by decide +kernel
theorem dX4_height_0 : decode cX4_height 0 = .ok (.iload_n 1, 1) := by decide +kernel
theorem dX4_height_1 : decode cX4_height 1 = .ok (.ifCond .lt 20, 3) := by decide +kernel
theorem dX4_height_21 : decode cX4_height 21 = .ok (.iconst 0, 1) := by decide +kernel
theorem dX4_height_22 : decode cX4_height 22 = .ok (.ireturn, 1) := by decide +kernel
theorem dX4_height_4 : decode cX4_height 4 = .ok (.iload_n 1, 1) := by decide +kernel
theorem dX4_height_5 : decode cX4_height 5 = .ok (.ldc 24, 2) := by decide +kernel
theorem dX4_height_7 : decode cX4_height 7 = .ok (.if_icmp .ge 14, 3) := by decide +kernel
theorem dX4_height_10 : decode cX4_height 10 = .ok (.aload_n 0, 1) := by decide +kernel
theorem dX4_height_11 : decode cX4_height 11 = .ok (.getfield 12, 3) := by decide +kernel
theorem dX4_height_14 : decode cX4_height 14 = .ok (.iload_n 1, 1) := by decide +kernel
theorem dX4_height_15 : decode cX4_height 15 = .ok (.iconst 1, 1) := by decide +kernel
theorem dX4_height_16 : decode cX4_height 16 = .ok (.iadd, 1) := by decide +kernel
theorem dX4_height_17 : decode cX4_height 17 = .ok (.iaload, 1) := by decide +kernel
theorem dX4_height_18 : decode cX4_height 18 = .ok (.goto 4, 3) := by decide +kernel
theorem dX4_span_0 : decode cX4_span 0 = .ok (.iload_n 1, 1) := by decide +kernel
theorem dX4_span_1 : decode cX4_span 1 = .ok (.ifCond .lt 33, 3) := by decide +kernel
theorem dX4_span_34 : decode cX4_span 34 = .ok (.iconst 0, 1) := by decide +kernel
theorem dX4_span_35 : decode cX4_span 35 = .ok (.ireturn, 1) := by decide +kernel
theorem dX4_span_4 : decode cX4_span 4 = .ok (.iload_n 1, 1) := by decide +kernel
theorem dX4_span_5 : decode cX4_span 5 = .ok (.ldc 24, 2) := by decide +kernel
theorem dX4_span_7 : decode cX4_span 7 = .ok (.if_icmp .ge 27, 3) := by decide +kernel
theorem dX4_span_10 : decode cX4_span 10 = .ok (.iconst 2, 1) := by decide +kernel
theorem dX4_span_11 : decode cX4_span 11 = .ok (.aload_n 0, 1) := by decide +kernel
theorem dX4_span_12 : decode cX4_span 12 = .ok (.getfield 12, 3) := by decide +kernel
theorem dX4_span_15 : decode cX4_span 15 = .ok (.iload_n 1, 1) := by decide +kernel
theorem dX4_span_16 : decode cX4_span 16 = .ok (.iaload, 1) := by decide +kernel
theorem dX4_span_17 : decode cX4_span 17 = .ok (.iconst 1, 1) := by decide +kernel
theorem dX4_span_18 : decode cX4_span 18 = .ok (.iadd, 1) := by decide +kernel
theorem dX4_span_19 : decode cX4_span 19 = .ok (.aload_n 0, 1) := by decide +kernel
theorem dX4_span_20 : decode cX4_span 20 = .ok (.getfield 12, 3) := by decide +kernel
theorem dX4_span_23 : decode cX4_span 23 = .ok (.iload_n 1, 1) := by decide +kernel
theorem dX4_span_24 : decode cX4_span 24 = .ok (.iconst 1, 1) := by decide +kernel
theorem dX4_span_25 : decode cX4_span 25 = .ok (.iadd, 1) := by decide +kernel
theorem dX4_span_26 : decode cX4_span 26 = .ok (.iaload, 1) := by decide +kernel
theorem dX4_span_27 : decode cX4_span 27 = .ok (.iconst 1, 1) := by decide +kernel
theorem dX4_span_28 : decode cX4_span 28 = .ok (.iadd, 1) := by decide +kernel
theorem dX4_span_29 : decode cX4_span 29 = .ok (.imul, 1) := by decide +kernel
theorem dX4_span_30 : decode cX4_span 30 = .ok (.iadd, 1) := by decide +kernel
theorem dX4_span_31 : decode cX4_span 31 = .ok (.goto 4, 3) := by decide +kernel
theorem dX4_rowOf_0 : decode cX4_rowOf 0 = .ok (.iload_n 1, 1) := by decide +kernel
theorem dX4_rowOf_1 : decode cX4_rowOf 1 = .ok (.ifCond .lt 26, 3) := by decide +kernel
theorem dX4_rowOf_27 : decode cX4_rowOf 27 = .ok (.iconst 0, 1) := by decide +kernel
theorem dX4_rowOf_28 : decode cX4_rowOf 28 = .ok (.ireturn, 1) := by decide +kernel
theorem dX4_rowOf_4 : decode cX4_rowOf 4 = .ok (.iload_n 1, 1) := by decide +kernel
theorem dX4_rowOf_5 : decode cX4_rowOf 5 = .ok (.ldc 24, 2) := by decide +kernel
theorem dX4_rowOf_7 : decode cX4_rowOf 7 = .ok (.if_icmp .ge 20, 3) := by decide +kernel
theorem dX4_rowOf_10 : decode cX4_rowOf 10 = .ok (.iload_n 1, 1) := by decide +kernel
theorem dX4_rowOf_11 : decode cX4_rowOf 11 = .ok (.iconst 2, 1) := by decide +kernel
theorem dX4_rowOf_12 : decode cX4_rowOf 12 = .ok (.iadd, 1) := by decide +kernel
theorem dX4_rowOf_13 : decode cX4_rowOf 13 = .ok (.iload_n 2, 1) := by decide +kernel
theorem dX4_rowOf_14 : decode cX4_rowOf 14 = .ok (.aload_n 0, 1) := by decide +kernel
theorem dX4_rowOf_15 : decode cX4_rowOf 15 = .ok (.getfield 12, 3) := by decide +kernel
theorem dX4_rowOf_18 : decode cX4_rowOf 18 = .ok (.iload_n 1, 1) := by decide +kernel
theorem dX4_rowOf_19 : decode cX4_rowOf 19 = .ok (.iaload, 1) := by decide +kernel
theorem dX4_rowOf_20 : decode cX4_rowOf 20 = .ok (.iconst 1, 1) := by decide +kernel
theorem dX4_rowOf_21 : decode cX4_rowOf 21 = .ok (.iadd, 1) := by decide +kernel
theorem dX4_rowOf_22 : decode cX4_rowOf 22 = .ok (.imul, 1) := by decide +kernel
theorem dX4_rowOf_23 : decode cX4_rowOf 23 = .ok (.iadd, 1) := by decide +kernel
theorem dX4_rowOf_24 : decode cX4_rowOf 24 = .ok (.goto 4, 3) := by decide +kernel
theorem dX1_rest_0 : decode cX1_rest 0 = .ok (.lload_n 0, 1) := by decide +kernel
theorem dX1_rest_1 : decode cX1_rest 1 = .ok (.ldc2_w 9, 3) := by decide +kernel
theorem dX1_rest_4 : decode cX1_rest 4 = .ok (.lrem, 1) := by decide +kernel
theorem dX1_rest_5 : decode cX1_rest 5 = .ok (.lstore_n 2, 1) := by decide +kernel
theorem dX1_rest_6 : decode cX1_rest 6 = .ok (.lload_n 2, 1) := by decide +kernel
theorem dX1_rest_7 : decode cX1_rest 7 = .ok (.lconst 0, 1) := by decide +kernel
theorem dX1_rest_8 : decode cX1_rest 8 = .ok (.lcmp, 1) := by decide +kernel
theorem dX1_rest_9 : decode cX1_rest 9 = .ok (.ifCond .ge 11, 3) := by decide +kernel
theorem dX1_rest_20 : decode cX1_rest 20 = .ok (.lload_n 2, 1) := by decide +kernel
theorem dX1_rest_21 : decode cX1_rest 21 = .ok (.l2i, 1) := by decide +kernel
theorem dX1_rest_22 : decode cX1_rest 22 = .ok (.ireturn, 1) := by decide +kernel
theorem dX1_rest_12 : decode cX1_rest 12 = .ok (.lload_n 2, 1) := by decide +kernel
theorem dX1_rest_13 : decode cX1_rest 13 = .ok (.ldc2_w 9, 3) := by decide +kernel
theorem dX1_rest_16 : decode cX1_rest 16 = .ok (.ladd, 1) := by decide +kernel
theorem dX1_rest_17 : decode cX1_rest 17 = .ok (.goto 4, 3) := by decide +kernel
theorem dX4_put_0 : decode cX4_put 0 = .ok (.iload_n 1, 1) := by decide +kernel
theorem dX4_put_1 : decode cX4_put 1 = .ok (.sipush 2048, 3) := by decide +kernel
theorem dX4_put_4 : decode cX4_put 4 = .ok (.if_icmp .lt 16, 3) := by decide +kernel
theorem dX4_put_20 : decode cX4_put 20 = .ok (.return_, 1) := by decide +kernel
theorem dX4_put_7 : decode cX4_put 7 = .ok (.iload_n 1, 1) := by decide +kernel
theorem dX4_put_8 : decode cX4_put 8 = .ok (.ldc 11, 2) := by decide +kernel
theorem dX4_put_10 : decode cX4_put 10 = .ok (.if_icmp .ge 10, 3) := by decide +kernel
theorem dX4_put_13 : decode cX4_put 13 = .ok (.aload_n 0, 1) := by decide +kernel
theorem dX4_put_14 : decode cX4_put 14 = .ok (.getfield 12, 3) := by decide +kernel
theorem dX4_put_17 : decode cX4_put 17 = .ok (.iload_n 1, 1) := by decide +kernel
theorem dX4_put_18 : decode cX4_put 18 = .ok (.iload_n 2, 1) := by decide +kernel
theorem dX4_put_19 : decode cX4_put 19 = .ok (.iastore, 1) := by decide +kernel
theorem dX4_empty_0 : decode cX4_empty 0 = .ok (.aload_n 0, 1) := by decide +kernel
theorem dX4_empty_1 : decode cX4_empty 1 = .ok (.sipush 2048, 3) := by decide +kernel
theorem dX4_empty_4 : decode cX4_empty 4 = .ok (.putfield 16, 3) := by decide +kernel
theorem dX4_empty_7 : decode cX4_empty 7 = .ok (.aload_n 0, 1) := by decide +kernel
theorem dX4_empty_8 : decode cX4_empty 8 = .ok (.iconst 0, 1) := by decide +kernel
theorem dX4_empty_9 : decode cX4_empty 9 = .ok (.putfield 20, 3) := by decide +kernel
theorem dX4_empty_12 : decode cX4_empty 12 = .ok (.return_, 1) := by decide +kernel
theorem dX4_take_0 : decode cX4_take 0 = .ok (.iload_n 1, 1) := by decide +kernel
theorem dX4_take_1 : decode cX4_take 1 = .ok (.ifCond .lt 14, 3) := by decide +kernel
theorem dX4_take_4 : decode cX4_take 4 = .ok (.iload_n 1, 1) := by decide +kernel
theorem dX4_take_5 : decode cX4_take 5 = .ok (.ldc 11, 2) := by decide +kernel
theorem dX4_take_7 : decode cX4_take 7 = .ok (.aload_n 0, 1) := by decide +kernel
theorem dX4_take_8 : decode cX4_take 8 = .ok (.getfield 16, 3) := by decide +kernel
theorem dX4_take_11 : decode cX4_take 11 = .ok (.isub, 1) := by decide +kernel
theorem dX4_take_12 : decode cX4_take 12 = .ok (.if_icmp .le 10, 3) := by decide +kernel
theorem dX4_take_22 : decode cX4_take 22 = .ok (.aload_n 0, 1) := by decide +kernel
theorem dX4_take_23 : decode cX4_take 23 = .ok (.getfield 16, 3) := by decide +kernel
theorem dX4_take_26 : decode cX4_take 26 = .ok (.istore_n 2, 1) := by decide +kernel
theorem dX4_take_27 : decode cX4_take 27 = .ok (.aload_n 0, 1) := by decide +kernel
theorem dX4_take_28 : decode cX4_take 28 = .ok (.dup, 1) := by decide +kernel
theorem dX4_take_29 : decode cX4_take 29 = .ok (.getfield 16, 3) := by decide +kernel
theorem dX4_take_32 : decode cX4_take 32 = .ok (.iload_n 1, 1) := by decide +kernel
theorem dX4_take_33 : decode cX4_take 33 = .ok (.iadd, 1) := by decide +kernel
theorem dX4_take_34 : decode cX4_take 34 = .ok (.putfield 16, 3) := by decide +kernel
theorem dX4_take_37 : decode cX4_take 37 = .ok (.iload_n 2, 1) := by decide +kernel
theorem dX4_take_38 : decode cX4_take 38 = .ok (.istore_n 3, 1) := by decide +kernel
theorem dX4_take_39 : decode cX4_take 39 = .ok (.iload_n 3, 1) := by decide +kernel
theorem dX4_take_40 : decode cX4_take 40 = .ok (.aload_n 0, 1) := by decide +kernel
theorem dX4_take_41 : decode cX4_take 41 = .ok (.getfield 16, 3) := by decide +kernel
theorem dX4_take_44 : decode cX4_take 44 = .ok (.if_icmp .ge 16, 3) := by decide +kernel
theorem dX4_take_47 : decode cX4_take 47 = .ok (.aload_n 0, 1) := by decide +kernel
theorem dX4_take_48 : decode cX4_take 48 = .ok (.getfield 12, 3) := by decide +kernel
theorem dX4_take_51 : decode cX4_take 51 = .ok (.iload_n 3, 1) := by decide +kernel
theorem dX4_take_52 : decode cX4_take 52 = .ok (.iconst 0, 1) := by decide +kernel
theorem dX4_take_53 : decode cX4_take 53 = .ok (.iastore, 1) := by decide +kernel
theorem dX4_take_54 : decode cX4_take 54 = .ok (.iinc 3 1, 3) := by decide +kernel
theorem dX4_take_57 : decode cX4_take 57 = .ok (.goto (-18), 3) := by decide +kernel
theorem dX4_take_60 : decode cX4_take 60 = .ok (.iload_n 2, 1) := by decide +kernel
theorem dX4_take_61 : decode cX4_take 61 = .ok (.ireturn, 1) := by decide +kernel
theorem dX4_constant_0 : decode cX4_constant 0 = .ok (.ldc 11, 2) := by decide +kernel
theorem dX4_constant_2 : decode cX4_constant 2 = .ok (.aload_n 0, 1) := by decide +kernel
theorem dX4_constant_3 : decode cX4_constant 3 = .ok (.getfield 16, 3) := by decide +kernel
theorem dX4_constant_6 : decode cX4_constant 6 = .ok (.isub, 1) := by decide +kernel
theorem dX4_constant_7 : decode cX4_constant 7 = .ok (.iconst 3, 1) := by decide +kernel
theorem dX4_constant_8 : decode cX4_constant 8 = .ok (.if_icmp .ge 10, 3) := by decide +kernel
theorem dX4_constant_18 : decode cX4_constant 18 = .ok (.aload_n 0, 1) := by decide +kernel
theorem dX4_constant_19 : decode cX4_constant 19 = .ok (.getfield 12, 3) := by decide +kernel
theorem dX4_constant_22 : decode cX4_constant 22 = .ok (.aload_n 0, 1) := by decide +kernel
theorem dX4_constant_23 : decode cX4_constant 23 = .ok (.getfield 16, 3) := by decide +kernel
theorem dX4_constant_26 : decode cX4_constant 26 = .ok (.iconst 0, 1) := by decide +kernel
theorem dX4_constant_27 : decode cX4_constant 27 = .ok (.iastore, 1) := by decide +kernel
theorem dX4_constant_28 : decode cX4_constant 28 = .ok (.aload_n 0, 1) := by decide +kernel
theorem dX4_constant_29 : decode cX4_constant 29 = .ok (.getfield 12, 3) := by decide +kernel
theorem dX4_constant_32 : decode cX4_constant 32 = .ok (.aload_n 0, 1) := by decide +kernel
theorem dX4_constant_33 : decode cX4_constant 33 = .ok (.getfield 16, 3) := by decide +kernel
theorem dX4_constant_36 : decode cX4_constant 36 = .ok (.iconst 1, 1) := by decide +kernel
theorem dX4_constant_37 : decode cX4_constant 37 = .ok (.iadd, 1) := by decide +kernel
theorem dX4_constant_38 : decode cX4_constant 38 = .ok (.iconst 0, 1) := by decide +kernel
theorem dX4_constant_39 : decode cX4_constant 39 = .ok (.iastore, 1) := by decide +kernel
theorem dX4_constant_40 : decode cX4_constant 40 = .ok (.aload_n 0, 1) := by decide +kernel
theorem dX4_constant_41 : decode cX4_constant 41 = .ok (.getfield 12, 3) := by decide +kernel
theorem dX4_constant_44 : decode cX4_constant 44 = .ok (.aload_n 0, 1) := by decide +kernel
theorem dX4_constant_45 : decode cX4_constant 45 = .ok (.getfield 16, 3) := by decide +kernel
theorem dX4_constant_48 : decode cX4_constant 48 = .ok (.iconst 2, 1) := by decide +kernel
theorem dX4_constant_49 : decode cX4_constant 49 = .ok (.iadd, 1) := by decide +kernel
theorem dX4_constant_50 : decode cX4_constant 50 = .ok (.iload_n 1, 1) := by decide +kernel
theorem dX4_constant_51 : decode cX4_constant 51 = .ok (.iastore, 1) := by decide +kernel
theorem dX4_constant_52 : decode cX4_constant 52 = .ok (.aload_n 0, 1) := by decide +kernel
theorem dX4_constant_53 : decode cX4_constant 53 = .ok (.dup, 1) := by decide +kernel
theorem dX4_constant_54 : decode cX4_constant 54 = .ok (.getfield 16, 3) := by decide +kernel
theorem dX4_constant_57 : decode cX4_constant 57 = .ok (.iconst 3, 1) := by decide +kernel
theorem dX4_constant_58 : decode cX4_constant 58 = .ok (.iadd, 1) := by decide +kernel
theorem dX4_constant_59 : decode cX4_constant 59 = .ok (.putfield 16, 3) := by decide +kernel
theorem dX4_constant_62 : decode cX4_constant 62 = .ok (.aload_n 0, 1) := by decide +kernel
theorem dX4_constant_63 : decode cX4_constant 63 = .ok (.getfield 16, 3) := by decide +kernel
theorem dX4_constant_66 : decode cX4_constant 66 = .ok (.iconst 3, 1) := by decide +kernel
theorem dX4_constant_67 : decode cX4_constant 67 = .ok (.isub, 1) := by decide +kernel
theorem dX4_constant_68 : decode cX4_constant 68 = .ok (.ireturn, 1) := by decide +kernel
theorem zin {x : Int32} {N : Nat} (h0 : ¬ x < 0) (h1 : ¬ nI N ≤ x) (hN : N < 2 ^ 31) : vp_in x N := by
  rcases pk_ix x hN with h | h | ⟨j, hj, rfl⟩
  · exact absurd h h0
  · exact absurd h h1
  · exact vp_in_nI hj hN
/-- what the house's memory answers at a place -/
def zget (f : Nat → Int32) (x : Int32) : Int32 := if x < 0 then 0 else if 131072 ≤ x then 0 else f x.toNatClampNeg
def zputA (f : Nat → Int32) (x v : Int32) : Nat → Int32 := if x < 2048 then f else if 131072 ≤ x then f else upd f x.toNatClampNeg v
def zwidth (f : Nat → Int32) (x : Int32) : Int32 := if x < 0 then 0 else if 131070 ≤ x then 0 else f x.toNatClampNeg
def zheight (f : Nat → Int32) (x : Int32) : Int32 := if x < 0 then 0 else if 131070 ≤ x then 0 else f (x + 1).toNatClampNeg
def zspan (f : Nat → Int32) (x : Int32) : Int32 := if x < 0 then 0 else if 131070 ≤ x then 0 else 2 + (f x.toNatClampNeg + 1) * (f (x + 1).toNatClampNeg + 1)
def zrowOf (f : Nat → Int32) (x j : Int32) : Int32 := if x < 0 then 0 else if 131070 ≤ x then 0 else x + 2 + j * (f x.toNatClampNeg + 1)
theorem zin1 {x : Int32} {M N : Nat} (h0 : ¬ x < 0) (h1 : ¬ nI M ≤ x) (hM : M < N) (hN : N < 2 ^ 31) : vp_in (x + 1) N := by
  rcases pk_ix x (show M < 2 ^ 31 by omega) with h | h | ⟨j, hj, rfl⟩
  · exact absurd h h0
  · exact absurd h h1
  · rw [nI_1]; exact vp_in_nI (by omega) hN
theorem zinM {x : Int32} {M N : Nat} (h0 : ¬ x < 0) (h1 : ¬ nI M ≤ x) (hM : M ≤ N) (hN : N < 2 ^ 31) : vp_in x N := by
  rcases pk_ix x (show M < 2 ^ 31 by omega) with h | h | ⟨j, hj, rfl⟩
  · exact absurd h h0
  · exact absurd h h1
  · exact vp_in_nI (by omega) hN
def zclear (f : Nat → Int32) (t i : Nat) : Nat → Int32 := fun j => if t ≤ j ∧ j < t + i then 0 else f j
theorem zclear_0 (f : Nat → Int32) (t : Nat) : zclear f t 0 = f := by
  funext j; simp [zclear]; omega
theorem zclear_1 (f : Nat → Int32) (t i : Nat) : upd (zclear f t i) (t + i) 0 = zclear f t (i + 1) := by
  funext j
  by_cases h : j = t + i
  · subst h; simp [upd, zclear]
  · by_cases h2 : t ≤ j ∧ j < t + i
    · simp [upd, zclear, h, h2, show t ≤ j ∧ j < t + (i + 1) by omega]
    · simp [upd, zclear, h, h2, show ¬ (t ≤ j ∧ j < t + (i + 1)) by omega]
def zcst (f : Nat → Int32) (t : Nat) (v : Int32) : Nat → Int32 := upd (upd (upd f t 0) (t + 1) 0) (t + 2) v
/-- a long's rest by P, 0 .. P - 1 -/
def zrest (v : Int64) : Int32 := if 0 ≤ v - v / 2147483647 * 2147483647 then (v - v / 2147483647 * 2147483647).toInt32 else ((v - v / 2147483647 * 2147483647) + 2147483647).toInt32

set_option maxHeartbeats 4000000 in
set_option maxRecDepth 100000 in
theorem c_X4_get (l : Launch) (dC : Nat → ClassId) (dI : Nat → Nat → Nat) (aC : Nat → ClassId) (h0 ca : Nat) (t fl : Int32) (f : Nat → Int32) (x : Int32) (sz : Nat) : Met l yX4_get w_X4_get ({ frames := 1, cells := 0, slots := 0, locals := 24 }) (zPre (dC, dI) aC [(h0, .inr (3, [.ref ca, .int t, .int fl])), (ca, .inl (aC 0, 131072, .inl f))] sz [.ref h0, .int x]) (va_Qi (fun (r : Int32) (_ : Unit) => r = zget f x) (fun _ zt => zt.heap.size = sz) (zN sz)) 0 0 (zN sz) := by
  refine Met.ofW (cc := cX4_get) (maxL := 2) (ret := (some .int)) (by decide) rfl ?_
  intro p e s m args below meth c s₁ B hml hv
  generalize hQ : MQ below _ _ s _ _ _ = QQ
  obtain ⟨rfl, hsz, hP, hK, hD0⟩ := hv
  have hx := B.exec
  have hb := B.bytes
  have hr := B.returns
  have hts := atoms_spec (ws := w_X4_get) B.pre
  have hall := fun (w : Cond) (h : w ∈ zAll) => hts w (List.mem_cons_of_mem _ h)
  have hown : s.vm.findClass RX4 = some m.cls := findClass_of_methodNamed B.named
  have hlocks := B.notSynchronized
  subst hsz
  have hA : ∀ q : Nat, s.heap.size ≤ q → zN s.heap.size q := fun q h => h
  have hS : va_S (zN s.heap.size) s.heap s.heap [] := va_S.rf
  have hD := hD0
  have hl := lv_entry ([.ref h0, .int x]) (n := 2) (Nat.le_of_ble_eq_true rfl)
  rw [lg_entry_eq]
  generalize (lg_sl ([.ref h0, .int x]) ++ List.replicate (2 - (lg_sl ([.ref h0, .int x])).length) Slot.unset).toArray = ls at hl ⊢
  have hl : lv_has ls 2 [(0, .ref h0), (1, .int x)] := hl
  refine lv_iload_n hx hb dX4_get_0 rfl (lv_at hl 1 rfl) ?_
  refine lv_if_lt (tgt := 19) hx hb dX4_get_1 (by decide) (fun c_1_b5096 => ?_) (fun c_1_b5096 => ?_)
  · refine lv_iconst (v := 0) hx hb dX4_get_19 (by decide) ?_
    rw [← hQ]
    exact W.iret (v := 0) hx hb hr (fun zt ht hW => ⟨⟨0, (), rfl, by simp [zget, c_1_b5096], (show zt.heap.size = s.heap.size by rw [ht])⟩, hS.F ht⟩) hS.2.2 dX4_get_20
  · refine lv_iload_n hx hb dX4_get_4 rfl (lv_at hl 1 rfl) ?_
    refine lv_ldc hx hb hown (hall _ zw_18) dX4_get_5 ?_
    refine lv_icmp_ge (tgt := 19) hx hb dX4_get_7 (by decide) (fun c_7_b5097 => ?_) (fun c_7_b5097 => ?_)
    · refine lv_iconst (v := 0) hx hb dX4_get_19 (by decide) ?_
      rw [← hQ]
      exact W.iret (v := 0) hx hb hr (fun zt ht hW => ⟨⟨0, (), rfl, by simp [zget, c_1_b5096, c_7_b5097], (show zt.heap.size = s.heap.size by rw [ht])⟩, hS.F ht⟩) hS.2.2 dX4_get_20
    · refine lv_aload_n hx hb dX4_get_10 rfl (lv_at hl 0 rfl) ?_
      refine va_get (D := (dC, dI)) (ci := 3) (v := .ref ca) (C := RX4) (T := TX4) (N := 3) hx hb hall zx_4 hown hK.1 hP 0 rfl rfl 0 (by decide) (hall _ zw_19) (fun _ h9 => h9) rfl dX4_get_11 ?_
      show W p l e _ s m _ below meth c _ _ _ _ QQ (F0 m 14 ls [.ref ca])
      refine lv_iload_n hx hb dX4_get_14 rfl (lv_at hl 1 rfl) ?_
      refine va_iald hx hb hK.1 hP 1 0 rfl rfl (zin c_1_b5096 c_7_b5097 (by decide)) dX4_get_15 ?_
      refine lv_goto (tgt := 20) hx hb dX4_get_16 (by decide) ?_
      rw [← hQ]
      exact W.iret (v := f x.toNatClampNeg) hx hb hr (fun zt ht hW => ⟨⟨f x.toNatClampNeg, (), rfl, by simp [zget, c_1_b5096, c_7_b5097], (show zt.heap.size = s.heap.size by rw [ht])⟩, hS.F ht⟩) hS.2.2 dX4_get_20

set_option maxHeartbeats 4000000 in
set_option maxRecDepth 100000 in
theorem c_X4_width (l : Launch) (dC : Nat → ClassId) (dI : Nat → Nat → Nat) (aC : Nat → ClassId) (h0 ca : Nat) (t fl : Int32) (f : Nat → Int32) (x : Int32) (sz : Nat) : Met l yX4_width w_X4_width ({ frames := 1, cells := 0, slots := 0, locals := 24 }) (zPre (dC, dI) aC [(h0, .inr (3, [.ref ca, .int t, .int fl])), (ca, .inl (aC 0, 131072, .inl f))] sz [.ref h0, .int x]) (va_Qi (fun (r : Int32) (_ : Unit) => r = zwidth f x) (fun _ zt => zt.heap.size = sz) (zN sz)) 0 0 (zN sz) := by
  refine Met.ofW (cc := cX4_width) (maxL := 2) (ret := (some .int)) (by decide) rfl ?_
  intro p e s m args below meth c s₁ B hml hv
  generalize hQ : MQ below _ _ s _ _ _ = QQ
  obtain ⟨rfl, hsz, hP, hK, hD0⟩ := hv
  have hx := B.exec
  have hb := B.bytes
  have hr := B.returns
  have hts := atoms_spec (ws := w_X4_width) B.pre
  have hall := fun (w : Cond) (h : w ∈ zAll) => hts w (List.mem_cons_of_mem _ h)
  have hown : s.vm.findClass RX4 = some m.cls := findClass_of_methodNamed B.named
  have hlocks := B.notSynchronized
  subst hsz
  have hA : ∀ q : Nat, s.heap.size ≤ q → zN s.heap.size q := fun q h => h
  have hS : va_S (zN s.heap.size) s.heap s.heap [] := va_S.rf
  have hD := hD0
  have hl := lv_entry ([.ref h0, .int x]) (n := 2) (Nat.le_of_ble_eq_true rfl)
  rw [lg_entry_eq]
  generalize (lg_sl ([.ref h0, .int x]) ++ List.replicate (2 - (lg_sl ([.ref h0, .int x])).length) Slot.unset).toArray = ls at hl ⊢
  have hl : lv_has ls 2 [(0, .ref h0), (1, .int x)] := hl
  refine lv_iload_n hx hb dX4_width_0 rfl (lv_at hl 1 rfl) ?_
  refine lv_if_lt (tgt := 19) hx hb dX4_width_1 (by decide) (fun c_1_b5098 => ?_) (fun c_1_b5098 => ?_)
  · refine lv_iconst (v := 0) hx hb dX4_width_19 (by decide) ?_
    rw [← hQ]
    exact W.iret (v := 0) hx hb hr (fun zt ht hW => ⟨⟨0, (), rfl, by simp [zwidth, c_1_b5098], (show zt.heap.size = s.heap.size by rw [ht])⟩, hS.F ht⟩) hS.2.2 dX4_width_20
  · refine lv_iload_n hx hb dX4_width_4 rfl (lv_at hl 1 rfl) ?_
    refine lv_ldc hx hb hown (hall _ zw_22) dX4_width_5 ?_
    refine lv_icmp_ge (tgt := 19) hx hb dX4_width_7 (by decide) (fun c_7_b5099 => ?_) (fun c_7_b5099 => ?_)
    · refine lv_iconst (v := 0) hx hb dX4_width_19 (by decide) ?_
      rw [← hQ]
      exact W.iret (v := 0) hx hb hr (fun zt ht hW => ⟨⟨0, (), rfl, by simp [zwidth, c_1_b5098, c_7_b5099], (show zt.heap.size = s.heap.size by rw [ht])⟩, hS.F ht⟩) hS.2.2 dX4_width_20
    · refine lv_aload_n hx hb dX4_width_10 rfl (lv_at hl 0 rfl) ?_
      refine va_get (D := (dC, dI)) (ci := 3) (v := .ref ca) (C := RX4) (T := TX4) (N := 3) hx hb hall zx_4 hown hK.1 hP 0 rfl rfl 0 (by decide) (hall _ zw_19) (fun _ h9 => h9) rfl dX4_width_11 ?_
      show W p l e _ s m _ below meth c _ _ _ _ QQ (F0 m 14 ls [.ref ca])
      refine lv_iload_n hx hb dX4_width_14 rfl (lv_at hl 1 rfl) ?_
      refine va_iald hx hb hK.1 hP 1 0 rfl rfl (zinM c_1_b5098 c_7_b5099 (by decide) (by decide)) dX4_width_15 ?_
      refine lv_goto (tgt := 20) hx hb dX4_width_16 (by decide) ?_
      rw [← hQ]
      exact W.iret (v := f x.toNatClampNeg) hx hb hr (fun zt ht hW => ⟨⟨f x.toNatClampNeg, (), rfl, by simp [zwidth, c_1_b5098, c_7_b5099], (show zt.heap.size = s.heap.size by rw [ht])⟩, hS.F ht⟩) hS.2.2 dX4_width_20

set_option maxHeartbeats 4000000 in
set_option maxRecDepth 100000 in
theorem c_X4_height (l : Launch) (dC : Nat → ClassId) (dI : Nat → Nat → Nat) (aC : Nat → ClassId) (h0 ca : Nat) (t fl : Int32) (f : Nat → Int32) (x : Int32) (sz : Nat) : Met l yX4_height w_X4_height ({ frames := 1, cells := 0, slots := 0, locals := 24 }) (zPre (dC, dI) aC [(h0, .inr (3, [.ref ca, .int t, .int fl])), (ca, .inl (aC 0, 131072, .inl f))] sz [.ref h0, .int x]) (va_Qi (fun (r : Int32) (_ : Unit) => r = zheight f x) (fun _ zt => zt.heap.size = sz) (zN sz)) 0 0 (zN sz) := by
  refine Met.ofW (cc := cX4_height) (maxL := 2) (ret := (some .int)) (by decide) rfl ?_
  intro p e s m args below meth c s₁ B hml hv
  generalize hQ : MQ below _ _ s _ _ _ = QQ
  obtain ⟨rfl, hsz, hP, hK, hD0⟩ := hv
  have hx := B.exec
  have hb := B.bytes
  have hr := B.returns
  have hts := atoms_spec (ws := w_X4_height) B.pre
  have hall := fun (w : Cond) (h : w ∈ zAll) => hts w (List.mem_cons_of_mem _ h)
  have hown : s.vm.findClass RX4 = some m.cls := findClass_of_methodNamed B.named
  have hlocks := B.notSynchronized
  subst hsz
  have hA : ∀ q : Nat, s.heap.size ≤ q → zN s.heap.size q := fun q h => h
  have hS : va_S (zN s.heap.size) s.heap s.heap [] := va_S.rf
  have hD := hD0
  have hl := lv_entry ([.ref h0, .int x]) (n := 2) (Nat.le_of_ble_eq_true rfl)
  rw [lg_entry_eq]
  generalize (lg_sl ([.ref h0, .int x]) ++ List.replicate (2 - (lg_sl ([.ref h0, .int x])).length) Slot.unset).toArray = ls at hl ⊢
  have hl : lv_has ls 2 [(0, .ref h0), (1, .int x)] := hl
  refine lv_iload_n hx hb dX4_height_0 rfl (lv_at hl 1 rfl) ?_
  refine lv_if_lt (tgt := 21) hx hb dX4_height_1 (by decide) (fun c_1_b5100 => ?_) (fun c_1_b5100 => ?_)
  · refine lv_iconst (v := 0) hx hb dX4_height_21 (by decide) ?_
    rw [← hQ]
    exact W.iret (v := 0) hx hb hr (fun zt ht hW => ⟨⟨0, (), rfl, by simp [zheight, c_1_b5100], (show zt.heap.size = s.heap.size by rw [ht])⟩, hS.F ht⟩) hS.2.2 dX4_height_22
  · refine lv_iload_n hx hb dX4_height_4 rfl (lv_at hl 1 rfl) ?_
    refine lv_ldc hx hb hown (hall _ zw_22) dX4_height_5 ?_
    refine lv_icmp_ge (tgt := 21) hx hb dX4_height_7 (by decide) (fun c_7_b5101 => ?_) (fun c_7_b5101 => ?_)
    · refine lv_iconst (v := 0) hx hb dX4_height_21 (by decide) ?_
      rw [← hQ]
      exact W.iret (v := 0) hx hb hr (fun zt ht hW => ⟨⟨0, (), rfl, by simp [zheight, c_1_b5100, c_7_b5101], (show zt.heap.size = s.heap.size by rw [ht])⟩, hS.F ht⟩) hS.2.2 dX4_height_22
    · refine lv_aload_n hx hb dX4_height_10 rfl (lv_at hl 0 rfl) ?_
      refine va_get (D := (dC, dI)) (ci := 3) (v := .ref ca) (C := RX4) (T := TX4) (N := 3) hx hb hall zx_4 hown hK.1 hP 0 rfl rfl 0 (by decide) (hall _ zw_19) (fun _ h9 => h9) rfl dX4_height_11 ?_
      show W p l e _ s m _ below meth c _ _ _ _ QQ (F0 m 14 ls [.ref ca])
      refine lv_iload_n hx hb dX4_height_14 rfl (lv_at hl 1 rfl) ?_
      refine lv_iconst (v := 1) hx hb dX4_height_15 (by decide) ?_
      refine lv_iadd hx hb dX4_height_16 ?_
      refine va_iald hx hb hK.1 hP 1 0 rfl rfl (zin1 c_1_b5100 c_7_b5101 (by decide) (by decide)) dX4_height_17 ?_
      refine lv_goto (tgt := 22) hx hb dX4_height_18 (by decide) ?_
      rw [← hQ]
      exact W.iret (v := f (x + 1).toNatClampNeg) hx hb hr (fun zt ht hW => ⟨⟨f (x + 1).toNatClampNeg, (), rfl, by simp [zheight, c_1_b5100, c_7_b5101], (show zt.heap.size = s.heap.size by rw [ht])⟩, hS.F ht⟩) hS.2.2 dX4_height_22

set_option maxHeartbeats 4000000 in
set_option maxRecDepth 100000 in
theorem c_X4_span (l : Launch) (dC : Nat → ClassId) (dI : Nat → Nat → Nat) (aC : Nat → ClassId) (h0 ca : Nat) (t fl : Int32) (f : Nat → Int32) (x : Int32) (sz : Nat) : Met l yX4_span w_X4_span ({ frames := 1, cells := 0, slots := 0, locals := 24 }) (zPre (dC, dI) aC [(h0, .inr (3, [.ref ca, .int t, .int fl])), (ca, .inl (aC 0, 131072, .inl f))] sz [.ref h0, .int x]) (va_Qi (fun (r : Int32) (_ : Unit) => r = zspan f x) (fun _ zt => zt.heap.size = sz) (zN sz)) 0 0 (zN sz) := by
  refine Met.ofW (cc := cX4_span) (maxL := 2) (ret := (some .int)) (by decide) rfl ?_
  intro p e s m args below meth c s₁ B hml hv
  generalize hQ : MQ below _ _ s _ _ _ = QQ
  obtain ⟨rfl, hsz, hP, hK, hD0⟩ := hv
  have hx := B.exec
  have hb := B.bytes
  have hr := B.returns
  have hts := atoms_spec (ws := w_X4_span) B.pre
  have hall := fun (w : Cond) (h : w ∈ zAll) => hts w (List.mem_cons_of_mem _ h)
  have hown : s.vm.findClass RX4 = some m.cls := findClass_of_methodNamed B.named
  have hlocks := B.notSynchronized
  subst hsz
  have hA : ∀ q : Nat, s.heap.size ≤ q → zN s.heap.size q := fun q h => h
  have hS : va_S (zN s.heap.size) s.heap s.heap [] := va_S.rf
  have hD := hD0
  have hl := lv_entry ([.ref h0, .int x]) (n := 2) (Nat.le_of_ble_eq_true rfl)
  rw [lg_entry_eq]
  generalize (lg_sl ([.ref h0, .int x]) ++ List.replicate (2 - (lg_sl ([.ref h0, .int x])).length) Slot.unset).toArray = ls at hl ⊢
  have hl : lv_has ls 2 [(0, .ref h0), (1, .int x)] := hl
  refine lv_iload_n hx hb dX4_span_0 rfl (lv_at hl 1 rfl) ?_
  refine lv_if_lt (tgt := 34) hx hb dX4_span_1 (by decide) (fun c_1_b5102 => ?_) (fun c_1_b5102 => ?_)
  · refine lv_iconst (v := 0) hx hb dX4_span_34 (by decide) ?_
    rw [← hQ]
    exact W.iret (v := 0) hx hb hr (fun zt ht hW => ⟨⟨0, (), rfl, by simp [zspan, c_1_b5102], (show zt.heap.size = s.heap.size by rw [ht])⟩, hS.F ht⟩) hS.2.2 dX4_span_35
  · refine lv_iload_n hx hb dX4_span_4 rfl (lv_at hl 1 rfl) ?_
    refine lv_ldc hx hb hown (hall _ zw_22) dX4_span_5 ?_
    refine lv_icmp_ge (tgt := 34) hx hb dX4_span_7 (by decide) (fun c_7_b5103 => ?_) (fun c_7_b5103 => ?_)
    · refine lv_iconst (v := 0) hx hb dX4_span_34 (by decide) ?_
      rw [← hQ]
      exact W.iret (v := 0) hx hb hr (fun zt ht hW => ⟨⟨0, (), rfl, by simp [zspan, c_1_b5102, c_7_b5103], (show zt.heap.size = s.heap.size by rw [ht])⟩, hS.F ht⟩) hS.2.2 dX4_span_35
    · refine lv_iconst (v := 2) hx hb dX4_span_10 (by decide) ?_
      refine lv_aload_n hx hb dX4_span_11 rfl (lv_at hl 0 rfl) ?_
      show W p l e _ s m _ below meth c _ _ _ _ QQ (F0 m 12 ls [.ref h0, .int 2])
      refine va_get (D := (dC, dI)) (ci := 3) (v := .ref ca) (C := RX4) (T := TX4) (N := 3) hx hb hall zx_4 hown hK.1 hP 0 rfl rfl 0 (by decide) (hall _ zw_19) (fun _ h9 => h9) rfl dX4_span_12 ?_
      refine lv_iload_n hx hb dX4_span_15 rfl (lv_at hl 1 rfl) ?_
      refine va_iald hx hb hK.1 hP 1 0 rfl rfl (zinM c_1_b5102 c_7_b5103 (by decide) (by decide)) dX4_span_16 ?_
      refine lv_iconst (v := 1) hx hb dX4_span_17 (by decide) ?_
      refine lv_iadd hx hb dX4_span_18 ?_
      show W p l e _ s m _ below meth c _ _ _ _ QQ (F0 m 19 ls [.int ((f x.toNatClampNeg) + 1), .int 2])
      refine lv_aload_n hx hb dX4_span_19 rfl (lv_at hl 0 rfl) ?_
      refine va_get (D := (dC, dI)) (ci := 3) (v := .ref ca) (C := RX4) (T := TX4) (N := 3) hx hb hall zx_4 hown hK.1 hP 0 rfl rfl 0 (by decide) (hall _ zw_19) (fun _ h9 => h9) rfl dX4_span_20 ?_
      refine lv_iload_n hx hb dX4_span_23 rfl (lv_at hl 1 rfl) ?_
      refine lv_iconst (v := 1) hx hb dX4_span_24 (by decide) ?_
      refine lv_iadd hx hb dX4_span_25 ?_
      show W p l e _ s m _ below meth c _ _ _ _ QQ (F0 m 26 ls [.int (x + 1), .ref ca, .int ((f x.toNatClampNeg) + 1), .int 2])
      refine va_iald hx hb hK.1 hP 1 0 rfl rfl (zin1 c_1_b5102 c_7_b5103 (by decide) (by decide)) dX4_span_26 ?_
      refine lv_iconst (v := 1) hx hb dX4_span_27 (by decide) ?_
      refine lv_iadd hx hb dX4_span_28 ?_
      refine lv_imul hx hb dX4_span_29 ?_
      refine lv_iadd hx hb dX4_span_30 ?_
      refine lv_goto (tgt := 35) hx hb dX4_span_31 (by decide) ?_
      rw [← hQ]
      exact W.iret (v := 2 + (((f x.toNatClampNeg) + 1) * ((f (x + 1).toNatClampNeg) + 1))) hx hb hr (fun zt ht hW => ⟨⟨2 + (((f x.toNatClampNeg) + 1) * ((f (x + 1).toNatClampNeg) + 1)), (), rfl, by simp [zspan, c_1_b5102, c_7_b5103], (show zt.heap.size = s.heap.size by rw [ht])⟩, hS.F ht⟩) hS.2.2 dX4_span_35

set_option maxHeartbeats 4000000 in
set_option maxRecDepth 100000 in
theorem c_X4_rowOf (l : Launch) (dC : Nat → ClassId) (dI : Nat → Nat → Nat) (aC : Nat → ClassId) (h0 ca : Nat) (t fl : Int32) (f : Nat → Int32) (x j : Int32) (sz : Nat) : Met l yX4_rowOf w_X4_rowOf ({ frames := 1, cells := 0, slots := 0, locals := 24 }) (zPre (dC, dI) aC [(h0, .inr (3, [.ref ca, .int t, .int fl])), (ca, .inl (aC 0, 131072, .inl f))] sz [.ref h0, .int x, .int j]) (va_Qi (fun (r : Int32) (_ : Unit) => r = zrowOf f x j) (fun _ zt => zt.heap.size = sz) (zN sz)) 0 0 (zN sz) := by
  refine Met.ofW (cc := cX4_rowOf) (maxL := 3) (ret := (some .int)) (by decide) rfl ?_
  intro p e s m args below meth c s₁ B hml hv
  generalize hQ : MQ below _ _ s _ _ _ = QQ
  obtain ⟨rfl, hsz, hP, hK, hD0⟩ := hv
  have hx := B.exec
  have hb := B.bytes
  have hr := B.returns
  have hts := atoms_spec (ws := w_X4_rowOf) B.pre
  have hall := fun (w : Cond) (h : w ∈ zAll) => hts w (List.mem_cons_of_mem _ h)
  have hown : s.vm.findClass RX4 = some m.cls := findClass_of_methodNamed B.named
  have hlocks := B.notSynchronized
  subst hsz
  have hA : ∀ q : Nat, s.heap.size ≤ q → zN s.heap.size q := fun q h => h
  have hS : va_S (zN s.heap.size) s.heap s.heap [] := va_S.rf
  have hD := hD0
  have hl := lv_entry ([.ref h0, .int x, .int j]) (n := 3) (Nat.le_of_ble_eq_true rfl)
  rw [lg_entry_eq]
  generalize (lg_sl ([.ref h0, .int x, .int j]) ++ List.replicate (3 - (lg_sl ([.ref h0, .int x, .int j])).length) Slot.unset).toArray = ls at hl ⊢
  have hl : lv_has ls 3 [(0, .ref h0), (1, .int x), (2, .int j)] := hl
  refine lv_iload_n hx hb dX4_rowOf_0 rfl (lv_at hl 1 rfl) ?_
  refine lv_if_lt (tgt := 27) hx hb dX4_rowOf_1 (by decide) (fun c_1_b5104 => ?_) (fun c_1_b5104 => ?_)
  · refine lv_iconst (v := 0) hx hb dX4_rowOf_27 (by decide) ?_
    rw [← hQ]
    exact W.iret (v := 0) hx hb hr (fun zt ht hW => ⟨⟨0, (), rfl, by simp [zrowOf, c_1_b5104], (show zt.heap.size = s.heap.size by rw [ht])⟩, hS.F ht⟩) hS.2.2 dX4_rowOf_28
  · refine lv_iload_n hx hb dX4_rowOf_4 rfl (lv_at hl 1 rfl) ?_
    refine lv_ldc hx hb hown (hall _ zw_22) dX4_rowOf_5 ?_
    refine lv_icmp_ge (tgt := 27) hx hb dX4_rowOf_7 (by decide) (fun c_7_b5105 => ?_) (fun c_7_b5105 => ?_)
    · refine lv_iconst (v := 0) hx hb dX4_rowOf_27 (by decide) ?_
      rw [← hQ]
      exact W.iret (v := 0) hx hb hr (fun zt ht hW => ⟨⟨0, (), rfl, by simp [zrowOf, c_1_b5104, c_7_b5105], (show zt.heap.size = s.heap.size by rw [ht])⟩, hS.F ht⟩) hS.2.2 dX4_rowOf_28
    · refine lv_iload_n hx hb dX4_rowOf_10 rfl (lv_at hl 1 rfl) ?_
      refine lv_iconst (v := 2) hx hb dX4_rowOf_11 (by decide) ?_
      show W p l e _ s m _ below meth c _ _ _ _ QQ (F0 m 12 ls [.int 2, .int x])
      refine lv_iadd hx hb dX4_rowOf_12 ?_
      refine lv_iload_n hx hb dX4_rowOf_13 rfl (lv_at hl 2 rfl) ?_
      refine lv_aload_n hx hb dX4_rowOf_14 rfl (lv_at hl 0 rfl) ?_
      refine va_get (D := (dC, dI)) (ci := 3) (v := .ref ca) (C := RX4) (T := TX4) (N := 3) hx hb hall zx_4 hown hK.1 hP 0 rfl rfl 0 (by decide) (hall _ zw_19) (fun _ h9 => h9) rfl dX4_rowOf_15 ?_
      refine lv_iload_n hx hb dX4_rowOf_18 rfl (lv_at hl 1 rfl) ?_
      show W p l e _ s m _ below meth c _ _ _ _ QQ (F0 m 19 ls [.int x, .ref ca, .int j, .int (x + 2)])
      refine va_iald hx hb hK.1 hP 1 0 rfl rfl (zinM c_1_b5104 c_7_b5105 (by decide) (by decide)) dX4_rowOf_19 ?_
      refine lv_iconst (v := 1) hx hb dX4_rowOf_20 (by decide) ?_
      refine lv_iadd hx hb dX4_rowOf_21 ?_
      refine lv_imul hx hb dX4_rowOf_22 ?_
      refine lv_iadd hx hb dX4_rowOf_23 ?_
      refine lv_goto (tgt := 28) hx hb dX4_rowOf_24 (by decide) ?_
      rw [← hQ]
      exact W.iret (v := (x + 2) + (j * ((f x.toNatClampNeg) + 1))) hx hb hr (fun zt ht hW => ⟨⟨(x + 2) + (j * ((f x.toNatClampNeg) + 1)), (), rfl, by simp [zrowOf, c_1_b5104, c_7_b5105], (show zt.heap.size = s.heap.size by rw [ht])⟩, hS.F ht⟩) hS.2.2 dX4_rowOf_28

theorem zlc {m : Int64} (h : 0 ≤ lg_cmp m 0) : 0 ≤ m := (lg_cmp_ge m 0).mp h
theorem zlc2 {m : Int64} (h : 0 ≤ m) : 0 ≤ lg_cmp m 0 := (lg_cmp_ge m 0).mpr h

set_option maxHeartbeats 4000000 in
set_option maxRecDepth 100000 in
theorem c_X1_rest (l : Launch) (dC : Nat → ClassId) (dI : Nat → Nat → Nat) (aC : Nat → ClassId) (v : Int64) (sz : Nat) : Met l yX1_rest w_X1_rest ({ frames := 1, cells := 0, slots := 0, locals := 24 }) (zPre (dC, dI) aC [] sz [.long v]) (va_Qi (fun (r : Int32) (_ : Unit) => r = zrest v) (fun _ zt => zt.heap.size = sz) (zN sz)) 0 0 (zN sz) := by
  refine Met.ofW (cc := cX1_rest) (maxL := 4) (ret := (some .int)) (by decide) rfl ?_
  intro p e s m args below meth c s₁ B hml hv
  generalize hQ : MQ below _ _ s _ _ _ = QQ
  obtain ⟨rfl, hsz, hP, hK, hD0⟩ := hv
  have hx := B.exec
  have hb := B.bytes
  have hr := B.returns
  have hts := atoms_spec (ws := w_X1_rest) B.pre
  have hall := fun (w : Cond) (h : w ∈ zAll) => hts w (List.mem_cons_of_mem _ h)
  have hown : s.vm.findClass RX1 = some m.cls := findClass_of_methodNamed B.named
  have hlocks := B.notSynchronized
  subst hsz
  have hA : ∀ q : Nat, s.heap.size ≤ q → zN s.heap.size q := fun q h => h
  have hS : va_S (zN s.heap.size) s.heap s.heap [] := va_S.rf
  have hD := hD0
  have hl := lv_entry ([.long v]) (n := 4) (Nat.le_of_ble_eq_true rfl)
  rw [lg_entry_eq]
  generalize (lg_sl ([.long v]) ++ List.replicate (4 - (lg_sl ([.long v])).length) Slot.unset).toArray = ls at hl ⊢
  have hl : lv_has ls 4 [(0, .long v)] := hl
  refine lv_lload_n hx hb dX1_rest_0 rfl (lv_at hl 0 rfl) ?_
  refine lv_ldc2 hx hb hown (hall _ zw_0) dX1_rest_1 ?_
  refine lv_lrem hx hb dX1_rest_4 (by decide) ?_
  obtain ⟨mL, em⟩ : ∃ z : Int64, z = v - v / 2147483647 * 2147483647 := ⟨_, rfl⟩
  rw [← em]
  refine lv_lstore_n (lv' := [(2, .long mL), (0, .long v)]) hx hb dX1_rest_5 rfl hl (by decide) rfl (fun ls5106 hl' => ?_)
  clear hl
  have hl : lv_has ls5106 4 [(2, .long mL), (0, .long v)] := hl'
  clear hl'
  refine lv_lload_n hx hb dX1_rest_6 rfl (lv_at hl 0 rfl) ?_
  show W p l e _ s m _ below meth c _ _ _ _ QQ (F0 m 7 ls5106 [.long mL])
  refine lv_lconst (v := 0) hx hb dX1_rest_7 (by decide) ?_
  refine W.lcmp hx hb dX1_rest_8 ?_
  refine lv_if_ge (tgt := 20) hx hb dX1_rest_9 (by decide) (fun c1 => ?_) (fun c1 => ?_)
  · refine lv_lload_n hx hb dX1_rest_20 rfl (lv_at hl 0 rfl) ?_
    refine lv_l2i (v := mL.toInt32) hx hb dX1_rest_21 rfl ?_
    rw [← hQ]
    exact W.iret (v := mL.toInt32) hx hb hr (fun zt ht hW => ⟨⟨mL.toInt32, (), rfl, by rw [zrest, ← em, if_pos (zlc c1)], (show zt.heap.size = s.heap.size by rw [ht])⟩, hS.F ht⟩) hS.2.2 dX1_rest_22
  · refine lv_lload_n hx hb dX1_rest_12 rfl (lv_at hl 0 rfl) ?_
    refine lv_ldc2 hx hb hown (hall _ zw_0) dX1_rest_13 ?_
    refine lv_ladd hx hb dX1_rest_16 ?_
    refine lv_goto (tgt := 21) hx hb dX1_rest_17 (by decide) ?_
    show W p l e _ s m _ below meth c _ _ _ _ QQ (F0 m 21 ls5106 [.long (mL + 2147483647)])
    refine lv_l2i (v := (mL + 2147483647).toInt32) hx hb dX1_rest_21 rfl ?_
    rw [← hQ]
    exact W.iret (v := (mL + 2147483647).toInt32) hx hb hr (fun zt ht hW => ⟨⟨(mL + 2147483647).toInt32, (), rfl, by rw [zrest, ← em, if_neg (fun h => c1 (zlc2 h))], (show zt.heap.size = s.heap.size by rw [ht])⟩, hS.F ht⟩) hS.2.2 dX1_rest_22

theorem zge0 {x : Int32} (h : ¬ x < 2048) : ¬ x < 0 := fun q => h (by
  have h1 := (Int32.lt_iff_toInt_lt).mp q
  exact Int32.lt_iff_toInt_lt.mpr (by have e : (2048 : Int32).toInt = 2048 := by decide
                                      have e0 : (0 : Int32).toInt = 0 := by decide
                                      omega))

set_option maxHeartbeats 4000000 in
set_option maxRecDepth 100000 in
theorem c_X4_put (l : Launch) (dC : Nat → ClassId) (dI : Nat → Nat → Nat) (aC : Nat → ClassId) (h0 ca : Nat) (t fl : Int32) (f : Nat → Int32) (x v : Int32) (sz : Nat) : Met l yX4_put w_X4_put ({ frames := 1, cells := 0, slots := 0, locals := 24 }) (zPre (dC, dI) aC [(h0, .inr (3, [.ref ca, .int t, .int fl])), (ca, .inl (aC 0, 131072, .inl f))] sz [.ref h0, .int x, .int v]) (va_Qv (fun (u : Unit) => True) (fun u zt => zB (dC, dI) [(h0, .inr (3, [.ref ca, .int t, .int fl])), (ca, .inl (aC 0, 131072, .inl (zputA f x v)))] (va_A [(h0, .inr (3, [.ref ca, .int t, .int fl])), (ca, .inl (aC 0, 131072, .inl f))] sz) (sz + 0) zt) (va_A [(h0, .inr (3, [.ref ca, .int t, .int fl])), (ca, .inl (aC 0, 131072, .inl f))] sz)) 0 0 (va_A [(h0, .inr (3, [.ref ca, .int t, .int fl])), (ca, .inl (aC 0, 131072, .inl f))] sz) := by
  refine Met.ofW (cc := cX4_put) (maxL := 3) (ret := none) (by decide) rfl ?_
  intro p e s m args below meth c s₁ B hml hv
  generalize hQ : MQ below _ _ s _ _ _ = QQ
  obtain ⟨rfl, hsz, hP, hK, hD0⟩ := hv
  have hx := B.exec
  have hb := B.bytes
  have hr := B.returns
  have hts := atoms_spec (ws := w_X4_put) B.pre
  have hall := fun (w : Cond) (h : w ∈ zAll) => hts w (List.mem_cons_of_mem _ h)
  have hown : s.vm.findClass RX4 = some m.cls := findClass_of_methodNamed B.named
  have hlocks := B.notSynchronized
  subst hsz
  have hD := hD0.self (sz := s.heap.size)
  generalize hAe : va_A [(h0, .inr (3, [.ref ca, .int t, .int fl])), (ca, .inl (aC 0, 131072, .inl f))] s.heap.size = A at hD ⊢
  have hA : ∀ q : Nat, s.heap.size ≤ q → A q := fun q h => by rw [← hAe]; exact Or.inr h
  have hS : va_S A s.heap s.heap [] := va_S.rf
  have hz0 : s.heap.size = s.heap.size + 0 := rfl
  have hl := lv_entry ([.ref h0, .int x, .int v]) (n := 3) (Nat.le_of_ble_eq_true rfl)
  rw [lg_entry_eq]
  generalize (lg_sl ([.ref h0, .int x, .int v]) ++ List.replicate (3 - (lg_sl ([.ref h0, .int x, .int v])).length) Slot.unset).toArray = ls at hl ⊢
  have hl : lv_has ls 3 [(0, .ref h0), (1, .int x), (2, .int v)] := hl
  refine lv_iload_n hx hb dX4_put_0 rfl (lv_at hl 1 rfl) ?_
  refine lv_sipush (v := 2048) hx hb dX4_put_1 (by decide) ?_
  refine lv_icmp_lt (tgt := 20) hx hb dX4_put_4 (by decide) (fun c_4_b5107 => ?_) (fun c_4_b5107 => ?_)
  · refine W.widen (k := 0) (n := 0) (Nat.le_of_ble_eq_true rfl) (Nat.le_of_ble_eq_true rfl) ?_
    rw [← hQ, hAe]
    have hP : va_P (dC, dI) vwCl [(h0, .inr (3, [.ref ca, .int t, .int fl])), (ca, .inl (aC 0, 131072, .inl (zputA f x v)))] s.heap := by rw [zputA, if_pos c_4_b5107]; exact hP
    have hD : va_D A [(h0, .inr (3, [.ref ca, .int t, .int fl])), (ca, .inl (aC 0, 131072, .inl (zputA f x v)))] := by rw [zputA, if_pos c_4_b5107]; exact hD
    exact W.vret hx hb hr (fun zt ht hW => ⟨⟨(), rfl, trivial, by rw [ht]; exact hP, hD, by rw [ht]; exact hz0⟩, hS.F ht⟩) hS.2.2 dX4_put_20
  · refine lv_iload_n hx hb dX4_put_7 rfl (lv_at hl 1 rfl) ?_
    refine lv_ldc hx hb hown (hall _ zw_18) dX4_put_8 ?_
    refine lv_icmp_ge (tgt := 20) hx hb dX4_put_10 (by decide) (fun c_10_b5108 => ?_) (fun c_10_b5108 => ?_)
    · refine W.widen (k := 0) (n := 0) (Nat.le_of_ble_eq_true rfl) (Nat.le_of_ble_eq_true rfl) ?_
      rw [← hQ, hAe]
      have hP : va_P (dC, dI) vwCl [(h0, .inr (3, [.ref ca, .int t, .int fl])), (ca, .inl (aC 0, 131072, .inl (zputA f x v)))] s.heap := by rw [zputA, if_neg c_4_b5107, if_pos c_10_b5108]; exact hP
      have hD : va_D A [(h0, .inr (3, [.ref ca, .int t, .int fl])), (ca, .inl (aC 0, 131072, .inl (zputA f x v)))] := by rw [zputA, if_neg c_4_b5107, if_pos c_10_b5108]; exact hD
      exact W.vret hx hb hr (fun zt ht hW => ⟨⟨(), rfl, trivial, by rw [ht]; exact hP, hD, by rw [ht]; exact hz0⟩, hS.F ht⟩) hS.2.2 dX4_put_20
    · refine lv_aload_n hx hb dX4_put_13 rfl (lv_at hl 0 rfl) ?_
      show W p l e _ s m _ below meth c _ _ _ _ QQ (F0 m 14 ls [.ref h0])
      refine va_get (D := (dC, dI)) (ci := 3) (v := .ref ca) (C := RX4) (T := TX4) (N := 3) hx hb hall zx_4 hown hK.1 hP 0 rfl rfl 0 (by decide) (hall _ zw_19) (fun _ h9 => h9) rfl dX4_put_14 ?_
      refine lv_iload_n hx hb dX4_put_17 rfl (lv_at hl 1 rfl) ?_
      refine lv_iload_n hx hb dX4_put_18 rfl (lv_at hl 2 rfl) ?_
      refine ziast hx hb hK.1 hP hD hS 1 0 rfl rfl (zin (zge0 c_4_b5107) c_10_b5108 (by decide)) dX4_put_19 (fun H5109 L5110 hB hP' hD' hS' => ?_)
      replace hz0 : H5109.size = s.heap.size + 0 := hB.1.trans hz0
      clear hP hD hS hB
      have hP : va_P (dC, dI) vwCl [(h0, .inr (3, [.ref ca, .int t, .int fl])), (ca, .inl (aC 0, 131072, .inl (upd f x.toNatClampNeg v)))] H5109 := hP'
      have hD : va_D A [(h0, .inr (3, [.ref ca, .int t, .int fl])), (ca, .inl (aC 0, 131072, .inl (upd f x.toNatClampNeg v)))] := hD'
      have hS : va_S A s.heap H5109 L5110 := hS'
      clear hP' hD' hS'
      refine W.widen (k := 0) (n := 0) (Nat.le_of_ble_eq_true rfl) (Nat.le_of_ble_eq_true rfl) ?_
      rw [← hQ, hAe]
      have hP : va_P (dC, dI) vwCl [(h0, .inr (3, [.ref ca, .int t, .int fl])), (ca, .inl (aC 0, 131072, .inl (zputA f x v)))] H5109 := by rw [zputA, if_neg c_4_b5107, if_neg c_10_b5108]; exact hP
      have hD : va_D A [(h0, .inr (3, [.ref ca, .int t, .int fl])), (ca, .inl (aC 0, 131072, .inl (zputA f x v)))] := by rw [zputA, if_neg c_4_b5107, if_neg c_10_b5108]; exact hD
      exact W.vret hx hb hr (fun zt ht hW => ⟨⟨(), rfl, trivial, by rw [ht]; exact hP, hD, by rw [ht]; exact hz0⟩, hS.F ht⟩) hS.2.2 dX4_put_20

set_option maxHeartbeats 4000000 in
set_option maxRecDepth 100000 in
theorem c_X4_empty (l : Launch) (dC : Nat → ClassId) (dI : Nat → Nat → Nat) (aC : Nat → ClassId) (h0 ca : Nat) (t fl : Int32) (f : Nat → Int32) (sz : Nat) : Met l yX4_empty w_X4_empty ({ frames := 1, cells := 0, slots := 0, locals := 24 }) (zPre (dC, dI) aC [(h0, .inr (3, [.ref ca, .int t, .int fl])), (ca, .inl (aC 0, 131072, .inl f))] sz [.ref h0]) (va_Qv (fun (u : Unit) => True) (fun u zt => zB (dC, dI) [(h0, .inr (3, [.ref ca, .int 2048, .int 0])), (ca, .inl (aC 0, 131072, .inl f))] (va_A [(h0, .inr (3, [.ref ca, .int t, .int fl])), (ca, .inl (aC 0, 131072, .inl f))] sz) (sz + 0) zt) (va_A [(h0, .inr (3, [.ref ca, .int t, .int fl])), (ca, .inl (aC 0, 131072, .inl f))] sz)) 0 0 (va_A [(h0, .inr (3, [.ref ca, .int t, .int fl])), (ca, .inl (aC 0, 131072, .inl f))] sz) := by
  refine Met.ofW (cc := cX4_empty) (maxL := 1) (ret := none) (by decide) rfl ?_
  intro p e s m args below meth c s₁ B hml hv
  generalize hQ : MQ below _ _ s _ _ _ = QQ
  obtain ⟨rfl, hsz, hP, hK, hD0⟩ := hv
  have hx := B.exec
  have hb := B.bytes
  have hr := B.returns
  have hts := atoms_spec (ws := w_X4_empty) B.pre
  have hall := fun (w : Cond) (h : w ∈ zAll) => hts w (List.mem_cons_of_mem _ h)
  have hown : s.vm.findClass RX4 = some m.cls := findClass_of_methodNamed B.named
  have hlocks := B.notSynchronized
  subst hsz
  have hD := hD0.self (sz := s.heap.size)
  generalize hAe : va_A [(h0, .inr (3, [.ref ca, .int t, .int fl])), (ca, .inl (aC 0, 131072, .inl f))] s.heap.size = A at hD ⊢
  have hA : ∀ q : Nat, s.heap.size ≤ q → A q := fun q h => by rw [← hAe]; exact Or.inr h
  have hS : va_S A s.heap s.heap [] := va_S.rf
  have hz0 : s.heap.size = s.heap.size + 0 := rfl
  have hl := lv_entry ([.ref h0]) (n := 1) (Nat.le_of_ble_eq_true rfl)
  rw [lg_entry_eq]
  generalize (lg_sl ([.ref h0]) ++ List.replicate (1 - (lg_sl ([.ref h0])).length) Slot.unset).toArray = ls at hl ⊢
  have hl : lv_has ls 1 [(0, .ref h0)] := hl
  refine lv_aload_n hx hb dX4_empty_0 rfl (lv_at hl 0 rfl) ?_
  refine lv_sipush (v := 2048) hx hb dX4_empty_1 (by decide) ?_
  refine zput (D := (dC, dI)) (ci := 3) (v := .int 2048) (ty := .int) (C := RX4) (T := TX4) (N := 3) hx hb hall zx_4 tyX4 tyX4_ok nmX4 hown hK.1 hP hD hS 0 rfl rfl 1 (by decide) (hall _ zw_20) (fun _ h9 => h9) rfl (by decide +kernel) rfl rfl (Nat.le_of_ble_eq_true rfl) dX4_empty_4 (fun H5111 L5112 hB hP' hD' hS' => ?_)
  replace hz0 : H5111.size = s.heap.size + 0 := hB.1.trans hz0
  clear hP hD hS hB
  have hP : va_P (dC, dI) vwCl [(h0, .inr (3, [.ref ca, .int 2048, .int fl])), (ca, .inl (aC 0, 131072, .inl f))] H5111 := hP'
  have hD : va_D A [(h0, .inr (3, [.ref ca, .int 2048, .int fl])), (ca, .inl (aC 0, 131072, .inl f))] := hD'
  have hS : va_S A s.heap H5111 L5112 := hS'
  clear hP' hD' hS'
  refine lv_aload_n hx hb dX4_empty_7 rfl (lv_at hl 0 rfl) ?_
  refine lv_iconst (v := 0) hx hb dX4_empty_8 (by decide) ?_
  show W p l e _ s m _ below meth c _ _ _ _ QQ (F0 m 9 ls [.int 0, .ref h0])
  refine zput (D := (dC, dI)) (ci := 3) (v := .int 0) (ty := .boolean) (C := RX4) (T := TX4) (N := 3) hx hb hall zx_4 tyX4 tyX4_ok nmX4 hown hK.1 hP hD hS 0 rfl rfl 2 (by decide) (hall _ zw_21) (fun _ h9 => h9) rfl (by decide +kernel) rfl rfl (Nat.le_of_ble_eq_true rfl) dX4_empty_9 (fun H5113 L5114 hB hP' hD' hS' => ?_)
  replace hz0 : H5113.size = s.heap.size + 0 := hB.1.trans hz0
  clear hP hD hS hB
  have hP : va_P (dC, dI) vwCl [(h0, .inr (3, [.ref ca, .int 2048, .int 0])), (ca, .inl (aC 0, 131072, .inl f))] H5113 := hP'
  have hD : va_D A [(h0, .inr (3, [.ref ca, .int 2048, .int 0])), (ca, .inl (aC 0, 131072, .inl f))] := hD'
  have hS : va_S A s.heap H5113 L5114 := hS'
  clear hP' hD' hS'
  clear L5112 H5111
  refine W.widen (k := 0) (n := 0) (Nat.le_of_ble_eq_true rfl) (Nat.le_of_ble_eq_true rfl) ?_
  rw [← hQ, hAe]
  exact W.vret hx hb hr (fun zt ht hW => ⟨⟨(), rfl, trivial, by rw [ht]; exact hP, hD, by rw [ht]; exact hz0⟩, hS.F ht⟩) hS.2.2 dX4_empty_12

theorem ztk {t k : Nat} (h : t + k ≤ 131072) : nI k ≤ 131072 - nI t := by
  have e : (131072 : Int32) - nI t = nI (131072 - t) := pk_sub (a := 131072) (by omega)
  rw [e]; exact nI_le (by omega) (by omega)
theorem ztk3 {t : Nat} (h : t + 3 ≤ 131072) : 3 ≤ 131072 - nI t := ztk h

set_option maxHeartbeats 4000000 in
set_option maxRecDepth 100000 in
theorem c_X4_take (l : Launch) (dC : Nat → ClassId) (dI : Nat → Nat → Nat) (aC : Nat → ClassId) (h0 ca t k : Nat) (fl : Int32) (f : Nat → Int32) (sz : Nat) (ht : t + k ≤ 131072) : Met l yX4_take w_X4_take ({ frames := 1, cells := 0, slots := 0, locals := 24 }) (zPre (dC, dI) aC [(h0, .inr (3, [.ref ca, .int (nI t), .int fl])), (ca, .inl (aC 0, 131072, .inl f))] sz [.ref h0, .int (nI k)]) (va_Qi (fun (r : Int32) (u : Unit) => r = nI t) (fun u zt => zB (dC, dI) [(h0, .inr (3, [.ref ca, .int (nI (t + k)), .int fl])), (ca, .inl (aC 0, 131072, .inl (zclear f t k)))] (va_A [(h0, .inr (3, [.ref ca, .int (nI t), .int fl])), (ca, .inl (aC 0, 131072, .inl f))] sz) (sz + 0) zt) (va_A [(h0, .inr (3, [.ref ca, .int (nI t), .int fl])), (ca, .inl (aC 0, 131072, .inl f))] sz)) 0 0 (va_A [(h0, .inr (3, [.ref ca, .int (nI t), .int fl])), (ca, .inl (aC 0, 131072, .inl f))] sz) := by
  refine Met.ofW (cc := cX4_take) (maxL := 4) (ret := (some .int)) (by decide) rfl ?_
  intro p e s m args below meth c s₁ B hml hv
  generalize hQ : MQ below _ _ s _ _ _ = QQ
  obtain ⟨rfl, hsz, hP, hK, hD0⟩ := hv
  have hx := B.exec
  have hb := B.bytes
  have hr := B.returns
  have hts := atoms_spec (ws := w_X4_take) B.pre
  have hall := fun (w : Cond) (h : w ∈ zAll) => hts w (List.mem_cons_of_mem _ h)
  have hown : s.vm.findClass RX4 = some m.cls := findClass_of_methodNamed B.named
  have hlocks := B.notSynchronized
  subst hsz
  have hD := hD0.self (sz := s.heap.size)
  generalize hAe : va_A [(h0, .inr (3, [.ref ca, .int (nI t), .int fl])), (ca, .inl (aC 0, 131072, .inl f))] s.heap.size = A at hD ⊢
  have hA : ∀ q : Nat, s.heap.size ≤ q → A q := fun q h => by rw [← hAe]; exact Or.inr h
  have hS : va_S A s.heap s.heap [] := va_S.rf
  have hz0 : s.heap.size = s.heap.size + 0 := rfl
  have hl := lv_entry ([.ref h0, .int (nI k)]) (n := 4) (Nat.le_of_ble_eq_true rfl)
  rw [lg_entry_eq]
  generalize (lg_sl ([.ref h0, .int (nI k)]) ++ List.replicate (4 - (lg_sl ([.ref h0, .int (nI k)])).length) Slot.unset).toArray = ls at hl ⊢
  have hl : lv_has ls 4 [(0, .ref h0), (1, .int (nI k))] := hl
  refine lv_iload_n hx hb dX4_take_0 rfl (lv_at hl 1 rfl) ?_
  refine lv_if_lt (tgt := 15) hx hb dX4_take_1 (by decide) (fun c_1_b5115 => absurd c_1_b5115 (nI_pos (by omega))) (fun _ => ?_)
  refine lv_iload_n hx hb dX4_take_4 rfl (lv_at hl 1 rfl) ?_
  refine lv_ldc hx hb hown (hall _ zw_18) dX4_take_5 ?_
  refine lv_aload_n hx hb dX4_take_7 rfl (lv_at hl 0 rfl) ?_
  show W p l e _ s m _ below meth c _ _ _ _ QQ (F0 m 8 ls [.ref h0, .int 131072, .int (nI k)])
  refine va_get (D := (dC, dI)) (ci := 3) (v := .int (nI t)) (C := RX4) (T := TX4) (N := 3) hx hb hall zx_4 hown hK.1 hP 0 rfl rfl 1 (by decide) (hall _ zw_20) (fun _ h9 => h9) rfl dX4_take_8 ?_
  refine lv_isub hx hb dX4_take_11 ?_
  refine lv_icmp_le (tgt := 22) hx hb dX4_take_12 (by decide) (fun _ => ?_) (fun c_12_b5116 => absurd (ztk ht) c_12_b5116)
  refine lv_aload_n hx hb dX4_take_22 rfl (lv_at hl 0 rfl) ?_
  refine va_get (D := (dC, dI)) (ci := 3) (v := .int (nI t)) (C := RX4) (T := TX4) (N := 3) hx hb hall zx_4 hown hK.1 hP 0 rfl rfl 1 (by decide) (hall _ zw_20) (fun _ h9 => h9) rfl dX4_take_23 ?_
  show W p l e _ s m _ below meth c _ _ _ _ QQ (F0 m 26 ls [.int (nI t)])
  refine lv_istore_n (lv' := [(2, .int (nI t)), (0, .ref h0), (1, .int (nI k))]) hx hb dX4_take_26 rfl hl (by decide) rfl (fun ls5117 hl' => ?_)
  clear hl
  have hl : lv_has ls5117 4 [(2, .int (nI t)), (0, .ref h0), (1, .int (nI k))] := hl'
  clear hl'
  refine lv_aload_n hx hb dX4_take_27 rfl (lv_at hl 1 rfl) ?_
  refine lv_dup hx hb dX4_take_28 rfl ?_
  refine va_get (D := (dC, dI)) (ci := 3) (v := .int (nI t)) (C := RX4) (T := TX4) (N := 3) hx hb hall zx_4 hown hK.1 hP 0 rfl rfl 1 (by decide) (hall _ zw_20) (fun _ h9 => h9) rfl dX4_take_29 ?_
  refine lv_iload_n hx hb dX4_take_32 rfl (lv_at hl 2 rfl) ?_
  show W p l e _ s m _ below meth c _ _ _ _ QQ (F0 m 33 ls5117 [.int (nI k), .int (nI t), .ref h0])
  refine lv_iadd hx hb dX4_take_33 ?_
  refine lv_topi (fun f5118 ef5118 => ?_)
  obtain rfl : f5118 = nI (t + k) := by rw [ef5118]; exact nI_add t k
  refine zput (D := (dC, dI)) (ci := 3) (v := .int (nI (t + k))) (ty := .int) (C := RX4) (T := TX4) (N := 3) hx hb hall zx_4 tyX4 tyX4_ok nmX4 hown hK.1 hP hD hS 0 rfl rfl 1 (by decide) (hall _ zw_20) (fun _ h9 => h9) rfl (by decide +kernel) rfl rfl (Nat.le_of_ble_eq_true rfl) dX4_take_34 (fun H5119 L5120 hB hP' hD' hS' => ?_)
  replace hz0 : H5119.size = s.heap.size + 0 := hB.1.trans hz0
  clear hP hD hS hB
  have hP : va_P (dC, dI) vwCl [(h0, .inr (3, [.ref ca, .int (nI (t + k)), .int fl])), (ca, .inl (aC 0, 131072, .inl f))] H5119 := hP'
  have hD : va_D A [(h0, .inr (3, [.ref ca, .int (nI (t + k)), .int fl])), (ca, .inl (aC 0, 131072, .inl f))] := hD'
  have hS : va_S A s.heap H5119 L5120 := hS'
  clear hP' hD' hS'
  refine lv_iload_n hx hb dX4_take_37 rfl (lv_at hl 0 rfl) ?_
  refine lv_istore_n (lv' := [(3, .int (nI t)), (2, .int (nI t)), (0, .ref h0), (1, .int (nI k))]) hx hb dX4_take_38 rfl hl (by decide) rfl (fun ls5121 hl' => ?_)
  clear hl
  have hl : lv_has ls5121 4 [(3, .int (nI t)), (2, .int (nI t)), (0, .ref h0), (1, .int (nI k))] := hl'
  clear hl'
  have key : ∀ (n i : Nat), i ≤ k → k < i + n → ∀ (H : Heap) (locs : List Loc) (ls : Array Slot), H.size = s.heap.size + 0 → va_P (dC, dI) vwCl [(h0, .inr (3, [.ref ca, .int (nI (t + k)), .int fl])), (ca, .inl (aC 0, 131072, .inl (zclear f t i)))] H → va_D A [(h0, .inr (3, [.ref ca, .int (nI (t + k)), .int fl])), (ca, .inl (aC 0, 131072, .inl (zclear f t i)))] → va_S A s.heap H locs → lv_has ls 4 [(3, .int (nI (t + i))), (2, .int (nI t)), (0, .ref h0), (1, .int (nI k))] → W p l e (headSpec w_X4_take ({ frames := 1, cells := 0, slots := 0, locals := 24 })).room s m ([.ref h0, .int (nI k)] : List Value).toArray below meth c H locs 0 0 QQ (F0 m 39 ls []) := by
    intro n
    induction n with
    | zero => exact fun i h1 h2 => absurd h2 (by omega)
    | succ n ih =>
      intro i hi hfu H locs ls hz0 hP hD hS hl
      rcases Nat.lt_or_ge i k with hlt | hge
      · refine lv_iload_n hx hb dX4_take_39 rfl (lv_at hl 0 rfl) ?_
        show W p l e _ s m _ below meth c _ _ _ _ QQ (F0 m 40 ls [.int (nI (t + i))])
        refine lv_aload_n hx hb dX4_take_40 rfl (lv_at hl 2 rfl) ?_
        refine va_get (D := (dC, dI)) (ci := 3) (v := .int (nI (t + k))) (C := RX4) (T := TX4) (N := 3) hx hb hall zx_4 hown hK.1 hP 0 rfl rfl 1 (by decide) (hall _ zw_20) (fun _ h9 => h9) rfl dX4_take_41 ?_
        refine lv_icmp_ge (tgt := 60) hx hb dX4_take_44 (by decide) (fun c_44_b5122 => absurd c_44_b5122 (nI_ge (by omega) (by omega))) (fun _ => ?_)
        refine lv_aload_n hx hb dX4_take_47 rfl (lv_at hl 2 rfl) ?_
        refine va_get (D := (dC, dI)) (ci := 3) (v := .ref ca) (C := RX4) (T := TX4) (N := 3) hx hb hall zx_4 hown hK.1 hP 0 rfl rfl 0 (by decide) (hall _ zw_19) (fun _ h9 => h9) rfl dX4_take_48 ?_
        show W p l e _ s m _ below meth c _ _ _ _ QQ (F0 m 51 ls [.ref ca])
        refine lv_iload_n hx hb dX4_take_51 rfl (lv_at hl 0 rfl) ?_
        refine lv_iconst (v := 0) hx hb dX4_take_52 (by decide) ?_
        refine ziast hx hb hK.1 hP hD hS 1 0 rfl rfl (vp_in_nI (by omega) (by decide)) dX4_take_53 (fun H5123 L5124 hB hP' hD' hS' => ?_)
        replace hz0 : H5123.size = s.heap.size + 0 := hB.1.trans hz0
        clear hP hD hS hB
        have hP : va_P (dC, dI) vwCl [(h0, .inr (3, [.ref ca, .int (nI (t + k)), .int fl])), (ca, .inl (aC 0, 131072, .inl (upd (zclear f t i) (nI (t + i)).toNatClampNeg 0)))] H5123 := hP'
        have hD : va_D A [(h0, .inr (3, [.ref ca, .int (nI (t + k)), .int fl])), (ca, .inl (aC 0, 131072, .inl (upd (zclear f t i) (nI (t + i)).toNatClampNeg 0)))] := hD'
        have hS : va_S A s.heap H5123 L5124 := hS'
        clear hP' hD' hS'
        rw [nI_clamp (show t + i < 2 ^ 31 by omega)] at hP hD
        replace hP : va_P (dC, dI) vwCl [(h0, .inr (3, [.ref ca, .int (nI (t + k)), .int fl])), (ca, .inl (aC 0, 131072, .inl (upd (zclear f t i) (t + i) 0)))] H5123 := hP
        replace hD : va_D A [(h0, .inr (3, [.ref ca, .int (nI (t + k)), .int fl])), (ca, .inl (aC 0, 131072, .inl (upd (zclear f t i) (t + i) 0)))] := hD
        rw [zclear_1] at hP hD
        replace hP : va_P (dC, dI) vwCl [(h0, .inr (3, [.ref ca, .int (nI (t + k)), .int fl])), (ca, .inl (aC 0, 131072, .inl (zclear f t (i + 1))))] H5123 := hP
        replace hD : va_D A [(h0, .inr (3, [.ref ca, .int (nI (t + k)), .int fl])), (ca, .inl (aC 0, 131072, .inl (zclear f t (i + 1))))] := hD
        obtain ⟨y5125, ey5125⟩ : ∃ z : Int32, z = (nI (t + i)) + 1 := ⟨_, rfl⟩
        refine lv_iinc (v := y5125) (lv' := [(3, .int y5125), (2, .int (nI t)), (0, .ref h0), (1, .int (nI k))]) hx hb dX4_take_54 hl (k := 0) rfl (by rw [ey5125]; rfl) (by decide) rfl (fun ls5126 hl' => ?_)
        clear hl
        have hl : lv_has ls5126 4 [(3, .int y5125), (2, .int (nI t)), (0, .ref h0), (1, .int (nI k))] := hl'
        clear hl'
        refine lv_goto (tgt := 39) hx hb dX4_take_57 (by decide) ?_
        have ey : y5125 = nI (t + (i + 1)) := by rw [ey5125]; exact nI_1 (t + i)
        rw [ey] at hl
        exact ih (i + 1) hlt (by omega) H5123 L5124 ls5126 hz0 hP hD hS (lv_sub hl [0, 1, 2, 3] rfl)
      · have ei : i = k := by omega
        try rw [ei] at hP
        try rw [ei] at hD
        try rw [ei] at hl
        refine lv_iload_n hx hb dX4_take_39 rfl (lv_at hl 0 rfl) ?_
        show W p l e _ s m _ below meth c _ _ _ _ QQ (F0 m 40 ls [.int (nI (t + k))])
        refine lv_aload_n hx hb dX4_take_40 rfl (lv_at hl 2 rfl) ?_
        refine va_get (D := (dC, dI)) (ci := 3) (v := .int (nI (t + k))) (C := RX4) (T := TX4) (N := 3) hx hb hall zx_4 hown hK.1 hP 0 rfl rfl 1 (by decide) (hall _ zw_20) (fun _ h9 => h9) rfl dX4_take_41 ?_
        refine lv_icmp_ge (tgt := 60) hx hb dX4_take_44 (by decide) (fun _ => ?_) (fun c_44_b5127 => absurd (Int32.le_refl _) c_44_b5127)
        refine lv_iload_n hx hb dX4_take_60 rfl (lv_at hl 1 rfl) ?_
        refine W.widen (k := 0) (n := 0) (Nat.le_of_ble_eq_true rfl) (Nat.le_of_ble_eq_true rfl) ?_
        rw [← hQ, hAe]
        exact W.iret (v := nI t) hx hb hr (fun zt ht hW => ⟨⟨nI t, (), rfl, rfl, by rw [ht]; exact hP, hD, by rw [ht]; exact hz0⟩, hS.F ht⟩) hS.2.2 dX4_take_61
  exact key (k + 1) 0 (Nat.zero_le _) (by omega) _ _ ls5121 hz0 (by rw [zclear_0]; exact hP) (by rw [zclear_0]; exact hD) hS (lv_sub hl [0, 1, 2, 3] rfl)

set_option maxHeartbeats 4000000 in
set_option maxRecDepth 100000 in
theorem c_X4_constant (l : Launch) (dC : Nat → ClassId) (dI : Nat → Nat → Nat) (aC : Nat → ClassId) (h0 ca t : Nat) (fl : Int32) (f : Nat → Int32) (x : Int32) (sz : Nat) (ht : t + 3 ≤ 131072) : Met l yX4_constant w_X4_constant ({ frames := 1, cells := 0, slots := 0, locals := 24 }) (zPre (dC, dI) aC [(h0, .inr (3, [.ref ca, .int (nI t), .int fl])), (ca, .inl (aC 0, 131072, .inl f))] sz [.ref h0, .int x]) (va_Qi (fun (r : Int32) (u : Unit) => r = nI t) (fun u zt => zB (dC, dI) [(h0, .inr (3, [.ref ca, .int (nI (t + 3)), .int fl])), (ca, .inl (aC 0, 131072, .inl (zcst f t x)))] (va_A [(h0, .inr (3, [.ref ca, .int (nI t), .int fl])), (ca, .inl (aC 0, 131072, .inl f))] sz) (sz + 0) zt) (va_A [(h0, .inr (3, [.ref ca, .int (nI t), .int fl])), (ca, .inl (aC 0, 131072, .inl f))] sz)) 0 0 (va_A [(h0, .inr (3, [.ref ca, .int (nI t), .int fl])), (ca, .inl (aC 0, 131072, .inl f))] sz) := by
  refine Met.ofW (cc := cX4_constant) (maxL := 2) (ret := (some .int)) (by decide) rfl ?_
  intro p e s m args below meth c s₁ B hml hv
  generalize hQ : MQ below _ _ s _ _ _ = QQ
  obtain ⟨rfl, hsz, hP, hK, hD0⟩ := hv
  have hx := B.exec
  have hb := B.bytes
  have hr := B.returns
  have hts := atoms_spec (ws := w_X4_constant) B.pre
  have hall := fun (w : Cond) (h : w ∈ zAll) => hts w (List.mem_cons_of_mem _ h)
  have hown : s.vm.findClass RX4 = some m.cls := findClass_of_methodNamed B.named
  have hlocks := B.notSynchronized
  subst hsz
  have hD := hD0.self (sz := s.heap.size)
  generalize hAe : va_A [(h0, .inr (3, [.ref ca, .int (nI t), .int fl])), (ca, .inl (aC 0, 131072, .inl f))] s.heap.size = A at hD ⊢
  have hA : ∀ q : Nat, s.heap.size ≤ q → A q := fun q h => by rw [← hAe]; exact Or.inr h
  have hS : va_S A s.heap s.heap [] := va_S.rf
  have hz0 : s.heap.size = s.heap.size + 0 := rfl
  have hl := lv_entry ([.ref h0, .int x]) (n := 2) (Nat.le_of_ble_eq_true rfl)
  rw [lg_entry_eq]
  generalize (lg_sl ([.ref h0, .int x]) ++ List.replicate (2 - (lg_sl ([.ref h0, .int x])).length) Slot.unset).toArray = ls at hl ⊢
  have hl : lv_has ls 2 [(0, .ref h0), (1, .int x)] := hl
  refine lv_ldc hx hb hown (hall _ zw_18) dX4_constant_0 ?_
  refine lv_aload_n hx hb dX4_constant_2 rfl (lv_at hl 0 rfl) ?_
  refine va_get (D := (dC, dI)) (ci := 3) (v := .int (nI t)) (C := RX4) (T := TX4) (N := 3) hx hb hall zx_4 hown hK.1 hP 0 rfl rfl 1 (by decide) (hall _ zw_20) (fun _ h9 => h9) rfl dX4_constant_3 ?_
  refine lv_isub hx hb dX4_constant_6 ?_
  refine lv_iconst (v := 3) hx hb dX4_constant_7 (by decide) ?_
  refine lv_icmp_ge (tgt := 18) hx hb dX4_constant_8 (by decide) (fun _ => ?_) (fun c_8_b5128 => absurd (ztk3 ht) c_8_b5128)
  show W p l e _ s m _ below meth c _ _ _ _ QQ (F0 m 18 ls [])
  refine lv_aload_n hx hb dX4_constant_18 rfl (lv_at hl 0 rfl) ?_
  refine va_get (D := (dC, dI)) (ci := 3) (v := .ref ca) (C := RX4) (T := TX4) (N := 3) hx hb hall zx_4 hown hK.1 hP 0 rfl rfl 0 (by decide) (hall _ zw_19) (fun _ h9 => h9) rfl dX4_constant_19 ?_
  refine lv_aload_n hx hb dX4_constant_22 rfl (lv_at hl 0 rfl) ?_
  refine va_get (D := (dC, dI)) (ci := 3) (v := .int (nI t)) (C := RX4) (T := TX4) (N := 3) hx hb hall zx_4 hown hK.1 hP 0 rfl rfl 1 (by decide) (hall _ zw_20) (fun _ h9 => h9) rfl dX4_constant_23 ?_
  refine lv_iconst (v := 0) hx hb dX4_constant_26 (by decide) ?_
  show W p l e _ s m _ below meth c _ _ _ _ QQ (F0 m 27 ls [.int 0, .int (nI t), .ref ca])
  refine ziast hx hb hK.1 hP hD hS 1 0 rfl rfl (vp_in_nI (by omega) (by decide)) dX4_constant_27 (fun H5129 L5130 hB hP' hD' hS' => ?_)
  replace hz0 : H5129.size = s.heap.size + 0 := hB.1.trans hz0
  clear hP hD hS hB
  have hP : va_P (dC, dI) vwCl [(h0, .inr (3, [.ref ca, .int (nI t), .int fl])), (ca, .inl (aC 0, 131072, .inl (upd f (nI t).toNatClampNeg 0)))] H5129 := hP'
  have hD : va_D A [(h0, .inr (3, [.ref ca, .int (nI t), .int fl])), (ca, .inl (aC 0, 131072, .inl (upd f (nI t).toNatClampNeg 0)))] := hD'
  have hS : va_S A s.heap H5129 L5130 := hS'
  clear hP' hD' hS'
  rw [nI_clamp (show t < 2 ^ 31 by omega)] at hP hD
  replace hP : va_P (dC, dI) vwCl [(h0, .inr (3, [.ref ca, .int (nI t), .int fl])), (ca, .inl (aC 0, 131072, .inl (upd f t 0)))] H5129 := hP
  replace hD : va_D A [(h0, .inr (3, [.ref ca, .int (nI t), .int fl])), (ca, .inl (aC 0, 131072, .inl (upd f t 0)))] := hD
  refine lv_aload_n hx hb dX4_constant_28 rfl (lv_at hl 0 rfl) ?_
  refine va_get (D := (dC, dI)) (ci := 3) (v := .ref ca) (C := RX4) (T := TX4) (N := 3) hx hb hall zx_4 hown hK.1 hP 0 rfl rfl 0 (by decide) (hall _ zw_19) (fun _ h9 => h9) rfl dX4_constant_29 ?_
  refine lv_aload_n hx hb dX4_constant_32 rfl (lv_at hl 0 rfl) ?_
  refine va_get (D := (dC, dI)) (ci := 3) (v := .int (nI t)) (C := RX4) (T := TX4) (N := 3) hx hb hall zx_4 hown hK.1 hP 0 rfl rfl 1 (by decide) (hall _ zw_20) (fun _ h9 => h9) rfl dX4_constant_33 ?_
  show W p l e _ s m _ below meth c _ _ _ _ QQ (F0 m 36 ls [.int (nI t), .ref ca])
  refine lv_iconst (v := 1) hx hb dX4_constant_36 (by decide) ?_
  refine lv_iadd hx hb dX4_constant_37 ?_
  refine lv_iconst (v := 0) hx hb dX4_constant_38 (by decide) ?_
  refine ziast hx hb hK.1 hP hD hS 1 0 rfl rfl (by rw [nI_1]; exact vp_in_nI (by omega) (by decide)) dX4_constant_39 (fun H5131 L5132 hB hP' hD' hS' => ?_)
  replace hz0 : H5131.size = s.heap.size + 0 := hB.1.trans hz0
  clear hP hD hS hB
  have hP : va_P (dC, dI) vwCl [(h0, .inr (3, [.ref ca, .int (nI t), .int fl])), (ca, .inl (aC 0, 131072, .inl (upd (upd f t 0) ((nI t) + 1).toNatClampNeg 0)))] H5131 := hP'
  have hD : va_D A [(h0, .inr (3, [.ref ca, .int (nI t), .int fl])), (ca, .inl (aC 0, 131072, .inl (upd (upd f t 0) ((nI t) + 1).toNatClampNeg 0)))] := hD'
  have hS : va_S A s.heap H5131 L5132 := hS'
  clear hP' hD' hS'
  clear L5130 H5129
  rw [(show ((nI t) + 1).toNatClampNeg = t + 1 from by rw [nI_1]; exact nI_clamp (by omega))] at hP hD
  replace hP : va_P (dC, dI) vwCl [(h0, .inr (3, [.ref ca, .int (nI t), .int fl])), (ca, .inl (aC 0, 131072, .inl (upd (upd f t 0) (t + 1) 0)))] H5131 := hP
  replace hD : va_D A [(h0, .inr (3, [.ref ca, .int (nI t), .int fl])), (ca, .inl (aC 0, 131072, .inl (upd (upd f t 0) (t + 1) 0)))] := hD
  refine lv_aload_n hx hb dX4_constant_40 rfl (lv_at hl 0 rfl) ?_
  show W p l e _ s m _ below meth c _ _ _ _ QQ (F0 m 41 ls [.ref h0])
  refine va_get (D := (dC, dI)) (ci := 3) (v := .ref ca) (C := RX4) (T := TX4) (N := 3) hx hb hall zx_4 hown hK.1 hP 0 rfl rfl 0 (by decide) (hall _ zw_19) (fun _ h9 => h9) rfl dX4_constant_41 ?_
  refine lv_aload_n hx hb dX4_constant_44 rfl (lv_at hl 0 rfl) ?_
  refine va_get (D := (dC, dI)) (ci := 3) (v := .int (nI t)) (C := RX4) (T := TX4) (N := 3) hx hb hall zx_4 hown hK.1 hP 0 rfl rfl 1 (by decide) (hall _ zw_20) (fun _ h9 => h9) rfl dX4_constant_45 ?_
  refine lv_iconst (v := 2) hx hb dX4_constant_48 (by decide) ?_
  refine lv_iadd hx hb dX4_constant_49 ?_
  show W p l e _ s m _ below meth c _ _ _ _ QQ (F0 m 50 ls [.int ((nI t) + 2), .ref ca])
  refine lv_iload_n hx hb dX4_constant_50 rfl (lv_at hl 1 rfl) ?_
  refine ziast hx hb hK.1 hP hD hS 1 0 rfl rfl (by rw [show (nI t) + 2 = nI (t + 2) from nI_add t 2]; exact vp_in_nI (by omega) (by decide)) dX4_constant_51 (fun H5133 L5134 hB hP' hD' hS' => ?_)
  replace hz0 : H5133.size = s.heap.size + 0 := hB.1.trans hz0
  clear hP hD hS hB
  have hP : va_P (dC, dI) vwCl [(h0, .inr (3, [.ref ca, .int (nI t), .int fl])), (ca, .inl (aC 0, 131072, .inl (upd (upd (upd f t 0) (t + 1) 0) ((nI t) + 2).toNatClampNeg x)))] H5133 := hP'
  have hD : va_D A [(h0, .inr (3, [.ref ca, .int (nI t), .int fl])), (ca, .inl (aC 0, 131072, .inl (upd (upd (upd f t 0) (t + 1) 0) ((nI t) + 2).toNatClampNeg x)))] := hD'
  have hS : va_S A s.heap H5133 L5134 := hS'
  clear hP' hD' hS'
  clear L5132 H5131
  rw [(show ((nI t) + 2).toNatClampNeg = t + 2 from by rw [show (nI t) + 2 = nI (t + 2) from nI_add t 2]; exact nI_clamp (by omega))] at hP hD
  replace hP : va_P (dC, dI) vwCl [(h0, .inr (3, [.ref ca, .int (nI t), .int fl])), (ca, .inl (aC 0, 131072, .inl (upd (upd (upd f t 0) (t + 1) 0) (t + 2) x)))] H5133 := hP
  replace hD : va_D A [(h0, .inr (3, [.ref ca, .int (nI t), .int fl])), (ca, .inl (aC 0, 131072, .inl (upd (upd (upd f t 0) (t + 1) 0) (t + 2) x)))] := hD
  refine lv_aload_n hx hb dX4_constant_52 rfl (lv_at hl 0 rfl) ?_
  refine lv_dup hx hb dX4_constant_53 rfl ?_
  refine va_get (D := (dC, dI)) (ci := 3) (v := .int (nI t)) (C := RX4) (T := TX4) (N := 3) hx hb hall zx_4 hown hK.1 hP 0 rfl rfl 1 (by decide) (hall _ zw_20) (fun _ h9 => h9) rfl dX4_constant_54 ?_
  show W p l e _ s m _ below meth c _ _ _ _ QQ (F0 m 57 ls [.int (nI t), .ref h0])
  refine lv_iconst (v := 3) hx hb dX4_constant_57 (by decide) ?_
  refine lv_iadd hx hb dX4_constant_58 ?_
  refine lv_topi (fun f5135 ef5135 => ?_)
  obtain rfl : f5135 = nI (t + 3) := by rw [ef5135]; exact nI_add t 3
  refine zput (D := (dC, dI)) (ci := 3) (v := .int (nI (t + 3))) (ty := .int) (C := RX4) (T := TX4) (N := 3) hx hb hall zx_4 tyX4 tyX4_ok nmX4 hown hK.1 hP hD hS 0 rfl rfl 1 (by decide) (hall _ zw_20) (fun _ h9 => h9) rfl (by decide +kernel) rfl rfl (Nat.le_of_ble_eq_true rfl) dX4_constant_59 (fun H5136 L5137 hB hP' hD' hS' => ?_)
  replace hz0 : H5136.size = s.heap.size + 0 := hB.1.trans hz0
  clear hP hD hS hB
  have hP : va_P (dC, dI) vwCl [(h0, .inr (3, [.ref ca, .int (nI (t + 3)), .int fl])), (ca, .inl (aC 0, 131072, .inl (upd (upd (upd f t 0) (t + 1) 0) (t + 2) x)))] H5136 := hP'
  have hD : va_D A [(h0, .inr (3, [.ref ca, .int (nI (t + 3)), .int fl])), (ca, .inl (aC 0, 131072, .inl (upd (upd (upd f t 0) (t + 1) 0) (t + 2) x)))] := hD'
  have hS : va_S A s.heap H5136 L5137 := hS'
  clear hP' hD' hS'
  clear L5134 H5133
  refine lv_aload_n hx hb dX4_constant_62 rfl (lv_at hl 0 rfl) ?_
  refine va_get (D := (dC, dI)) (ci := 3) (v := .int (nI (t + 3))) (C := RX4) (T := TX4) (N := 3) hx hb hall zx_4 hown hK.1 hP 0 rfl rfl 1 (by decide) (hall _ zw_20) (fun _ h9 => h9) rfl dX4_constant_63 ?_
  show W p l e _ s m _ below meth c _ _ _ _ QQ (F0 m 66 ls [.int (nI (t + 3))])
  refine lv_iconst (v := 3) hx hb dX4_constant_66 (by decide) ?_
  refine lv_isub hx hb dX4_constant_67 ?_
  refine W.widen (k := 0) (n := 0) (Nat.le_of_ble_eq_true rfl) (Nat.le_of_ble_eq_true rfl) ?_
  rw [← hQ, hAe]
  exact W.iret (v := (nI (t + 3)) - 3) hx hb hr (fun zt ht hW => ⟨⟨(nI (t + 3)) - 3, (), rfl, pk_sub (a := t + 3) (b := 3) (by omega), by rw [ht]; exact hP, hD, by rw [ht]; exact hz0⟩, hS.F ht⟩) hS.2.2 dX4_constant_68
