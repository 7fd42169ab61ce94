theorem zx_X16_change_0 {m x : Nat} (h0 : x < m + 0 ∨ m + 0 + 8322 ≤ x) : x < m ∨ m + 1 ≤ x := by omega
theorem zx_X16_change_1 {m x : Nat} (h0 : m + 7486 ≤ x) (h1 : x < m + 7486 + 108) : x < m ∨ m + 1 ≤ x := by omega
theorem zx_X16_change_2 {m x : Nat} (h0 : m + 83 ≤ x) (h1 : x < m + 83 + 9) : x < m ∨ m + 1 ≤ x := by omega
theorem zx_X16_change_3 {m x : Nat} (h0 : m + 6316 ≤ x) (h1 : x < m + 6316 + 1170) : x < m ∨ m + 1 ≤ x := by omega
theorem zx_X16_change_4 {m x : Nat} (h0 : m + 92 ≤ x) (h1 : x < m + 92 + 1) : x < m ∨ m + 1 ≤ x := by omega
theorem zx_X16_change_5 {m x : Nat} (h0 : m + 93 ≤ x) (h1 : x < m + 93 + 1) : x < m ∨ m + 1 ≤ x := by omega
theorem zx_X16_change_6 {m : Nat}  : (m + 94) < m ∨ m + 1 ≤ (m + 94) := by omega
theorem zx_X16_change_7 {m : Nat}  : m < m + 83 ∨ m + 83 + 9 ≤ m := by omega
theorem zx_X16_change_8 {GZ9_26_0 m x : Nat} (h0 : m + 596 + 130 * GZ9_26_0 ≤ x) (h1 : x < m + 596 + 130 * GZ9_26_0 + 130) (h2 : GZ9_26_0 = 0) : x < m ∨ m + 1 ≤ x := by omega
theorem zx_X16_change_9 {GZ9_26_0 GZ9_26_1 m x : Nat} (h0 : m + 596 + 130 * GZ9_26_0 ≤ x) (h1 : x < m + 596 + 130 * GZ9_26_0 + 130) (h2 : GZ9_26_0 = 0) (h3 : GZ9_26_1 = 1) : x < m + 596 + 130 * GZ9_26_1 ∨ m + 596 + 130 * GZ9_26_1 + 130 ≤ x := by omega
theorem zx_X16_change_10 {GZ9_26_0 GZ9_26_1 m x : Nat} (h0 : m + 596 + 130 * GZ9_26_1 ≤ x) (h1 : x < m + 596 + 130 * GZ9_26_1 + 130) (h2 : GZ9_26_0 = 0) (h3 : GZ9_26_1 = 1) : x < m + 596 + 130 * GZ9_26_0 ∨ m + 596 + 130 * GZ9_26_0 + 130 ≤ x := by omega
theorem zx_X16_change_11 {GZ9_26_0 m : Nat} (h0 : GZ9_26_0 = 0) : m < m + 596 + 130 * GZ9_26_0 ∨ m + 596 + 130 * GZ9_26_0 + 130 ≤ m := by omega
theorem zx_X16_change_12 {GZ9_26_1 m : Nat} (h0 : GZ9_26_1 = 1) : m < m + 596 + 130 * GZ9_26_1 ∨ m + 596 + 130 * GZ9_26_1 + 130 ≤ m := by omega
theorem zx_X16_change_13 {GZ9_26_4 m : Nat} (h0 : GZ9_26_4 = 4) : m < m + 596 + 130 * GZ9_26_4 ∨ m + 596 + 130 * GZ9_26_4 + 130 ≤ m := by omega
theorem zx_X16_change_14 {GZ9_26_0 m x : Nat} (h0 : m + 83 ≤ x) (h1 : x < m + 83 + 9) (h2 : GZ9_26_0 = 0) : x < m + 596 + 130 * GZ9_26_0 ∨ m + 596 + 130 * GZ9_26_0 + 130 ≤ x := by omega
theorem zx_X16_change_15 {GZ9_26_1 m x : Nat} (h0 : m + 83 ≤ x) (h1 : x < m + 83 + 9) (h2 : GZ9_26_1 = 1) : x < m + 596 + 130 * GZ9_26_1 ∨ m + 596 + 130 * GZ9_26_1 + 130 ≤ x := by omega
theorem zx_X16_change_16 {GZ9_26_2 m x : Nat} (h0 : m + 83 ≤ x) (h1 : x < m + 83 + 9) (h2 : GZ9_26_2 = 2) : x < m + 596 + 130 * GZ9_26_2 ∨ m + 596 + 130 * GZ9_26_2 + 130 ≤ x := by omega
theorem zx_X16_change_17 {GZ9_26_3 m x : Nat} (h0 : m + 83 ≤ x) (h1 : x < m + 83 + 9) (h2 : GZ9_26_3 = 3) : x < m + 596 + 130 * GZ9_26_3 ∨ m + 596 + 130 * GZ9_26_3 + 130 ≤ x := by omega
theorem zx_X16_change_18 {GZ9_26_4 m x : Nat} (h0 : m + 83 ≤ x) (h1 : x < m + 83 + 9) (h2 : GZ9_26_4 = 4) : x < m + 596 + 130 * GZ9_26_4 ∨ m + 596 + 130 * GZ9_26_4 + 130 ≤ x := by omega
theorem zx_X16_change_19 {m x : Nat} (h0 : m + 83 ≤ x) (h1 : x < m + 83 + 9) : x < m + 276 ∨ m + 276 + 320 ≤ x := by omega
theorem zx_X16_change_20 {GZ9_26_2 m x : Nat} (h0 : m + 83 ≤ x) (h1 : x < m + 83 + 9) (h2 : GZ9_26_2 = 2) : x < m + 596 + 130 * GZ9_26_2 ∨ m + 596 + 130 * GZ9_26_2 + (5720 - 130 * GZ9_26_2) ≤ x := by omega
theorem zx_X16_change_21 {m x : Nat} (h0 : m + 83 ≤ x) (h1 : x < m + 83 + 9) : x < m + 3 ∨ m + 3 + 1 ≤ x := by omega
theorem zx_X16_change_22 {m x : Nat} (h0 : m + 83 ≤ x) (h1 : x < m + 83 + 9) : x < m + 5 ∨ m + 5 + 64 ≤ x := by omega
theorem zx_X16_change_23 {m x : Nat} (h0 : m + 83 ≤ x) (h1 : x < m + 83 + 9) : x ≠ m := by omega
theorem zx_X16_change_24 {m : Nat}  : (m + 83) < m + 83 + 1 ∨ m + 83 + 1 + 2 ≤ (m + 83) := by omega
theorem zx_X16_change_25 {m : Nat}  : (m + 83 + 3) < m + 83 + 1 ∨ m + 83 + 1 + 2 ≤ (m + 83 + 3) := by omega
theorem zx_X16_change_26 {m : Nat}  : (m + 83 + 4) < m + 83 + 1 ∨ m + 83 + 1 + 2 ≤ (m + 83 + 4) := by omega
theorem zx_X16_change_27 {m : Nat}  : (m + 83 + 5) < m + 83 + 1 ∨ m + 83 + 1 + 2 ≤ (m + 83 + 5) := by omega
theorem zx_X16_change_28 {m : Nat}  : (m + 83 + 6) < m + 83 + 1 ∨ m + 83 + 1 + 2 ≤ (m + 83 + 6) := by omega
theorem zx_X16_change_29 {m : Nat}  : (m + 83 + 7) < m + 83 + 1 ∨ m + 83 + 1 + 2 ≤ (m + 83 + 7) := by omega
theorem zx_X16_change_30 {m : Nat}  : (m + 83 + 8) < m + 83 + 1 ∨ m + 83 + 1 + 2 ≤ (m + 83 + 8) := by omega
theorem zx_X16_change_31 {m : Nat}  : m < m + 83 + 1 ∨ m + 83 + 1 + 2 ≤ m := by omega
theorem zx_X16_change_32 {m x : Nat} (h0 : x < m + 0 ∨ m + 0 + 8322 ≤ x) : x < m + 83 ∨ m + 83 + 9 ≤ x := by omega
theorem zx_X16_change_33 {GZ9_26_0 m x : Nat} (h0 : x < m + 0 ∨ m + 0 + 8322 ≤ x) (h1 : GZ9_26_0 = 0) : x < m + 596 + 130 * GZ9_26_0 ∨ m + 596 + 130 * GZ9_26_0 + 130 ≤ x := by omega
theorem zx_X16_change_34 {GZ9_26_1 m x : Nat} (h0 : x < m + 0 ∨ m + 0 + 8322 ≤ x) (h1 : GZ9_26_1 = 1) : x < m + 596 + 130 * GZ9_26_1 ∨ m + 596 + 130 * GZ9_26_1 + 130 ≤ x := by omega
theorem zx_X16_change_35 {GZ9_26_2 m x : Nat} (h0 : x < m + 0 ∨ m + 0 + 8322 ≤ x) (h1 : GZ9_26_2 = 2) : x < m + 596 + 130 * GZ9_26_2 ∨ m + 596 + 130 * GZ9_26_2 + 130 ≤ x := by omega
theorem zx_X16_change_36 {GZ9_26_3 m x : Nat} (h0 : x < m + 0 ∨ m + 0 + 8322 ≤ x) (h1 : GZ9_26_3 = 3) : x < m + 596 + 130 * GZ9_26_3 ∨ m + 596 + 130 * GZ9_26_3 + 130 ≤ x := by omega
theorem zx_X16_change_37 {GZ9_26_4 m x : Nat} (h0 : x < m + 0 ∨ m + 0 + 8322 ≤ x) (h1 : GZ9_26_4 = 4) : x < m + 596 + 130 * GZ9_26_4 ∨ m + 596 + 130 * GZ9_26_4 + 130 ≤ x := by omega
theorem zx_X16_change_38 {m x : Nat} (h0 : x < m + 0 ∨ m + 0 + 8322 ≤ x) : x < m + 276 ∨ m + 276 + 320 ≤ x := by omega
theorem zx_X16_change_39 {GZ9_26_2 m x : Nat} (h0 : x < m + 0 ∨ m + 0 + 8322 ≤ x) (h1 : GZ9_26_2 = 2) : x < m + 596 + 130 * GZ9_26_2 ∨ m + 596 + 130 * GZ9_26_2 + (5720 - 130 * GZ9_26_2) ≤ x := by omega
theorem zx_X16_change_40 {m x : Nat} (h0 : x < m + 0 ∨ m + 0 + 8322 ≤ x) : x < m + 3 ∨ m + 3 + 1 ≤ x := by omega
theorem zx_X16_change_41 {m x : Nat} (h0 : x < m + 0 ∨ m + 0 + 8322 ≤ x) : x < m + 5 ∨ m + 5 + 64 ≤ x := by omega
theorem zx_X16_change_42 {m x : Nat} (h0 : x < m + 0 ∨ m + 0 + 8322 ≤ x) : x ≠ m := by omega
theorem zx_X16_change_43 {m x : Nat} (h0 : x < m + 0 ∨ m + 0 + 8322 ≤ x) : x < m + 83 + 1 ∨ m + 83 + 1 + 2 ≤ x := by omega
theorem zx_X16_change_44 {m x : Nat} (h0 : m + 7486 ≤ x) (h1 : x < m + 7486 + 108) : x < m + 83 ∨ m + 83 + 9 ≤ x := by omega
theorem zx_X16_change_45 {GZ9_26_0 m x : Nat} (h0 : m + 7486 ≤ x) (h1 : x < m + 7486 + 108) (h2 : GZ9_26_0 = 0) : x < m + 596 + 130 * GZ9_26_0 ∨ m + 596 + 130 * GZ9_26_0 + 130 ≤ x := by omega
theorem zx_X16_change_46 {GZ9_26_1 m x : Nat} (h0 : m + 7486 ≤ x) (h1 : x < m + 7486 + 108) (h2 : GZ9_26_1 = 1) : x < m + 596 + 130 * GZ9_26_1 ∨ m + 596 + 130 * GZ9_26_1 + 130 ≤ x := by omega
theorem zx_X16_change_47 {GZ9_26_2 m x : Nat} (h0 : m + 7486 ≤ x) (h1 : x < m + 7486 + 108) (h2 : GZ9_26_2 = 2) : x < m + 596 + 130 * GZ9_26_2 ∨ m + 596 + 130 * GZ9_26_2 + 130 ≤ x := by omega
theorem zx_X16_change_48 {GZ9_26_3 m x : Nat} (h0 : m + 7486 ≤ x) (h1 : x < m + 7486 + 108) (h2 : GZ9_26_3 = 3) : x < m + 596 + 130 * GZ9_26_3 ∨ m + 596 + 130 * GZ9_26_3 + 130 ≤ x := by omega
theorem zx_X16_change_49 {GZ9_26_4 m x : Nat} (h0 : m + 7486 ≤ x) (h1 : x < m + 7486 + 108) (h2 : GZ9_26_4 = 4) : x < m + 596 + 130 * GZ9_26_4 ∨ m + 596 + 130 * GZ9_26_4 + 130 ≤ x := by omega
theorem zx_X16_change_50 {m x : Nat} (h0 : m + 7486 ≤ x) (h1 : x < m + 7486 + 108) : x < m + 276 ∨ m + 276 + 320 ≤ x := by omega
theorem zx_X16_change_51 {GZ9_26_2 m x : Nat} (h0 : m + 7486 ≤ x) (h1 : x < m + 7486 + 108) (h2 : GZ9_26_2 = 2) : x < m + 596 + 130 * GZ9_26_2 ∨ m + 596 + 130 * GZ9_26_2 + (5720 - 130 * GZ9_26_2) ≤ x := by omega
theorem zx_X16_change_52 {m x : Nat} (h0 : m + 7486 ≤ x) (h1 : x < m + 7486 + 108) : x < m + 3 ∨ m + 3 + 1 ≤ x := by omega
theorem zx_X16_change_53 {m x : Nat} (h0 : m + 7486 ≤ x) (h1 : x < m + 7486 + 108) : x < m + 5 ∨ m + 5 + 64 ≤ x := by omega
theorem zx_X16_change_54 {m x : Nat} (h0 : m + 7486 ≤ x) (h1 : x < m + 7486 + 108) : x ≠ m := by omega
theorem zx_X16_change_55 {m x : Nat} (h0 : m + 7486 ≤ x) (h1 : x < m + 7486 + 108) : x < m + 83 + 1 ∨ m + 83 + 1 + 2 ≤ x := by omega
theorem zx_X16_change_56 {m x : Nat} (h0 : m + 6316 ≤ x) (h1 : x < m + 6316 + 1170) : x < m + 83 ∨ m + 83 + 9 ≤ x := by omega
theorem zx_X16_change_57 {GZ9_26_0 m x : Nat} (h0 : m + 6316 ≤ x) (h1 : x < m + 6316 + 1170) (h2 : GZ9_26_0 = 0) : x < m + 596 + 130 * GZ9_26_0 ∨ m + 596 + 130 * GZ9_26_0 + 130 ≤ x := by omega
theorem zx_X16_change_58 {GZ9_26_1 m x : Nat} (h0 : m + 6316 ≤ x) (h1 : x < m + 6316 + 1170) (h2 : GZ9_26_1 = 1) : x < m + 596 + 130 * GZ9_26_1 ∨ m + 596 + 130 * GZ9_26_1 + 130 ≤ x := by omega
theorem zx_X16_change_59 {GZ9_26_2 m x : Nat} (h0 : m + 6316 ≤ x) (h1 : x < m + 6316 + 1170) (h2 : GZ9_26_2 = 2) : x < m + 596 + 130 * GZ9_26_2 ∨ m + 596 + 130 * GZ9_26_2 + 130 ≤ x := by omega
theorem zx_X16_change_60 {GZ9_26_3 m x : Nat} (h0 : m + 6316 ≤ x) (h1 : x < m + 6316 + 1170) (h2 : GZ9_26_3 = 3) : x < m + 596 + 130 * GZ9_26_3 ∨ m + 596 + 130 * GZ9_26_3 + 130 ≤ x := by omega
theorem zx_X16_change_61 {GZ9_26_4 m x : Nat} (h0 : m + 6316 ≤ x) (h1 : x < m + 6316 + 1170) (h2 : GZ9_26_4 = 4) : x < m + 596 + 130 * GZ9_26_4 ∨ m + 596 + 130 * GZ9_26_4 + 130 ≤ x := by omega
theorem zx_X16_change_62 {m x : Nat} (h0 : m + 6316 ≤ x) (h1 : x < m + 6316 + 1170) : x < m + 276 ∨ m + 276 + 320 ≤ x := by omega
theorem zx_X16_change_63 {GZ9_26_2 m x : Nat} (h0 : m + 6316 ≤ x) (h1 : x < m + 6316 + 1170) (h2 : GZ9_26_2 = 2) : x < m + 596 + 130 * GZ9_26_2 ∨ m + 596 + 130 * GZ9_26_2 + (5720 - 130 * GZ9_26_2) ≤ x := by omega
theorem zx_X16_change_64 {m x : Nat} (h0 : m + 6316 ≤ x) (h1 : x < m + 6316 + 1170) : x < m + 3 ∨ m + 3 + 1 ≤ x := by omega
theorem zx_X16_change_65 {m x : Nat} (h0 : m + 6316 ≤ x) (h1 : x < m + 6316 + 1170) : x < m + 5 ∨ m + 5 + 64 ≤ x := by omega
theorem zx_X16_change_66 {m x : Nat} (h0 : m + 6316 ≤ x) (h1 : x < m + 6316 + 1170) : x ≠ m := by omega
theorem zx_X16_change_67 {m x : Nat} (h0 : m + 6316 ≤ x) (h1 : x < m + 6316 + 1170) : x < m + 83 + 1 ∨ m + 83 + 1 + 2 ≤ x := by omega
theorem zx_X16_change_68 {m x : Nat} (h0 : m + 92 ≤ x) (h1 : x < m + 92 + 1) : x < m + 83 ∨ m + 83 + 9 ≤ x := by omega
theorem zx_X16_change_69 {GZ9_26_0 m x : Nat} (h0 : m + 92 ≤ x) (h1 : x < m + 92 + 1) (h2 : GZ9_26_0 = 0) : x < m + 596 + 130 * GZ9_26_0 ∨ m + 596 + 130 * GZ9_26_0 + 130 ≤ x := by omega
theorem zx_X16_change_70 {GZ9_26_1 m x : Nat} (h0 : m + 92 ≤ x) (h1 : x < m + 92 + 1) (h2 : GZ9_26_1 = 1) : x < m + 596 + 130 * GZ9_26_1 ∨ m + 596 + 130 * GZ9_26_1 + 130 ≤ x := by omega
theorem zx_X16_change_71 {GZ9_26_2 m x : Nat} (h0 : m + 92 ≤ x) (h1 : x < m + 92 + 1) (h2 : GZ9_26_2 = 2) : x < m + 596 + 130 * GZ9_26_2 ∨ m + 596 + 130 * GZ9_26_2 + 130 ≤ x := by omega
theorem zx_X16_change_72 {GZ9_26_3 m x : Nat} (h0 : m + 92 ≤ x) (h1 : x < m + 92 + 1) (h2 : GZ9_26_3 = 3) : x < m + 596 + 130 * GZ9_26_3 ∨ m + 596 + 130 * GZ9_26_3 + 130 ≤ x := by omega
theorem zx_X16_change_73 {GZ9_26_4 m x : Nat} (h0 : m + 92 ≤ x) (h1 : x < m + 92 + 1) (h2 : GZ9_26_4 = 4) : x < m + 596 + 130 * GZ9_26_4 ∨ m + 596 + 130 * GZ9_26_4 + 130 ≤ x := by omega
theorem zx_X16_change_74 {m x : Nat} (h0 : m + 92 ≤ x) (h1 : x < m + 92 + 1) : x < m + 276 ∨ m + 276 + 320 ≤ x := by omega
theorem zx_X16_change_75 {GZ9_26_2 m x : Nat} (h0 : m + 92 ≤ x) (h1 : x < m + 92 + 1) (h2 : GZ9_26_2 = 2) : x < m + 596 + 130 * GZ9_26_2 ∨ m + 596 + 130 * GZ9_26_2 + (5720 - 130 * GZ9_26_2) ≤ x := by omega
theorem zx_X16_change_76 {m x : Nat} (h0 : m + 92 ≤ x) (h1 : x < m + 92 + 1) : x < m + 3 ∨ m + 3 + 1 ≤ x := by omega
theorem zx_X16_change_77 {m x : Nat} (h0 : m + 92 ≤ x) (h1 : x < m + 92 + 1) : x < m + 5 ∨ m + 5 + 64 ≤ x := by omega
theorem zx_X16_change_78 {m x : Nat} (h0 : m + 92 ≤ x) (h1 : x < m + 92 + 1) : x ≠ m := by omega
theorem zx_X16_change_79 {m x : Nat} (h0 : m + 92 ≤ x) (h1 : x < m + 92 + 1) : x < m + 83 + 1 ∨ m + 83 + 1 + 2 ≤ x := by omega
theorem zx_X16_change_80 {m x : Nat} (h0 : m + 93 ≤ x) (h1 : x < m + 93 + 1) : x < m + 83 ∨ m + 83 + 9 ≤ x := by omega
theorem zx_X16_change_81 {GZ9_26_0 m x : Nat} (h0 : m + 93 ≤ x) (h1 : x < m + 93 + 1) (h2 : GZ9_26_0 = 0) : x < m + 596 + 130 * GZ9_26_0 ∨ m + 596 + 130 * GZ9_26_0 + 130 ≤ x := by omega
theorem zx_X16_change_82 {GZ9_26_1 m x : Nat} (h0 : m + 93 ≤ x) (h1 : x < m + 93 + 1) (h2 : GZ9_26_1 = 1) : x < m + 596 + 130 * GZ9_26_1 ∨ m + 596 + 130 * GZ9_26_1 + 130 ≤ x := by omega
theorem zx_X16_change_83 {GZ9_26_2 m x : Nat} (h0 : m + 93 ≤ x) (h1 : x < m + 93 + 1) (h2 : GZ9_26_2 = 2) : x < m + 596 + 130 * GZ9_26_2 ∨ m + 596 + 130 * GZ9_26_2 + 130 ≤ x := by omega
theorem zx_X16_change_84 {GZ9_26_3 m x : Nat} (h0 : m + 93 ≤ x) (h1 : x < m + 93 + 1) (h2 : GZ9_26_3 = 3) : x < m + 596 + 130 * GZ9_26_3 ∨ m + 596 + 130 * GZ9_26_3 + 130 ≤ x := by omega
theorem zx_X16_change_85 {GZ9_26_4 m x : Nat} (h0 : m + 93 ≤ x) (h1 : x < m + 93 + 1) (h2 : GZ9_26_4 = 4) : x < m + 596 + 130 * GZ9_26_4 ∨ m + 596 + 130 * GZ9_26_4 + 130 ≤ x := by omega
theorem zx_X16_change_86 {m x : Nat} (h0 : m + 93 ≤ x) (h1 : x < m + 93 + 1) : x < m + 276 ∨ m + 276 + 320 ≤ x := by omega
theorem zx_X16_change_87 {GZ9_26_2 m x : Nat} (h0 : m + 93 ≤ x) (h1 : x < m + 93 + 1) (h2 : GZ9_26_2 = 2) : x < m + 596 + 130 * GZ9_26_2 ∨ m + 596 + 130 * GZ9_26_2 + (5720 - 130 * GZ9_26_2) ≤ x := by omega
theorem zx_X16_change_88 {m x : Nat} (h0 : m + 93 ≤ x) (h1 : x < m + 93 + 1) : x < m + 3 ∨ m + 3 + 1 ≤ x := by omega
theorem zx_X16_change_89 {m x : Nat} (h0 : m + 93 ≤ x) (h1 : x < m + 93 + 1) : x < m + 5 ∨ m + 5 + 64 ≤ x := by omega
theorem zx_X16_change_90 {m x : Nat} (h0 : m + 93 ≤ x) (h1 : x < m + 93 + 1) : x ≠ m := by omega
theorem zx_X16_change_91 {m x : Nat} (h0 : m + 93 ≤ x) (h1 : x < m + 93 + 1) : x < m + 83 + 1 ∨ m + 83 + 1 + 2 ≤ x := by omega
theorem zx_X16_change_92 {m : Nat}  : (m + 94) < m + 83 ∨ m + 83 + 9 ≤ (m + 94) := by omega
theorem zx_X16_change_93 {GZ9_26_0 m : Nat} (h0 : GZ9_26_0 = 0) : (m + 94) < m + 596 + 130 * GZ9_26_0 ∨ m + 596 + 130 * GZ9_26_0 + 130 ≤ (m + 94) := by omega
theorem zx_X16_change_94 {GZ9_26_1 m : Nat} (h0 : GZ9_26_1 = 1) : (m + 94) < m + 596 + 130 * GZ9_26_1 ∨ m + 596 + 130 * GZ9_26_1 + 130 ≤ (m + 94) := by omega
theorem zx_X16_change_95 {GZ9_26_2 m : Nat} (h0 : GZ9_26_2 = 2) : (m + 94) < m + 596 + 130 * GZ9_26_2 ∨ m + 596 + 130 * GZ9_26_2 + 130 ≤ (m + 94) := by omega
theorem zx_X16_change_96 {GZ9_26_3 m : Nat} (h0 : GZ9_26_3 = 3) : (m + 94) < m + 596 + 130 * GZ9_26_3 ∨ m + 596 + 130 * GZ9_26_3 + 130 ≤ (m + 94) := by omega
theorem zx_X16_change_97 {GZ9_26_4 m : Nat} (h0 : GZ9_26_4 = 4) : (m + 94) < m + 596 + 130 * GZ9_26_4 ∨ m + 596 + 130 * GZ9_26_4 + 130 ≤ (m + 94) := by omega
theorem zx_X16_change_98 {m : Nat}  : (m + 94) < m + 276 ∨ m + 276 + 320 ≤ (m + 94) := by omega
theorem zx_X16_change_99 {GZ9_26_2 m : Nat} (h0 : GZ9_26_2 = 2) : (m + 94) < m + 596 + 130 * GZ9_26_2 ∨ m + 596 + 130 * GZ9_26_2 + (5720 - 130 * GZ9_26_2) ≤ (m + 94) := by omega
theorem zx_X16_change_100 {m : Nat}  : (m + 94) < m + 3 ∨ m + 3 + 1 ≤ (m + 94) := by omega
theorem zx_X16_change_101 {m : Nat}  : (m + 94) < m + 5 ∨ m + 5 + 64 ≤ (m + 94) := by omega
theorem zx_X16_change_102 {m : Nat}  : (m + 94) ≠ m := by omega
theorem zx_X16_change_103 {m : Nat}  : (m + 94) < m + 83 + 1 ∨ m + 83 + 1 + 2 ≤ (m + 94) := by omega
theorem zx_X16_change_104 {GZ9_26_2 m x : Nat} (h0 : m + 596 + 130 * GZ9_26_2 ≤ x) (h1 : x < m + 596 + 130 * GZ9_26_2 + 130) (h2 : GZ9_26_2 = 2) : x < m ∨ m + 1 ≤ x := by omega
theorem zx_X16_change_105 {GZ9_26_2 GZ9_26_3 m x : Nat} (h0 : m + 596 + 130 * GZ9_26_2 ≤ x) (h1 : x < m + 596 + 130 * GZ9_26_2 + 130) (h2 : GZ9_26_2 = 2) (h3 : GZ9_26_3 = 3) : x < m + 596 + 130 * GZ9_26_3 ∨ m + 596 + 130 * GZ9_26_3 + 130 ≤ x := by omega
theorem zx_X16_change_106 {GZ9_26_2 GZ9_26_4 m x : Nat} (h0 : m + 596 + 130 * GZ9_26_2 ≤ x) (h1 : x < m + 596 + 130 * GZ9_26_2 + 130) (h2 : GZ9_26_2 = 2) (h3 : GZ9_26_4 = 4) : x < m + 596 + 130 * GZ9_26_4 ∨ m + 596 + 130 * GZ9_26_4 + 130 ≤ x := by omega
theorem zx_X16_change_107 {GZ9_26_3 m x : Nat} (h0 : m + 596 + 130 * GZ9_26_3 ≤ x) (h1 : x < m + 596 + 130 * GZ9_26_3 + 130) (h2 : GZ9_26_3 = 3) : x < m ∨ m + 1 ≤ x := by omega
theorem zx_X16_change_108 {GZ9_26_3 GZ9_26_4 m x : Nat} (h0 : m + 596 + 130 * GZ9_26_3 ≤ x) (h1 : x < m + 596 + 130 * GZ9_26_3 + 130) (h2 : GZ9_26_3 = 3) (h3 : GZ9_26_4 = 4) : x < m + 596 + 130 * GZ9_26_4 ∨ m + 596 + 130 * GZ9_26_4 + 130 ≤ x := by omega
theorem zx_X16_change_109 {GZ9_26_0 GZ9_26_2 m x : Nat} (h0 : m + 596 + 130 * GZ9_26_0 ≤ x) (h1 : x < m + 596 + 130 * GZ9_26_0 + 130) (h2 : GZ9_26_0 = 0) (h3 : GZ9_26_2 = 2) : x < m + 596 + 130 * GZ9_26_2 ∨ m + 596 + 130 * GZ9_26_2 + 130 ≤ x := by omega
theorem zx_X16_change_110 {GZ9_26_0 GZ9_26_3 m x : Nat} (h0 : m + 596 + 130 * GZ9_26_0 ≤ x) (h1 : x < m + 596 + 130 * GZ9_26_0 + 130) (h2 : GZ9_26_0 = 0) (h3 : GZ9_26_3 = 3) : x < m + 596 + 130 * GZ9_26_3 ∨ m + 596 + 130 * GZ9_26_3 + 130 ≤ x := by omega
theorem zx_X16_change_111 {GZ9_26_0 GZ9_26_4 m x : Nat} (h0 : m + 596 + 130 * GZ9_26_0 ≤ x) (h1 : x < m + 596 + 130 * GZ9_26_0 + 130) (h2 : GZ9_26_0 = 0) (h3 : GZ9_26_4 = 4) : x < m + 596 + 130 * GZ9_26_4 ∨ m + 596 + 130 * GZ9_26_4 + 130 ≤ x := by omega
theorem zx_X16_change_112 {GZ9_26_1 m x : Nat} (h0 : m + 596 + 130 * GZ9_26_1 ≤ x) (h1 : x < m + 596 + 130 * GZ9_26_1 + 130) (h2 : GZ9_26_1 = 1) : x < m ∨ m + 1 ≤ x := by omega
theorem zx_X16_change_113 {GZ9_26_1 GZ9_26_2 m x : Nat} (h0 : m + 596 + 130 * GZ9_26_1 ≤ x) (h1 : x < m + 596 + 130 * GZ9_26_1 + 130) (h2 : GZ9_26_1 = 1) (h3 : GZ9_26_2 = 2) : x < m + 596 + 130 * GZ9_26_2 ∨ m + 596 + 130 * GZ9_26_2 + 130 ≤ x := by omega
theorem zx_X16_change_114 {GZ9_26_1 GZ9_26_3 m x : Nat} (h0 : m + 596 + 130 * GZ9_26_1 ≤ x) (h1 : x < m + 596 + 130 * GZ9_26_1 + 130) (h2 : GZ9_26_1 = 1) (h3 : GZ9_26_3 = 3) : x < m + 596 + 130 * GZ9_26_3 ∨ m + 596 + 130 * GZ9_26_3 + 130 ≤ x := by omega
theorem zx_X16_change_115 {GZ9_26_1 GZ9_26_4 m x : Nat} (h0 : m + 596 + 130 * GZ9_26_1 ≤ x) (h1 : x < m + 596 + 130 * GZ9_26_1 + 130) (h2 : GZ9_26_1 = 1) (h3 : GZ9_26_4 = 4) : x < m + 596 + 130 * GZ9_26_4 ∨ m + 596 + 130 * GZ9_26_4 + 130 ≤ x := by omega
theorem zx_X16_change_116 {GZ9_26_2 m x : Nat} (h0 : x < m + 596 + 130 * GZ9_26_2 ∨ m + 596 + 130 * GZ9_26_2 + (5720 - 130 * GZ9_26_2) ≤ x) (h1 : GZ9_26_2 = 2) : x < m + 596 + 130 * GZ9_26_2 ∨ m + 596 + 130 * GZ9_26_2 + 130 ≤ x := by omega
theorem zx_X16_change_117 {GZ9_26_2 GZ9_26_3 m x : Nat} (h0 : x < m + 596 + 130 * GZ9_26_2 ∨ m + 596 + 130 * GZ9_26_2 + (5720 - 130 * GZ9_26_2) ≤ x) (h1 : GZ9_26_2 = 2) (h2 : GZ9_26_3 = 3) : x < m + 596 + 130 * GZ9_26_3 ∨ m + 596 + 130 * GZ9_26_3 + 130 ≤ x := by omega
theorem zx_X16_change_118 {GZ9_26_0 m x : Nat} (h0 : x < m + 276 ∨ m + 276 + 320 ≤ x) (h1 : GZ9_26_0 = 0) : x < m + 276 + 2 * GZ9_26_0 ∨ m + 276 + 2 * GZ9_26_0 + (320 - 2 * GZ9_26_0) ≤ x := by omega
theorem zx_X16_change_119 {GZ9_26_2 GZ9_26_5 m x : Nat} (h0 : x < m + 596 + 130 * GZ9_26_2 ∨ m + 596 + 130 * GZ9_26_2 + (5720 - 130 * GZ9_26_2) ≤ x) (h1 : GZ9_26_2 = 2) (h2 : GZ9_26_5 = 5) : x < m + 596 + 130 * GZ9_26_5 ∨ m + 596 + 130 * GZ9_26_5 + (5720 - 130 * GZ9_26_5) ≤ x := by omega
theorem zx_X16_change_120 {GZ9_26_2 m : Nat} (h0 : GZ9_26_2 = 2) : m < m + 596 + 130 * GZ9_26_2 ∨ m + 596 + 130 * GZ9_26_2 + 130 ≤ m := by omega
theorem zx_X16_change_121 {GZ9_26_3 m : Nat} (h0 : GZ9_26_3 = 3) : m < m + 596 + 130 * GZ9_26_3 ∨ m + 596 + 130 * GZ9_26_3 + 130 ≤ m := by omega
theorem zx_X16_change_122 {GZ9_26_0 m : Nat} (h0 : GZ9_26_0 = 0) : m < m + 276 + 2 * GZ9_26_0 ∨ m + 276 + 2 * GZ9_26_0 + (320 - 2 * GZ9_26_0) ≤ m := by omega
theorem zx_X16_change_123 {GZ9_26_5 m : Nat} (h0 : GZ9_26_5 = 5) : m < m + 596 + 130 * GZ9_26_5 ∨ m + 596 + 130 * GZ9_26_5 + (5720 - 130 * GZ9_26_5) ≤ m := by omega
theorem zx_X16_change_124 {m : Nat}  : m < m + 3 ∨ m + 3 + 1 ≤ m := by omega
theorem zx_X16_change_125 {m : Nat}  : m < m + 5 ∨ m + 5 + 64 ≤ m := by omega
theorem zx_X16_change_126 {GZ9_26_2 GZ9_26_3 m x : Nat} (h0 : m + 596 + 130 * GZ9_26_3 ≤ x) (h1 : x < m + 596 + 130 * GZ9_26_3 + 130) (h2 : GZ9_26_2 = 2) (h3 : GZ9_26_3 = 3) : x < m + 596 + 130 * GZ9_26_2 ∨ m + 596 + 130 * GZ9_26_2 + 130 ≤ x := by omega
theorem zx_X16_change_127 {GZ9_26_0 GZ9_26_3 m x : Nat} (h0 : m + 596 + 130 * GZ9_26_3 ≤ x) (h1 : x < m + 596 + 130 * GZ9_26_3 + 130) (h2 : GZ9_26_0 = 0) (h3 : GZ9_26_3 = 3) : x < m + 276 + 2 * GZ9_26_0 ∨ m + 276 + 2 * GZ9_26_0 + (320 - 2 * GZ9_26_0) ≤ x := by omega
theorem zx_X16_change_128 {GZ9_26_0 GZ9_26_1 m x : Nat} (h0 : m + 596 + 130 * GZ9_26_1 ≤ x) (h1 : x < m + 596 + 130 * GZ9_26_1 + 130) (h2 : GZ9_26_0 = 0) (h3 : GZ9_26_1 = 1) : x < m + 276 + 2 * GZ9_26_0 ∨ m + 276 + 2 * GZ9_26_0 + (320 - 2 * GZ9_26_0) ≤ x := by omega
theorem zx_X16_change_129 {GZ9_26_0 GZ9_26_2 m x : Nat} (h0 : m + 596 + 130 * GZ9_26_2 ≤ x) (h1 : x < m + 596 + 130 * GZ9_26_2 + 130) (h2 : GZ9_26_0 = 0) (h3 : GZ9_26_2 = 2) : x < m + 276 + 2 * GZ9_26_0 ∨ m + 276 + 2 * GZ9_26_0 + (320 - 2 * GZ9_26_0) ≤ x := by omega
theorem zx_X16_change_130 {GZ9_26_0 m x : Nat} (h0 : x < m + 0 ∨ m + 0 + 8322 ≤ x) (h1 : GZ9_26_0 = 0) : x < m + 276 + 2 * GZ9_26_0 ∨ m + 276 + 2 * GZ9_26_0 + (320 - 2 * GZ9_26_0) ≤ x := by omega
theorem zx_X16_change_131 {GZ9_26_0 m x : Nat} (h0 : m + 7486 ≤ x) (h1 : x < m + 7486 + 108) (h2 : GZ9_26_0 = 0) : x < m + 276 + 2 * GZ9_26_0 ∨ m + 276 + 2 * GZ9_26_0 + (320 - 2 * GZ9_26_0) ≤ x := by omega
theorem zx_X16_change_132 {GZ9_26_0 m x : Nat} (h0 : m + 83 ≤ x) (h1 : x < m + 83 + 9) (h2 : GZ9_26_0 = 0) : x < m + 276 + 2 * GZ9_26_0 ∨ m + 276 + 2 * GZ9_26_0 + (320 - 2 * GZ9_26_0) ≤ x := by omega
theorem zx_X16_change_133 {GZ9_26_0 m x : Nat} (h0 : m + 6316 ≤ x) (h1 : x < m + 6316 + 1170) (h2 : GZ9_26_0 = 0) : x < m + 276 + 2 * GZ9_26_0 ∨ m + 276 + 2 * GZ9_26_0 + (320 - 2 * GZ9_26_0) ≤ x := by omega
theorem zx_X16_change_134 {GZ9_26_0 m x : Nat} (h0 : m + 92 ≤ x) (h1 : x < m + 92 + 1) (h2 : GZ9_26_0 = 0) : x < m + 276 + 2 * GZ9_26_0 ∨ m + 276 + 2 * GZ9_26_0 + (320 - 2 * GZ9_26_0) ≤ x := by omega
theorem zx_X16_change_135 {GZ9_26_0 m x : Nat} (h0 : m + 93 ≤ x) (h1 : x < m + 93 + 1) (h2 : GZ9_26_0 = 0) : x < m + 276 + 2 * GZ9_26_0 ∨ m + 276 + 2 * GZ9_26_0 + (320 - 2 * GZ9_26_0) ≤ x := by omega
theorem zx_X16_change_136 {GZ9_26_0 m : Nat} (h0 : GZ9_26_0 = 0) : (m + 94) < m + 276 + 2 * GZ9_26_0 ∨ m + 276 + 2 * GZ9_26_0 + (320 - 2 * GZ9_26_0) ≤ (m + 94) := by omega
theorem zx_X16_change_137 {GZ9_26_2 GZ9_26_4 m x : Nat} (h0 : m + 596 + 130 * GZ9_26_4 ≤ x) (h1 : x < m + 596 + 130 * GZ9_26_4 + 130) (h2 : GZ9_26_2 = 2) (h3 : GZ9_26_4 = 4) : x < m + 596 + 130 * GZ9_26_2 ∨ m + 596 + 130 * GZ9_26_2 + 130 ≤ x := by omega
theorem zx_X16_change_138 {m : Nat}  : (m + 83 + 1) < m + 83 ∨ m + 83 + 1 ≤ (m + 83 + 1) := by omega
theorem zx_X16_change_139 {m : Nat}  : (m + 83 + 2) < m + 83 ∨ m + 83 + 1 ≤ (m + 83 + 2) := by omega
theorem zx_X16_change_140 {m : Nat}  : (m + 83 + 3) < m + 83 ∨ m + 83 + 1 ≤ (m + 83 + 3) := by omega
theorem zx_X16_change_141 {m : Nat}  : (m + 83 + 4) < m + 83 ∨ m + 83 + 1 ≤ (m + 83 + 4) := by omega
theorem zx_X16_change_142 {m : Nat}  : (m + 83 + 5) < m + 83 ∨ m + 83 + 1 ≤ (m + 83 + 5) := by omega
theorem zx_X16_change_143 {m : Nat}  : (m + 83 + 6) < m + 83 ∨ m + 83 + 1 ≤ (m + 83 + 6) := by omega
theorem zx_X16_change_144 {m : Nat}  : (m + 83 + 7) < m + 83 ∨ m + 83 + 1 ≤ (m + 83 + 7) := by omega
theorem zx_X16_change_145 {m : Nat}  : (m + 83 + 8) < m + 83 ∨ m + 83 + 1 ≤ (m + 83 + 8) := by omega
theorem zx_X16_change_146 {m x : Nat} (h0 : m + 7486 ≤ x) (h1 : x < m + 7486 + 108) : x < m + 83 ∨ m + 83 + 1 ≤ x := by omega
theorem zx_X16_change_147 {m : Nat}  : m < m + 83 ∨ m + 83 + 1 ≤ m := by omega
theorem zx_X16_change_148 {m x : Nat} (h0 : x < m + 0 ∨ m + 0 + 8322 ≤ x) : x < m + 83 ∨ m + 83 + 1 ≤ x := by omega
theorem zx_X16_change_149 {m x : Nat} (h0 : m + 6316 ≤ x) (h1 : x < m + 6316 + 1170) : x < m + 83 ∨ m + 83 + 1 ≤ x := by omega
theorem zx_X16_change_150 {m x : Nat} (h0 : m + 92 ≤ x) (h1 : x < m + 92 + 1) : x < m + 83 ∨ m + 83 + 1 ≤ x := by omega
theorem zx_X16_change_151 {m x : Nat} (h0 : m + 93 ≤ x) (h1 : x < m + 93 + 1) : x < m + 83 ∨ m + 83 + 1 ≤ x := by omega
theorem zx_X16_change_152 {m : Nat}  : (m + 94) < m + 83 ∨ m + 83 + 1 ≤ (m + 94) := by omega
theorem zx_X16_change_153 {GZ9_26_0 m : Nat} (h0 : GZ9_26_0 = 0) : m < m + 596 + 130 * GZ9_26_0 ∨ m + 596 + 130 * GZ9_26_0 + (5720 - 130 * GZ9_26_0) ≤ m := by omega
theorem zx_X16_change_154 {GZ9_26_0 m x : Nat} (h0 : x < m + 0 ∨ m + 0 + 8322 ≤ x) (h1 : GZ9_26_0 = 0) : x < m + 596 + 130 * GZ9_26_0 ∨ m + 596 + 130 * GZ9_26_0 + (5720 - 130 * GZ9_26_0) ≤ x := by omega
theorem zx_X16_change_155 {GZ9_26_0 m x : Nat} (h0 : m + 7486 ≤ x) (h1 : x < m + 7486 + 108) (h2 : GZ9_26_0 = 0) : x < m + 596 + 130 * GZ9_26_0 ∨ m + 596 + 130 * GZ9_26_0 + (5720 - 130 * GZ9_26_0) ≤ x := by omega
theorem zx_X16_change_156 {GZ9_26_0 m x : Nat} (h0 : m + 6316 ≤ x) (h1 : x < m + 6316 + 1170) (h2 : GZ9_26_0 = 0) : x < m + 596 + 130 * GZ9_26_0 ∨ m + 596 + 130 * GZ9_26_0 + (5720 - 130 * GZ9_26_0) ≤ x := by omega
theorem zx_X16_change_157 {GZ9_26_0 m x : Nat} (h0 : m + 92 ≤ x) (h1 : x < m + 92 + 1) (h2 : GZ9_26_0 = 0) : x < m + 596 + 130 * GZ9_26_0 ∨ m + 596 + 130 * GZ9_26_0 + (5720 - 130 * GZ9_26_0) ≤ x := by omega
theorem zx_X16_change_158 {GZ9_26_0 m x : Nat} (h0 : m + 93 ≤ x) (h1 : x < m + 93 + 1) (h2 : GZ9_26_0 = 0) : x < m + 596 + 130 * GZ9_26_0 ∨ m + 596 + 130 * GZ9_26_0 + (5720 - 130 * GZ9_26_0) ≤ x := by omega
theorem zx_X16_change_159 {GZ9_26_0 m : Nat} (h0 : GZ9_26_0 = 0) : (m + 94) < m + 596 + 130 * GZ9_26_0 ∨ m + 596 + 130 * GZ9_26_0 + (5720 - 130 * GZ9_26_0) ≤ (m + 94) := by omega
set_option maxHeartbeats 8000000 in
set_option maxRecDepth 100000 in
theorem c_X16_change {w : zM} {n9 : Int32} (m : Nat) (op : Int32) (s9 : Int32) (v : Int32) (to : Int32) (hI : zInv w m n9) : zCon 11 zq_X16_change [.ref m, .int op, .int s9, .int v, .int to] w (fun v9 w9' => zSI w w9' ∧ (∀ x, (x < m + 0 ∨ m + 0 + 8322 ≤ x) → w9' x = w x) ∧ zInv w9' m n9 ∧ ∃ r9 : Int32, v9 = some (.int r9) ∧ True) := by
  intro d sz hd
  obtain ⟨d, rfl⟩ : ∃ d9, d = d9 + 1 := ⟨d - 1, by omega⟩
  generalize hPost : (fun (r9' : Option (Option Value)) (w9' : zM) (z9 : Nat) => z9 = sz ∧ ∃ v9, r9' = some v9 ∧ (zSI w w9' ∧ (∀ x, (x < m + 0 ∨ m + 0 + 8322 ≤ x) → w9' x = w x) ∧ zInv w9' m n9 ∧ ∃ r9 : Int32, v9 = some (.int r9) ∧ True)) = Post
  show zP (d + 1) zq_X16_change 0 [(0, .ref m), (1, .int op), (2, .int s9), (3, .int v), (4, .int to)] [] w sz 0 0 Post
  have k1 := zrng op
  have k2 := zrng s9
  have k3 := zrng v
  have k4 := zrng to
  obtain ⟨g, r, hm, hR_m, hSl0, ⟨kM, hMd0⟩, hPl0, ⟨ff, hAf0, hff⟩, hBo0, hBl0, hI12, hI24, hI29, hI31, hIn⟩ := hI
  have k5 := zrng (g 12)
  have hz6 : ((g 12).toNatClampNeg : Int) = (g 12).toInt := znat (by first | omega | decide)
  have k7 := zrng (g 24)
  have hz8 : ((g 24).toNatClampNeg : Int) = (g 24).toInt := znat (by first | omega | decide)
  have k9 := zrng (g 29)
  have hz10 : ((g 29).toNatClampNeg : Int) = (g 29).toInt := znat (by first | omega | decide)
  have k11 := zrng (g 31)
  have hz12 : ((g 31).toNatClampNeg : Int) = (g 31).toInt := znat (by first | omega | decide)
  refine zp_seg (pc' := 1) (lv' := [(0, .ref m), (1, .int op), (2, .int s9), (3, .int v), (4, .int to)]) (st' := [.int s9]) [(0, .iload_n 2)] (by decide +kernel) rfl ?_
  refine zr_callS (idx := 551) (j := 336) (by decide +kernel) (by decide +kernel) (by decide) (show zMe 336 = some zq_X16_isSlot from rfl) rfl rfl (Nat.le_of_ble_eq_true rfl) rfl rfl (Nat.le_of_ble_eq_true rfl) (Nat.le_of_ble_eq_true rfl) (c_X16_isSlot (w := w) s9 ) (by omega) (fun v1 w1 hp1 => ?_)
  obtain ⟨hpw1, r1, rfl, hrb1, hr1⟩ := hp1
  replace hpw1 := hpw1.symm
  subst hpw1
  have kr1 := zrng r1
  show zP _ _ _ _ [.int r1] _ _ _ _ _
  refine zp_if (i := .ifCond .eq 11) (c := r1 = 0) (t := 15) (e := 7) (lv' := [(0, .ref m), (1, .int op), (2, .int s9), (3, .int v), (4, .int to)]) (st' := []) (by decide +kernel) rfl (fun cc4 => ?_) (fun cc4 => ?_)
  ·
    have f14 := zeqI cc4
    rw [show (0 : Int32).toInt = 0 from by decide] at f14
    refine zp_seg (pc' := 16) (lv' := [(0, .ref m), (1, .int op), (2, .int s9), (3, .int v), (4, .int to)]) (st' := [.int (Int32.ofInt (-1))]) [(15, .iconst (-1))] (by decide +kernel) rfl ?_
    have hoffend : ∀ x, (x < m + 0 ∨ m + 0 + 8322 ≤ x) → w x = w x := fun x hx => rfl
    refine zr_retI (by decide +kernel) rfl ?_
    rw [← hPost]; exact ⟨rfl, _, rfl, zSI.rf, hoffend, ⟨_, _, hm, hR_m, hSl0, ⟨_, hMd0⟩, hPl0, ⟨_, hAf0, hff⟩, hBo0, hBl0, hI12, hI24, hI29, hI31, hIn⟩, _, rfl, trivial⟩
  ·
    have f17 := zneI cc4
    rw [show (0 : Int32).toInt = 0 from by decide] at f17
    refine zp_seg (pc' := 9) (lv' := [(0, .ref m), (1, .int op), (2, .int s9), (3, .int v), (4, .int to)]) (st' := [.int to]) [(7, .iload 4)] (by decide +kernel) rfl ?_
    refine zr_callS (idx := 551) (j := 336) (by decide +kernel) (by decide +kernel) (by decide) (show zMe 336 = some zq_X16_isSlot from rfl) rfl rfl (Nat.le_of_ble_eq_true rfl) rfl rfl (Nat.le_of_ble_eq_true rfl) (Nat.le_of_ble_eq_true rfl) (c_X16_isSlot (w := w) to ) (by omega) (fun v9 w9 hp9 => ?_)
    obtain ⟨hpw9, r9, rfl, hrb9, hr9⟩ := hp9
    replace hpw9 := hpw9.symm
    subst hpw9
    have kr9 := zrng r9
    show zP _ _ _ _ [.int r9] _ _ _ _ _
    refine zp_if (i := .ifCond .ne 5) (c := ¬ r9 = 0) (t := 17) (e := 15) (lv' := [(0, .ref m), (1, .int op), (2, .int s9), (3, .int v), (4, .int to)]) (st' := []) (by decide +kernel) rfl (fun cc12 => ?_) (fun cc12 => ?_)
    ·
      have f18 := zneI cc12
      rw [show (0 : Int32).toInt = 0 from by decide] at f18
      have his1 := hr1 (hrb1.resolve_left cc4)
      have his2 := hr9 (hrb9.resolve_left cc12)
      have hz19 : (to.toNatClampNeg : Int) = to.toInt := znat (by first | omega | decide)
      refine zp_seg (pc' := 18) (lv' := [(0, .ref m), (1, .int op), (2, .int s9), (3, .int v), (4, .int to)]) (st' := [.ref m]) [(17, .aload_n 0)] (by decide +kernel) rfl ?_
      refine zr_get (idx := 450) (k := 20) (v := .ref (m + 82)) (by decide +kernel) (by decide +kernel) hm rfl ?_
      refine zp_seg (pc' := 22) (lv' := [(0, .ref m), (1, .int op), (2, .int s9), (3, .int v), (4, .int to)]) (st' := [.int s9, .ref (m + 82)]) [(21, .iload_n 2)] (by decide +kernel) rfl ?_
      have hb21 := hR_m.slots
      have hz22 : (s9.toNatClampNeg : Int) = s9.toInt := znat (by first | omega | decide)
      refine zr_aald (v := .ref (m + 7486 + 9 * s9.toNatClampNeg)) (by decide +kernel) hb21 (by decide) (zin (by first | omega | decide) (by first | omega | decide)) (zsl_at (by omega)) ?_
      obtain ⟨kS1, hkS1⟩ := hSl0 s9.toNatClampNeg (by omega)
      obtain ⟨g1, fn1, fd1, fa1, fb1, fc1, fe1, fr1, fu1, hT1, hAn1, hAd1, hAa1, hAb1, hAc1, hAe1, hAr1, hAu1, hK1⟩ := id hkS1
      obtain ⟨hK10, hKn1, hKd1, hKx1, hKm1, hKl1, hKr1, hKu1, hKk1⟩ := id hK1
      refine zp_seg (pc' := 26) (lv' := [(5, .ref (m + 7486 + 9 * s9.toNatClampNeg)), (0, .ref m), (1, .int op), (2, .int s9), (3, .int v), (4, .int to)]) (st' := [.ref m]) [(23, .astore 5), (25, .aload_n 0)] (by decide +kernel) rfl ?_
      refine zr_callV (idx := 555) (j := 337) (by decide +kernel) (by decide +kernel) (show zMe 337 = some zq_X16_begin from rfl) rfl rfl (Nat.le_of_ble_eq_true rfl) rfl rfl hm (Nat.le_of_ble_eq_true rfl) (Nat.le_of_ble_eq_true rfl) (c_X16_beginZ (w := w) m hm hR_m) (by omega) (fun v26 w26 hp26 => ?_)
      obtain ⟨Z9_26, hsi26, heq26, hp26_0, hp26_1, rfl⟩ := hp26
      have hM26 : w26 m = some (.inl (15, zMo m (zs (zs (zs g 1 Z9_26) 3 Z9_26) 16 Z9_26) r)) := hp26_0
      show zP _ _ _ _ [] _ _ _ _ _
      have k23 := zrng Z9_26
      have hz24 : (Z9_26.toNatClampNeg : Int) = Z9_26.toInt := znat (by first | omega | decide)
      have hgzZ9_26_0 : Z9_26.toNatClampNeg = 0 := by omega
      refine zp_seg (pc' := 32) (lv' := [(5, .ref (m + 7486 + 9 * s9.toNatClampNeg)), (0, .ref m), (1, .int op), (2, .int s9), (3, .int v), (4, .int to)]) (st' := [.int 10, .int op]) [(29, .iload_n 1), (30, .bipush 10)] (by decide +kernel) rfl ?_
      refine zp_if (i := .if_icmp .ne 22) (c := ¬ op = 10) (t := 54) (e := 35) (lv' := [(5, .ref (m + 7486 + 9 * s9.toNatClampNeg)), (0, .ref m), (1, .int op), (2, .int s9), (3, .int v), (4, .int to)]) (st' := []) (by decide +kernel) rfl (fun cc32 => ?_) (fun cc32 => ?_)
      ·
        have f26 := zneI cc32
        rw [show (10 : Int32).toInt = 10 from by decide] at f26
        refine zp_seg (pc' := 56) (lv' := [(5, .ref (m + 7486 + 9 * s9.toNatClampNeg)), (0, .ref m), (1, .int op), (2, .int s9), (3, .int v), (4, .int to)]) (st' := [.ref (m + 7486 + 9 * s9.toNatClampNeg)]) [(54, .aload 5)] (by decide +kernel) rfl ?_
        have hb27 : w26 (m + 7486 + 9 * s9.toNatClampNeg) = some (.inl (13, zTo (m + 7486 + 9 * s9.toNatClampNeg) g1)) := (heq26 (m + 7486 + 9 * s9.toNatClampNeg) (by omega)).trans hT1
        refine zr_get (idx := 202) (k := 0) (v := .int (g1 0)) (by decide +kernel) (by decide +kernel) hb27 rfl ?_
        refine zp_seg (pc' := 60) (lv' := [(5, .ref (m + 7486 + 9 * s9.toNatClampNeg)), (0, .ref m), (1, .int op), (2, .int s9), (3, .int v), (4, .int to)]) (st' := [.int 1, .int (g1 0)]) [(59, .iconst 1)] (by decide +kernel) rfl ?_
        have hJ75 : ∀ (_ : True), (kS1 = 1 ∨ kS1 = 2) → zP (d + 1) zq_X16_change 75 [(0, .ref m), (1, .int op), (3, .int v), (4, .int to), (5, .ref (m + 7486 + 9 * s9.toNatClampNeg))] [] w26 sz 0 0 Post := by
          intro _ hkk9
          refine zp_seg (pc' := 76) (lv' := [(0, .ref m), (1, .int op), (3, .int v), (4, .int to), (5, .ref (m + 7486 + 9 * s9.toNatClampNeg))]) (st' := [.int op]) [(75, .iload_n 1)] (by decide +kernel) rfl ?_
          refine zp_if (i := .ifCond .lt 9) (c := op < 0) (t := 85) (e := 79) (lv' := [(0, .ref m), (1, .int op), (3, .int v), (4, .int to), (5, .ref (m + 7486 + 9 * s9.toNatClampNeg))]) (st' := []) (by decide +kernel) rfl (fun cc76 => ?_) (fun cc76 => ?_)
          ·
            have f28 := zltI cc76
            rw [show (0 : Int32).toInt = 0 from by decide] at f28
            refine zp_seg (pc' := 86) (lv' := [(0, .ref m), (1, .int op), (3, .int v), (4, .int to), (5, .ref (m + 7486 + 9 * s9.toNatClampNeg))]) (st' := [.int (Int32.ofInt (-1))]) [(85, .iconst (-1))] (by decide +kernel) rfl ?_
            have hoffend : ∀ x, (x < m + 0 ∨ m + 0 + 8322 ≤ x) → w26 x = w x := fun x hx => (heq26 x (zx_X16_change_0 hx))
            have hb29 := hR_m.si hsi26
            have hb30 : zSlo w26 (m + 7486) := hSl0.ag (fun x hx1 hx2 => (heq26 x (zx_X16_change_1 hx1 hx2)))
            have hb31 : zTi w26 (m + 83) kM := hMd0.ag (fun x hx1 hx2 => (heq26 x (zx_X16_change_2 hx1 hx2)))
            have hb32 : zPil w26 (m + 6316) := hPl0.ag (fun x hx1 hx2 => (heq26 x (zx_X16_change_3 hx1 hx2)))
            have hb33 : zBya w26 (m + 92) 4000 := hBo0.ag (fun x hx1 hx2 => (heq26 x (zx_X16_change_4 hx1 hx2)))
            have hb34 : zBya w26 (m + 93) 4000 := hBl0.ag (fun x hx1 hx2 => (heq26 x (zx_X16_change_5 hx1 hx2)))
            have hb35 : w26 (m + 94) = some (.inr (0, 60, .inl ff)) := (heq26 (m + 94) (zx_X16_change_6)).trans hAf0
            refine zr_retI (by decide +kernel) rfl ?_
            rw [← hPost]; exact ⟨rfl, _, rfl, hsi26, hoffend, ⟨_, _, hM26, hb29, hb30, ⟨_, hb31⟩, hb32, ⟨_, hb35, hff⟩, hb33, hb34, hI12, hI24, hI29, hI31, hIn⟩, _, rfl, trivial⟩
          ·
            have f37 := znltI cc76
            rw [show (0 : Int32).toInt = 0 from by decide] at f37
            refine zp_seg (pc' := 82) (lv' := [(0, .ref m), (1, .int op), (3, .int v), (4, .int to), (5, .ref (m + 7486 + 9 * s9.toNatClampNeg))]) (st' := [.int 11, .int op]) [(79, .iload_n 1), (80, .bipush 11)] (by decide +kernel) rfl ?_
            refine zp_if (i := .if_icmp .le 5) (c := op ≤ 11) (t := 87) (e := 85) (lv' := [(0, .ref m), (1, .int op), (3, .int v), (4, .int to), (5, .ref (m + 7486 + 9 * s9.toNatClampNeg))]) (st' := []) (by decide +kernel) rfl (fun cc82 => ?_) (fun cc82 => ?_)
            ·
              have f39 := zleI cc82
              rw [show (11 : Int32).toInt = 11 from by decide] at f39
              refine zp_seg (pc' := 89) (lv' := [(0, .ref m), (1, .int op), (3, .int v), (4, .int to), (5, .ref (m + 7486 + 9 * s9.toNatClampNeg))]) (st' := [.ref (m + 7486 + 9 * s9.toNatClampNeg)]) [(87, .aload 5)] (by decide +kernel) rfl ?_
              refine zr_get (idx := 202) (k := 0) (v := .int (g1 0)) (by decide +kernel) (by decide +kernel) hb27 rfl ?_
              refine zp_seg (pc' := 93) (lv' := [(0, .ref m), (1, .int op), (3, .int v), (4, .int to), (5, .ref (m + 7486 + 9 * s9.toNatClampNeg))]) (st' := [.int 2, .int (g1 0)]) [(92, .iconst 2)] (by decide +kernel) rfl ?_
              have hJ125 : ∀ (_ : True), (kS1 = 2 → op.toInt ≤ 1 ∨ op.toInt = 9 ∨ op.toInt = 11) → zP (d + 1) zq_X16_change 125 [(0, .ref m), (1, .int op), (3, .int v), (4, .int to), (5, .ref (m + 7486 + 9 * s9.toNatClampNeg))] [] w26 sz 0 0 Post := by
                intro _ hop9
                refine zp_seg (pc' := 126) (lv' := [(0, .ref m), (1, .int op), (3, .int v), (4, .int to), (5, .ref (m + 7486 + 9 * s9.toNatClampNeg))]) (st' := [.ref m]) [(125, .aload_n 0)] (by decide +kernel) rfl ?_
                refine zr_get (idx := 453) (k := 21) (v := .ref (m + 83)) (by decide +kernel) (by decide +kernel) hM26 rfl ?_
                refine zp_seg (pc' := 131) (lv' := [(0, .ref m), (1, .int op), (3, .int v), (4, .int to), (5, .ref (m + 7486 + 9 * s9.toNatClampNeg))]) (st' := [.ref (m + 7486 + 9 * s9.toNatClampNeg), .ref (m + 83)]) [(129, .aload 5)] (by decide +kernel) rfl ?_
                have hb40 : zTi w26 (m + 83) kM := hMd0.ag (fun x hx1 hx2 => (heq26 x (zx_X16_change_2 hx1 hx2)))
                have hb41 : zTi w26 (m + 7486 + 9 * s9.toNatClampNeg) kS1 := hkS1.ag (fun x hx1 hx2 => (heq26 x (by omega)))
                refine zr_callS (idx := 547) (j := 298) (by decide +kernel) (by decide +kernel) (by decide) (show zMe 298 = some zq_X16_copy from rfl) rfl rfl (Nat.le_of_ble_eq_true rfl) rfl rfl (Nat.le_of_ble_eq_true rfl) (Nat.le_of_ble_eq_true rfl) (c_X16_copy (w := w26) (m + 83) (m + 7486 + 9 * s9.toNatClampNeg) hb40 hb41 (by first | omega | decide | assumption | exact zr1_1 | exact zr1_0 | fail "num")) (by omega) (fun v131 w131 hp131 => ?_)
                obtain ⟨hsi131, heq131, hp131_0, rfl⟩ := hp131
                show zP _ _ _ _ [] _ _ _ _ _
                refine zp_seg (pc' := 137) (lv' := [(0, .ref m), (1, .int op), (3, .int v), (4, .int to), (5, .ref (m + 7486 + 9 * s9.toNatClampNeg))]) (st' := [.int 9, .int op]) [(134, .iload_n 1), (135, .bipush 9)] (by decide +kernel) rfl ?_
                refine zp_if (i := .if_icmp .ne 53) (c := ¬ op = 9) (t := 190) (e := 140) (lv' := [(0, .ref m), (1, .int op), (3, .int v), (4, .int to), (5, .ref (m + 7486 + 9 * s9.toNatClampNeg))]) (st' := []) (by decide +kernel) rfl (fun cc137 => ?_) (fun cc137 => ?_)
                ·
                  have f43 := zneI cc137
                  rw [show (9 : Int32).toInt = 9 from by decide] at f43
                  refine zp_seg (pc' := 193) (lv' := [(0, .ref m), (1, .int op), (3, .int v), (4, .int to), (5, .ref (m + 7486 + 9 * s9.toNatClampNeg))]) (st' := [.int 11, .int op]) [(190, .iload_n 1), (191, .bipush 11)] (by decide +kernel) rfl ?_
                  refine zp_if (i := .if_icmp .ne 17) (c := ¬ op = 11) (t := 210) (e := 196) (lv' := [(0, .ref m), (1, .int op), (3, .int v), (4, .int to), (5, .ref (m + 7486 + 9 * s9.toNatClampNeg))]) (st' := []) (by decide +kernel) rfl (fun cc193 => ?_) (fun cc193 => ?_)
                  ·
                    have f44 := zneI cc193
                    rw [show (11 : Int32).toInt = 11 from by decide] at f44
                    refine zp_seg (pc' := 211) (lv' := [(0, .ref m), (1, .int op), (3, .int v), (4, .int to), (5, .ref (m + 7486 + 9 * s9.toNatClampNeg))]) (st' := [.ref m]) [(210, .aload_n 0)] (by decide +kernel) rfl ?_
                    have hb45 : w131 m = some (.inl (15, zMo m (zs (zs (zs g 1 Z9_26) 3 Z9_26) 16 Z9_26) r)) := (heq131 m (zx_X16_change_7)).trans hM26
                    have hb46 := hR_m.si (hsi26.tr hsi131)
                    refine zr_callV (idx := 140) (j := 274) (by decide +kernel) (by decide +kernel) (show zMe 274 = some zq_X16_newB from rfl) rfl rfl (Nat.le_of_ble_eq_true rfl) rfl rfl hb45 (Nat.le_of_ble_eq_true rfl) (Nat.le_of_ble_eq_true rfl) (c_X16_newB (w := w131) (g3 := Z9_26) m hb45 hb46 (by first | omega | decide | assumption | exact zr1_1 | exact zr1_0 | fail "num") rfl) (by omega) (fun v211 w211 hp211 => ?_)
                    obtain ⟨hsi211, heq211, hp211_0, hp211_1, rfl⟩ := hp211
                    have hM211 : w211 m = some (.inl (15, zMo m (zs (zs (zs g 1 Z9_26) 3 (Z9_26 + 1)) 16 Z9_26) r)) := hp211_0
                    show zP _ _ _ _ [.ref (m + 596 + 130 * Z9_26.toNatClampNeg)] _ _ _ _ _
                    refine zp_seg (pc' := 217) (lv' := [(6, .ref (m + 596 + 130 * Z9_26.toNatClampNeg)), (0, .ref m), (1, .int op), (3, .int v), (4, .int to), (5, .ref (m + 7486 + 9 * s9.toNatClampNeg))]) (st' := [.ref m]) [(214, .astore 6), (216, .aload_n 0)] (by decide +kernel) rfl ?_
                    have k48 := zaddC Z9_26 1 (n := 1) (by decide) (by omega) (by omega)
                    have hz49 : ((Z9_26 + 1).toNatClampNeg : Int) = (Z9_26 + 1).toInt := znat (by first | omega | decide)
                    have hgzZ9_26_1 : (Z9_26 + 1).toNatClampNeg = 1 := by omega
                    have hb50 := hb46.si hsi211
                    refine zr_callV (idx := 140) (j := 274) (by decide +kernel) (by decide +kernel) (show zMe 274 = some zq_X16_newB from rfl) rfl rfl (Nat.le_of_ble_eq_true rfl) rfl rfl hM211 (Nat.le_of_ble_eq_true rfl) (Nat.le_of_ble_eq_true rfl) (c_X16_newB (w := w211) (g3 := (Z9_26 + 1)) m hM211 hb50 (by first | omega | decide | assumption | exact zr1_1 | exact zr1_0 | fail "num") rfl) (by omega) (fun v217 w217 hp217 => ?_)
                    obtain ⟨hsi217, heq217, hp217_0, hp217_1, rfl⟩ := hp217
                    have hM217 : w217 m = some (.inl (15, zMo m (zs (zs (zs g 1 Z9_26) 3 (Z9_26 + 1 + 1)) 16 Z9_26) r)) := hp217_0
                    show zP _ _ _ _ [.ref (m + 596 + 130 * (Z9_26 + 1).toNatClampNeg)] _ _ _ _ _
                    refine zp_seg (pc' := 226) (lv' := [(7, .ref (m + 596 + 130 * (Z9_26 + 1).toNatClampNeg)), (6, .ref (m + 596 + 130 * Z9_26.toNatClampNeg)), (0, .ref m), (1, .int op), (3, .int v), (4, .int to), (5, .ref (m + 7486 + 9 * s9.toNatClampNeg))]) (st' := [.ref (m + 7486 + 9 * s9.toNatClampNeg), .ref (m + 596 + 130 * Z9_26.toNatClampNeg)]) [(220, .astore 7), (222, .aload 6), (224, .aload 5)] (by decide +kernel) rfl ?_
                    have hb51 : w217 (m + 7486 + 9 * s9.toNatClampNeg) = some (.inl (13, zTo (m + 7486 + 9 * s9.toNatClampNeg) g1)) := ((heq217 (m + 7486 + 9 * s9.toNatClampNeg) (by omega)).trans ((heq211 (m + 7486 + 9 * s9.toNatClampNeg) (by omega)).trans (heq131 (m + 7486 + 9 * s9.toNatClampNeg) (by omega)))).trans hb27
                    refine zr_get (idx := 207) (k := 1) (v := .ref (m + 7486 + 9 * s9.toNatClampNeg + 1)) (by decide +kernel) (by decide +kernel) hb51 rfl ?_
                    have hb52 : zB w217 (m + 596 + 130 * Z9_26.toNatClampNeg) zbZ := hp211_1.ag (fun x hx1 hx2 => (heq217 x ⟨(zx_X16_change_8 hx1 hx2 hgzZ9_26_0), (zx_X16_change_9 hx1 hx2 hgzZ9_26_0 hgzZ9_26_1)⟩))
                    have ho229_b := zB.o hb52
                    have hb53 : w217 (m + 7486 + 9 * s9.toNatClampNeg + 1) = some (.inr (0, 325, .inl fn1)) := ((heq217 (m + 7486 + 9 * s9.toNatClampNeg + 1) (by omega)).trans ((heq211 (m + 7486 + 9 * s9.toNatClampNeg + 1) (by omega)).trans ((heq131 (m + 7486 + 9 * s9.toNatClampNeg + 1) (by omega)).trans (heq26 (m + 7486 + 9 * s9.toNatClampNeg + 1) (by omega))))).trans hAn1
                    refine zr_callS (idx := 295) (j := 299) (by decide +kernel) (by decide +kernel) (by decide) (show zMe 299 = some zq_X16_load from rfl) rfl rfl (Nat.le_of_ble_eq_true rfl) rfl rfl (Nat.le_of_ble_eq_true rfl) (Nat.le_of_ble_eq_true rfl) (c_X16_load (w := w217) (m + 596 + 130 * Z9_26.toNatClampNeg) (m + 7486 + 9 * s9.toNatClampNeg + 1) ho229_b hb53 (by exact hKn1) (by first | omega | decide | assumption | exact zr1_1 | exact zr1_0 | fail "num")) (by omega) (fun v229 w229 hp229 => ?_)
                    obtain ⟨hsi229, heq229, hp229_0, rfl⟩ := hp229
                    show zP _ _ _ _ [] _ _ _ _ _
                    refine zp_seg (pc' := 236) (lv' := [(7, .ref (m + 596 + 130 * (Z9_26 + 1).toNatClampNeg)), (6, .ref (m + 596 + 130 * Z9_26.toNatClampNeg)), (0, .ref m), (1, .int op), (3, .int v), (4, .int to), (5, .ref (m + 7486 + 9 * s9.toNatClampNeg))]) (st' := [.ref (m + 7486 + 9 * s9.toNatClampNeg), .ref (m + 596 + 130 * (Z9_26 + 1).toNatClampNeg)]) [(232, .aload 7), (234, .aload 5)] (by decide +kernel) rfl ?_
                    have hb54 : w229 (m + 7486 + 9 * s9.toNatClampNeg) = some (.inl (13, zTo (m + 7486 + 9 * s9.toNatClampNeg) g1)) := (heq229 (m + 7486 + 9 * s9.toNatClampNeg) (by omega)).trans hb51
                    refine zr_get (idx := 210) (k := 2) (v := .ref (m + 7486 + 9 * s9.toNatClampNeg + 2)) (by decide +kernel) (by decide +kernel) hb54 rfl ?_
                    have hb55 : zB w229 (m + 596 + 130 * (Z9_26 + 1).toNatClampNeg) zbZ := hp217_1.ag (fun x hx1 hx2 => (heq229 x (zx_X16_change_10 hx1 hx2 hgzZ9_26_0 hgzZ9_26_1)))
                    have ho239_b := zB.o hb55
                    have hb56 : w229 (m + 7486 + 9 * s9.toNatClampNeg + 2) = some (.inr (0, 325, .inl fd1)) := ((heq229 (m + 7486 + 9 * s9.toNatClampNeg + 2) (by omega)).trans ((heq217 (m + 7486 + 9 * s9.toNatClampNeg + 2) (by omega)).trans ((heq211 (m + 7486 + 9 * s9.toNatClampNeg + 2) (by omega)).trans ((heq131 (m + 7486 + 9 * s9.toNatClampNeg + 2) (by omega)).trans (heq26 (m + 7486 + 9 * s9.toNatClampNeg + 2) (by omega)))))).trans hAd1
                    refine zr_callS (idx := 295) (j := 299) (by decide +kernel) (by decide +kernel) (by decide) (show zMe 299 = some zq_X16_load from rfl) rfl rfl (Nat.le_of_ble_eq_true rfl) rfl rfl (Nat.le_of_ble_eq_true rfl) (Nat.le_of_ble_eq_true rfl) (c_X16_load (w := w229) (m + 596 + 130 * (Z9_26 + 1).toNatClampNeg) (m + 7486 + 9 * s9.toNatClampNeg + 2) ho239_b hb56 (by exact hKd1) (by first | omega | decide | assumption | exact zr1_1 | exact zr1_0 | fail "num")) (by omega) (fun v239 w239 hp239 => ?_)
                    obtain ⟨hsi239, heq239, hp239_0, rfl⟩ := hp239
                    show zP _ _ _ _ [] _ _ _ _ _
                    refine zp_seg (pc' := 243) (lv' := [(7, .ref (m + 596 + 130 * (Z9_26 + 1).toNatClampNeg)), (6, .ref (m + 596 + 130 * Z9_26.toNatClampNeg)), (0, .ref m), (1, .int op), (3, .int v), (4, .int to), (5, .ref (m + 7486 + 9 * s9.toNatClampNeg))]) (st' := [.int v]) [(242, .iload_n 3)] (by decide +kernel) rfl ?_
                    refine zr_callS (idx := 600) (j := 260) (by decide +kernel) (by decide +kernel) (by decide) (show zMe 260 = some zq_X16_rest from rfl) rfl rfl (Nat.le_of_ble_eq_true rfl) rfl rfl (Nat.le_of_ble_eq_true rfl) (Nat.le_of_ble_eq_true rfl) (c_X16_rest (w := w239) v ) (by omega) (fun v243 w243 hp243 => ?_)
                    obtain ⟨hpw243, r243, rfl, hr243⟩ := hp243
                    replace hpw243 := hpw243.symm
                    subst hpw243
                    have kr243 := zrng r243
                    show zP _ _ _ _ [.int r243] _ _ _ _ _
                    refine zp_seg (pc' := 248) (lv' := [(8, .int r243), (7, .ref (m + 596 + 130 * (Z9_26 + 1).toNatClampNeg)), (6, .ref (m + 596 + 130 * Z9_26.toNatClampNeg)), (0, .ref m), (1, .int op), (3, .int v), (4, .int to), (5, .ref (m + 7486 + 9 * s9.toNatClampNeg))]) (st' := []) [(246, .istore 8)] (by decide +kernel) rfl ?_
                    have hdn1 := zbT_dn fn1
                    have hdd1 := zbT_dn fd1
                    have hrn1 := zbT_rw fn1
                    have hrd1 := zbT_rw fd1
                    have hd0 := hKk1.2.1 (hkk9.elim Or.inl (fun e => Or.inr (Or.inl e)))
                    refine zp_seg (pc' := 250) (lv' := [(8, .int r243), (7, .ref (m + 596 + 130 * (Z9_26 + 1).toNatClampNeg)), (6, .ref (m + 596 + 130 * Z9_26.toNatClampNeg)), (0, .ref m), (1, .int op), (3, .int v), (4, .int to), (5, .ref (m + 7486 + 9 * s9.toNatClampNeg))]) (st' := [.int 2, .int op]) [(248, .iload_n 1), (249, .iconst 2)] (by decide +kernel) rfl ?_
                    refine zp_if (i := .if_icmp .ge 17) (c := 2 ≤ op) (t := 267) (e := 253) (lv' := [(8, .int r243), (7, .ref (m + 596 + 130 * (Z9_26 + 1).toNatClampNeg)), (6, .ref (m + 596 + 130 * Z9_26.toNatClampNeg)), (0, .ref m), (1, .int op), (3, .int v), (4, .int to), (5, .ref (m + 7486 + 9 * s9.toNatClampNeg))]) (st' := []) (by decide +kernel) rfl (fun cc250 => ?_) (fun cc250 => ?_)
                    ·
                      have f58 := zleI cc250
                      rw [show (2 : Int32).toInt = 2 from by decide] at f58
                      have hk19 : kS1 = 1 := hkk9.resolve_right (fun e => by have := hop9 e; omega)
                      refine zp_seg (pc' := 268) (lv' := [(8, .int r243), (7, .ref (m + 596 + 130 * (Z9_26 + 1).toNatClampNeg)), (6, .ref (m + 596 + 130 * Z9_26.toNatClampNeg)), (0, .ref m), (1, .int op), (3, .int v), (4, .int to), (5, .ref (m + 7486 + 9 * s9.toNatClampNeg))]) (st' := [.ref m]) [(267, .aload_n 0)] (by decide +kernel) rfl ?_
                      have hb59 : w239 m = some (.inl (15, zMo m (zs (zs (zs g 1 Z9_26) 3 (Z9_26 + 1 + 1)) 16 Z9_26) r)) := ((heq239 m (zx_X16_change_12 hgzZ9_26_1)).trans (heq229 m (zx_X16_change_11 hgzZ9_26_0))).trans hM217
                      have k60 := zaddC (Z9_26 + 1) 1 (n := 1) (by decide) (by omega) (by omega)
                      have hz61 : ((Z9_26 + 1 + 1).toNatClampNeg : Int) = (Z9_26 + 1 + 1).toInt := znat (by first | omega | decide)
                      have hgzZ9_26_2 : (Z9_26 + 1 + 1).toNatClampNeg = 2 := by omega
                      have hb62 := hb50.si ((hsi217.tr hsi229).tr hsi239)
                      refine zr_callV (idx := 140) (j := 274) (by decide +kernel) (by decide +kernel) (show zMe 274 = some zq_X16_newB from rfl) rfl rfl (Nat.le_of_ble_eq_true rfl) rfl rfl hb59 (Nat.le_of_ble_eq_true rfl) (Nat.le_of_ble_eq_true rfl) (c_X16_newB (w := w239) (g3 := (Z9_26 + 1 + 1)) m hb59 hb62 (by first | omega | decide | assumption | exact zr1_1 | exact zr1_0 | fail "num") rfl) (by omega) (fun v268 w268 hp268 => ?_)
                      obtain ⟨hsi268, heq268, hp268_0, hp268_1, rfl⟩ := hp268
                      have hM268 : w268 m = some (.inl (15, zMo m (zs (zs (zs g 1 Z9_26) 3 (Z9_26 + 1 + 1 + 1)) 16 Z9_26) r)) := hp268_0
                      show zP _ _ _ _ [.ref (m + 596 + 130 * (Z9_26 + 1 + 1).toNatClampNeg)] _ _ _ _ _
                      refine zp_seg (pc' := 274) (lv' := [(9, .ref (m + 596 + 130 * (Z9_26 + 1 + 1).toNatClampNeg)), (8, .int r243), (7, .ref (m + 596 + 130 * (Z9_26 + 1).toNatClampNeg)), (6, .ref (m + 596 + 130 * Z9_26.toNatClampNeg)), (0, .ref m), (1, .int op), (3, .int v), (4, .int to), (5, .ref (m + 7486 + 9 * s9.toNatClampNeg))]) (st' := [.ref m]) [(271, .astore 9), (273, .aload_n 0)] (by decide +kernel) rfl ?_
                      have k63 := zaddC (Z9_26 + 1 + 1) 1 (n := 1) (by decide) (by omega) (by omega)
                      have hz64 : ((Z9_26 + 1 + 1 + 1).toNatClampNeg : Int) = (Z9_26 + 1 + 1 + 1).toInt := znat (by first | omega | decide)
                      have hgzZ9_26_3 : (Z9_26 + 1 + 1 + 1).toNatClampNeg = 3 := by omega
                      have hb65 := hb62.si hsi268
                      refine zr_callV (idx := 140) (j := 274) (by decide +kernel) (by decide +kernel) (show zMe 274 = some zq_X16_newB from rfl) rfl rfl (Nat.le_of_ble_eq_true rfl) rfl rfl hM268 (Nat.le_of_ble_eq_true rfl) (Nat.le_of_ble_eq_true rfl) (c_X16_newB (w := w268) (g3 := (Z9_26 + 1 + 1 + 1)) m hM268 hb65 (by first | omega | decide | assumption | exact zr1_1 | exact zr1_0 | fail "num") rfl) (by omega) (fun v274 w274 hp274 => ?_)
                      obtain ⟨hsi274, heq274, hp274_0, hp274_1, rfl⟩ := hp274
                      have hM274 : w274 m = some (.inl (15, zMo m (zs (zs (zs g 1 Z9_26) 3 (Z9_26 + 1 + 1 + 1 + 1)) 16 Z9_26) r)) := hp274_0
                      show zP _ _ _ _ [.ref (m + 596 + 130 * (Z9_26 + 1 + 1 + 1).toNatClampNeg)] _ _ _ _ _
                      refine zp_seg (pc' := 280) (lv' := [(10, .ref (m + 596 + 130 * (Z9_26 + 1 + 1 + 1).toNatClampNeg)), (9, .ref (m + 596 + 130 * (Z9_26 + 1 + 1).toNatClampNeg)), (8, .int r243), (7, .ref (m + 596 + 130 * (Z9_26 + 1).toNatClampNeg)), (6, .ref (m + 596 + 130 * Z9_26.toNatClampNeg)), (0, .ref m), (1, .int op), (3, .int v), (4, .int to), (5, .ref (m + 7486 + 9 * s9.toNatClampNeg))]) (st' := [.ref m]) [(277, .astore 10), (279, .aload_n 0)] (by decide +kernel) rfl ?_
                      have k66 := zaddC (Z9_26 + 1 + 1 + 1) 1 (n := 1) (by decide) (by omega) (by omega)
                      have hz67 : ((Z9_26 + 1 + 1 + 1 + 1).toNatClampNeg : Int) = (Z9_26 + 1 + 1 + 1 + 1).toInt := znat (by first | omega | decide)
                      have hgzZ9_26_4 : (Z9_26 + 1 + 1 + 1 + 1).toNatClampNeg = 4 := by omega
                      have hb68 := hb65.si hsi274
                      refine zr_callV (idx := 140) (j := 274) (by decide +kernel) (by decide +kernel) (show zMe 274 = some zq_X16_newB from rfl) rfl rfl (Nat.le_of_ble_eq_true rfl) rfl rfl hM274 (Nat.le_of_ble_eq_true rfl) (Nat.le_of_ble_eq_true rfl) (c_X16_newB (w := w274) (g3 := (Z9_26 + 1 + 1 + 1 + 1)) m hM274 hb68 (by first | omega | decide | assumption | exact zr1_1 | exact zr1_0 | fail "num") rfl) (by omega) (fun v280 w280 hp280 => ?_)
                      obtain ⟨hsi280, heq280, hp280_0, hp280_1, rfl⟩ := hp280
                      have hM280 : w280 m = some (.inl (15, zMo m (zs (zs (zs g 1 Z9_26) 3 (Z9_26 + 1 + 1 + 1 + 1 + 1)) 16 Z9_26) r)) := hp280_0
                      show zP _ _ _ _ [.ref (m + 596 + 130 * (Z9_26 + 1 + 1 + 1 + 1).toNatClampNeg)] _ _ _ _ _
                      refine zp_seg (pc' := 288) (lv' := [(11, .ref (m + 596 + 130 * (Z9_26 + 1 + 1 + 1 + 1).toNatClampNeg)), (10, .ref (m + 596 + 130 * (Z9_26 + 1 + 1 + 1).toNatClampNeg)), (9, .ref (m + 596 + 130 * (Z9_26 + 1 + 1).toNatClampNeg)), (8, .int r243), (7, .ref (m + 596 + 130 * (Z9_26 + 1).toNatClampNeg)), (6, .ref (m + 596 + 130 * Z9_26.toNatClampNeg)), (0, .ref m), (1, .int op), (3, .int v), (4, .int to), (5, .ref (m + 7486 + 9 * s9.toNatClampNeg))]) (st' := [.int 1, .ref (m + 596 + 130 * (Z9_26 + 1 + 1 + 1 + 1).toNatClampNeg)]) [(283, .astore 11), (285, .aload 11), (287, .iconst 1)] (by decide +kernel) rfl ?_
                      have ho288_b := zB.o hp280_1
                      obtain ⟨n69, hb70, hb71, hb72, hb73, -⟩ := id hp280_1
                      have kn69 := zrng n69
                      refine zr_callV (idx := 158) (j := 245) (by decide +kernel) (by decide +kernel) (show zMe 245 = some zq_X12_number from rfl) rfl rfl (Nat.le_of_ble_eq_true rfl) rfl rfl hb70 (Nat.le_of_ble_eq_true rfl) (Nat.le_of_ble_eq_true rfl) (c_X12_number (w := w280) (m + 596 + 130 * (Z9_26 + 1 + 1 + 1 + 1).toNatClampNeg) 1 ho288_b (by exact zr1_1)) (by omega) (fun v288 w288 hp288 => ?_)
                      obtain ⟨hsi288, heq288, hp288_0, rfl⟩ := hp288
                      show zP _ _ _ _ [] _ _ _ _ _
                      refine zp_seg (pc' := 292) (lv' := [(11, .ref (m + 596 + 130 * (Z9_26 + 1 + 1 + 1 + 1).toNatClampNeg)), (10, .ref (m + 596 + 130 * (Z9_26 + 1 + 1 + 1).toNatClampNeg)), (9, .ref (m + 596 + 130 * (Z9_26 + 1 + 1).toNatClampNeg)), (8, .int r243), (7, .ref (m + 596 + 130 * (Z9_26 + 1).toNatClampNeg)), (6, .ref (m + 596 + 130 * Z9_26.toNatClampNeg)), (0, .ref m), (1, .int op), (3, .int v), (4, .int to), (5, .ref (m + 7486 + 9 * s9.toNatClampNeg))]) (st' := [.int op]) [(291, .iload_n 1)] (by decide +kernel) rfl ?_
                      have hb74 : w288 m = some (.inl (15, zMo m (zs (zs (zs g 1 Z9_26) 3 (Z9_26 + 1 + 1 + 1 + 1 + 1)) 16 Z9_26) r)) := (heq288 m (zx_X16_change_13 hgzZ9_26_4)).trans hM280
                      have hJ473 : ∀ (wL473 : zM) (X : zA2) (Y : zA2), (zSI w288 wL473) → (∀ x, ((x < m + 276 ∨ m + 276 + 320 ≤ x) ∧ (x < m + 596 + 130 * (Z9_26 + 1 + 1).toNatClampNeg ∨ m + 596 + 130 * (Z9_26 + 1 + 1).toNatClampNeg + (5720 - 130 * (Z9_26 + 1 + 1).toNatClampNeg) ≤ x) ∧ (x < m + 3 ∨ m + 3 + 1 ≤ x) ∧ (x < m + 5 ∨ m + 5 + 64 ≤ x)) ∧ x ≠ m → wL473 x = w288 x) → (zB wL473 (m + 596 + 130 * (Z9_26 + 1 + 1).toNatClampNeg) X) → (zB wL473 (m + 596 + 130 * (Z9_26 + 1 + 1 + 1).toNatClampNeg) Y) → (wL473 m = some (.inl (15, zMo m (zs (zs (zs g 1 Z9_26) 3 (Z9_26 + 1 + 1 + 1 + 1 + 1)) 16 Z9_26) r))) → (0 < zrw Y) → zP (d + 1) zq_X16_change 473 [(0, .ref m), (4, .int to), (9, .ref (m + 596 + 130 * (Z9_26 + 1 + 1).toNatClampNeg)), (10, .ref (m + 596 + 130 * (Z9_26 + 1 + 1 + 1).toNatClampNeg))] [] wL473 sz 0 0 Post := by
                        intro wL473 X Y hsiL473 heqL473 hBX hBY hmL473 hYn
                        have hb75 : zTi wL473 (m + 83) kS1 := hp131_0.ag (fun x hx1 hx2 => ((heqL473 x ⟨⟨(zx_X16_change_19 hx1 hx2), (zx_X16_change_20 hx1 hx2 hgzZ9_26_2), (zx_X16_change_21 hx1 hx2), (zx_X16_change_22 hx1 hx2)⟩, (zx_X16_change_23 hx1 hx2)⟩).trans ((heq288 x (zx_X16_change_18 hx1 hx2 hgzZ9_26_4)).trans ((heq280 x ⟨(zx_X16_change_2 hx1 hx2), (zx_X16_change_18 hx1 hx2 hgzZ9_26_4)⟩).trans ((heq274 x ⟨(zx_X16_change_2 hx1 hx2), (zx_X16_change_17 hx1 hx2 hgzZ9_26_3)⟩).trans ((heq268 x ⟨(zx_X16_change_2 hx1 hx2), (zx_X16_change_16 hx1 hx2 hgzZ9_26_2)⟩).trans ((heq239 x (zx_X16_change_15 hx1 hx2 hgzZ9_26_1)).trans ((heq229 x (zx_X16_change_14 hx1 hx2 hgzZ9_26_0)).trans ((heq217 x ⟨(zx_X16_change_2 hx1 hx2), (zx_X16_change_15 hx1 hx2 hgzZ9_26_1)⟩).trans (heq211 x ⟨(zx_X16_change_2 hx1 hx2), (zx_X16_change_14 hx1 hx2 hgzZ9_26_0)⟩))))))))))
                        obtain ⟨g3, fn3, fd3, fa3, fb3, fc3, fe3, fr3, fu3, hT3, hAn3, hAd3, hAa3, hAb3, hAc3, hAe3, hAr3, hAu3, hK3⟩ := id hb75
                        obtain ⟨hK30, hKn3, hKd3, hKx3, hKm3, hKl3, hKr3, hKu3, hKk3⟩ := id hK3
                        refine zp_seg (pc' := 474) (lv' := [(0, .ref m), (4, .int to), (9, .ref (m + 596 + 130 * (Z9_26 + 1 + 1).toNatClampNeg)), (10, .ref (m + 596 + 130 * (Z9_26 + 1 + 1 + 1).toNatClampNeg))]) (st' := [.ref m]) [(473, .aload_n 0)] (by decide +kernel) rfl ?_
                        refine zr_get (idx := 453) (k := 21) (v := .ref (m + 83)) (by decide +kernel) (by decide +kernel) hmL473 rfl ?_
                        refine zp_seg (pc' := 481) (lv' := [(0, .ref m), (4, .int to), (9, .ref (m + 596 + 130 * (Z9_26 + 1 + 1).toNatClampNeg)), (10, .ref (m + 596 + 130 * (Z9_26 + 1 + 1 + 1).toNatClampNeg))]) (st' := [.ref (m + 596 + 130 * (Z9_26 + 1 + 1 + 1).toNatClampNeg), .ref (m + 596 + 130 * (Z9_26 + 1 + 1).toNatClampNeg), .ref (m + 83)]) [(477, .aload 9), (479, .aload 10)] (by decide +kernel) rfl ?_
                        refine zr_callS (idx := 261) (j := 303) (by decide +kernel) (by decide +kernel) (by decide) (show zMe 303 = some zq_X16_put from rfl) rfl rfl (Nat.le_of_ble_eq_true rfl) rfl rfl (Nat.le_of_ble_eq_true rfl) (Nat.le_of_ble_eq_true rfl) (c_X16_put (w := wL473) (m + 83) (m + 596 + 130 * (Z9_26 + 1 + 1).toNatClampNeg) (m + 596 + 130 * (Z9_26 + 1 + 1 + 1).toNatClampNeg) hT3 hAn3 hAd3 hBX hBY (by first | omega | decide | assumption | exact zr1_1 | exact zr1_0 | fail "num") (by first | omega | decide | assumption | exact zr1_1 | exact zr1_0 | fail "num")) (by omega) (fun v481 w481 hp481 => ?_)
                        obtain ⟨Fn_481, Fd_481, hsi481, heq481, hp481_0, hp481_1, r481, rfl, hrb481, hr481⟩ := hp481
                        have kr481 := zrng r481
                        show zP _ _ _ _ [.int r481] _ _ _ _ _
                        have hpp9 : (zCr Fn_481 ∧ zCr Fd_481) ∧ 0 < zrw (zbT Fd_481) := by
                          rcases hrb481 with e | e
                          · have h9 := hr481.1 e
                            rw [h9.1, h9.2]
                            exact ⟨⟨hKn3, hKd3⟩, hKk3.2.1 (Or.inl hk19)⟩
                          · have h9 := hr481.2.1 e
                            rw [h9.2.2.2]
                            exact ⟨⟨h9.1, h9.2.1⟩, hYn⟩
                        have hb76 : w481 (m + 83) = some (.inl (13, zTo (m + 83) g3)) := (heq481 (m + 83) (zx_X16_change_24)).trans hT3
                        have hb77 : w481 (m + 83 + 3) = some (.inr (0, 13, .inl fa3)) := (heq481 (m + 83 + 3) (zx_X16_change_25)).trans hAa3
                        have hb78 : w481 (m + 83 + 4) = some (.inr (0, 13, .inl fb3)) := (heq481 (m + 83 + 4) (zx_X16_change_26)).trans hAb3
                        have hb79 : w481 (m + 83 + 5) = some (.inr (0, 13, .inl fc3)) := (heq481 (m + 83 + 5) (zx_X16_change_27)).trans hAc3
                        have hb80 : w481 (m + 83 + 6) = some (.inr (0, 13, .inl fe3)) := (heq481 (m + 83 + 6) (zx_X16_change_28)).trans hAe3
                        have hb81 : w481 (m + 83 + 7) = some (.inr (0, 175, .inl fr3)) := (heq481 (m + 83 + 7) (zx_X16_change_29)).trans hAr3
                        have hb82 : w481 (m + 83 + 8) = some (.inr (0, 361, .inl fu3)) := (heq481 (m + 83 + 8) (zx_X16_change_30)).trans hAu3
                        have hTi9 : zTi w481 (m + 83) 1 := ⟨_, _, _, _, _, _, _, _, _, hb76, hp481_0, hp481_1, hb77, hb78, hb79, hb80, hb81, hb82, ⟨hK30.trans hk19, hpp9.1.1, hpp9.1.2, hKx3, hKm3, hKl3, hKr3, hKu3, zKk_12 (Or.inl rfl) hpp9.2 (fun k9 => absurd k9 (by decide)) (hKk3.2.2.2.1 (Or.inl hk19))⟩⟩
                        refine zp_if (i := .ifCond .eq 12) (c := r481 = 0) (t := 496) (e := 487) (lv' := [(0, .ref m), (4, .int to), (9, .ref (m + 596 + 130 * (Z9_26 + 1 + 1).toNatClampNeg)), (10, .ref (m + 596 + 130 * (Z9_26 + 1 + 1 + 1).toNatClampNeg))]) (st' := []) (by decide +kernel) rfl (fun cc484 => ?_) (fun cc484 => ?_)
                        ·
                          have f83 := zeqI cc484
                          rw [show (0 : Int32).toInt = 0 from by decide] at f83
                          refine zp_seg (pc' := 498) (lv' := [(0, .ref m), (4, .int to), (9, .ref (m + 596 + 130 * (Z9_26 + 1 + 1).toNatClampNeg)), (10, .ref (m + 596 + 130 * (Z9_26 + 1 + 1 + 1).toNatClampNeg))]) (st' := [.int (Int32.ofInt (-2))]) [(496, .bipush (-2))] (by decide +kernel) rfl ?_
                          have hb84 : w481 m = some (.inl (15, zMo m (zs (zs (zs g 1 Z9_26) 3 (Z9_26 + 1 + 1 + 1 + 1 + 1)) 16 Z9_26) r)) := (heq481 m (zx_X16_change_31)).trans hmL473
                          have hoffend : ∀ x, (x < m + 0 ∨ m + 0 + 8322 ≤ x) → w481 x = w x := fun x hx => ((heq481 x (zx_X16_change_43 hx)).trans ((heqL473 x ⟨⟨(zx_X16_change_38 hx), (zx_X16_change_39 hx hgzZ9_26_2), (zx_X16_change_40 hx), (zx_X16_change_41 hx)⟩, (zx_X16_change_42 hx)⟩).trans ((heq288 x (zx_X16_change_37 hx hgzZ9_26_4)).trans ((heq280 x ⟨(zx_X16_change_0 hx), (zx_X16_change_37 hx hgzZ9_26_4)⟩).trans ((heq274 x ⟨(zx_X16_change_0 hx), (zx_X16_change_36 hx hgzZ9_26_3)⟩).trans ((heq268 x ⟨(zx_X16_change_0 hx), (zx_X16_change_35 hx hgzZ9_26_2)⟩).trans ((heq239 x (zx_X16_change_34 hx hgzZ9_26_1)).trans ((heq229 x (zx_X16_change_33 hx hgzZ9_26_0)).trans ((heq217 x ⟨(zx_X16_change_0 hx), (zx_X16_change_34 hx hgzZ9_26_1)⟩).trans ((heq211 x ⟨(zx_X16_change_0 hx), (zx_X16_change_33 hx hgzZ9_26_0)⟩).trans ((heq131 x (zx_X16_change_32 hx)).trans (heq26 x (zx_X16_change_0 hx)))))))))))))
                          have hb85 := hb68.si (((hsi280.tr hsi288).tr hsiL473).tr hsi481)
                          have hb86 : zSlo w481 (m + 7486) := hSl0.ag (fun x hx1 hx2 => ((heq481 x (zx_X16_change_55 hx1 hx2)).trans ((heqL473 x ⟨⟨(zx_X16_change_50 hx1 hx2), (zx_X16_change_51 hx1 hx2 hgzZ9_26_2), (zx_X16_change_52 hx1 hx2), (zx_X16_change_53 hx1 hx2)⟩, (zx_X16_change_54 hx1 hx2)⟩).trans ((heq288 x (zx_X16_change_49 hx1 hx2 hgzZ9_26_4)).trans ((heq280 x ⟨(zx_X16_change_1 hx1 hx2), (zx_X16_change_49 hx1 hx2 hgzZ9_26_4)⟩).trans ((heq274 x ⟨(zx_X16_change_1 hx1 hx2), (zx_X16_change_48 hx1 hx2 hgzZ9_26_3)⟩).trans ((heq268 x ⟨(zx_X16_change_1 hx1 hx2), (zx_X16_change_47 hx1 hx2 hgzZ9_26_2)⟩).trans ((heq239 x (zx_X16_change_46 hx1 hx2 hgzZ9_26_1)).trans ((heq229 x (zx_X16_change_45 hx1 hx2 hgzZ9_26_0)).trans ((heq217 x ⟨(zx_X16_change_1 hx1 hx2), (zx_X16_change_46 hx1 hx2 hgzZ9_26_1)⟩).trans ((heq211 x ⟨(zx_X16_change_1 hx1 hx2), (zx_X16_change_45 hx1 hx2 hgzZ9_26_0)⟩).trans ((heq131 x (zx_X16_change_44 hx1 hx2)).trans (heq26 x (zx_X16_change_1 hx1 hx2))))))))))))))
                          have hb87 : zPil w481 (m + 6316) := hPl0.ag (fun x hx1 hx2 => ((heq481 x (zx_X16_change_67 hx1 hx2)).trans ((heqL473 x ⟨⟨(zx_X16_change_62 hx1 hx2), (zx_X16_change_63 hx1 hx2 hgzZ9_26_2), (zx_X16_change_64 hx1 hx2), (zx_X16_change_65 hx1 hx2)⟩, (zx_X16_change_66 hx1 hx2)⟩).trans ((heq288 x (zx_X16_change_61 hx1 hx2 hgzZ9_26_4)).trans ((heq280 x ⟨(zx_X16_change_3 hx1 hx2), (zx_X16_change_61 hx1 hx2 hgzZ9_26_4)⟩).trans ((heq274 x ⟨(zx_X16_change_3 hx1 hx2), (zx_X16_change_60 hx1 hx2 hgzZ9_26_3)⟩).trans ((heq268 x ⟨(zx_X16_change_3 hx1 hx2), (zx_X16_change_59 hx1 hx2 hgzZ9_26_2)⟩).trans ((heq239 x (zx_X16_change_58 hx1 hx2 hgzZ9_26_1)).trans ((heq229 x (zx_X16_change_57 hx1 hx2 hgzZ9_26_0)).trans ((heq217 x ⟨(zx_X16_change_3 hx1 hx2), (zx_X16_change_58 hx1 hx2 hgzZ9_26_1)⟩).trans ((heq211 x ⟨(zx_X16_change_3 hx1 hx2), (zx_X16_change_57 hx1 hx2 hgzZ9_26_0)⟩).trans ((heq131 x (zx_X16_change_56 hx1 hx2)).trans (heq26 x (zx_X16_change_3 hx1 hx2))))))))))))))
                          have hb88 : zBya w481 (m + 92) 4000 := hBo0.ag (fun x hx1 hx2 => ((heq481 x (zx_X16_change_79 hx1 hx2)).trans ((heqL473 x ⟨⟨(zx_X16_change_74 hx1 hx2), (zx_X16_change_75 hx1 hx2 hgzZ9_26_2), (zx_X16_change_76 hx1 hx2), (zx_X16_change_77 hx1 hx2)⟩, (zx_X16_change_78 hx1 hx2)⟩).trans ((heq288 x (zx_X16_change_73 hx1 hx2 hgzZ9_26_4)).trans ((heq280 x ⟨(zx_X16_change_4 hx1 hx2), (zx_X16_change_73 hx1 hx2 hgzZ9_26_4)⟩).trans ((heq274 x ⟨(zx_X16_change_4 hx1 hx2), (zx_X16_change_72 hx1 hx2 hgzZ9_26_3)⟩).trans ((heq268 x ⟨(zx_X16_change_4 hx1 hx2), (zx_X16_change_71 hx1 hx2 hgzZ9_26_2)⟩).trans ((heq239 x (zx_X16_change_70 hx1 hx2 hgzZ9_26_1)).trans ((heq229 x (zx_X16_change_69 hx1 hx2 hgzZ9_26_0)).trans ((heq217 x ⟨(zx_X16_change_4 hx1 hx2), (zx_X16_change_70 hx1 hx2 hgzZ9_26_1)⟩).trans ((heq211 x ⟨(zx_X16_change_4 hx1 hx2), (zx_X16_change_69 hx1 hx2 hgzZ9_26_0)⟩).trans ((heq131 x (zx_X16_change_68 hx1 hx2)).trans (heq26 x (zx_X16_change_4 hx1 hx2))))))))))))))
                          have hb89 : zBya w481 (m + 93) 4000 := hBl0.ag (fun x hx1 hx2 => ((heq481 x (zx_X16_change_91 hx1 hx2)).trans ((heqL473 x ⟨⟨(zx_X16_change_86 hx1 hx2), (zx_X16_change_87 hx1 hx2 hgzZ9_26_2), (zx_X16_change_88 hx1 hx2), (zx_X16_change_89 hx1 hx2)⟩, (zx_X16_change_90 hx1 hx2)⟩).trans ((heq288 x (zx_X16_change_85 hx1 hx2 hgzZ9_26_4)).trans ((heq280 x ⟨(zx_X16_change_5 hx1 hx2), (zx_X16_change_85 hx1 hx2 hgzZ9_26_4)⟩).trans ((heq274 x ⟨(zx_X16_change_5 hx1 hx2), (zx_X16_change_84 hx1 hx2 hgzZ9_26_3)⟩).trans ((heq268 x ⟨(zx_X16_change_5 hx1 hx2), (zx_X16_change_83 hx1 hx2 hgzZ9_26_2)⟩).trans ((heq239 x (zx_X16_change_82 hx1 hx2 hgzZ9_26_1)).trans ((heq229 x (zx_X16_change_81 hx1 hx2 hgzZ9_26_0)).trans ((heq217 x ⟨(zx_X16_change_5 hx1 hx2), (zx_X16_change_82 hx1 hx2 hgzZ9_26_1)⟩).trans ((heq211 x ⟨(zx_X16_change_5 hx1 hx2), (zx_X16_change_81 hx1 hx2 hgzZ9_26_0)⟩).trans ((heq131 x (zx_X16_change_80 hx1 hx2)).trans (heq26 x (zx_X16_change_5 hx1 hx2))))))))))))))
                          have hb90 : w481 (m + 94) = some (.inr (0, 60, .inl ff)) := ((heq481 (m + 94) (zx_X16_change_103)).trans ((heqL473 (m + 94) ⟨⟨(zx_X16_change_98), (zx_X16_change_99 hgzZ9_26_2), (zx_X16_change_100), (zx_X16_change_101)⟩, (zx_X16_change_102)⟩).trans ((heq288 (m + 94) (zx_X16_change_97 hgzZ9_26_4)).trans ((heq280 (m + 94) ⟨(zx_X16_change_6), (zx_X16_change_97 hgzZ9_26_4)⟩).trans ((heq274 (m + 94) ⟨(zx_X16_change_6), (zx_X16_change_96 hgzZ9_26_3)⟩).trans ((heq268 (m + 94) ⟨(zx_X16_change_6), (zx_X16_change_95 hgzZ9_26_2)⟩).trans ((heq239 (m + 94) (zx_X16_change_94 hgzZ9_26_1)).trans ((heq229 (m + 94) (zx_X16_change_93 hgzZ9_26_0)).trans ((heq217 (m + 94) ⟨(zx_X16_change_6), (zx_X16_change_94 hgzZ9_26_1)⟩).trans ((heq211 (m + 94) ⟨(zx_X16_change_6), (zx_X16_change_93 hgzZ9_26_0)⟩).trans ((heq131 (m + 94) (zx_X16_change_92)).trans (heq26 (m + 94) (zx_X16_change_6))))))))))))).trans hAf0
                          refine zr_retI (by decide +kernel) rfl ?_
                          rw [← hPost]; exact ⟨rfl, _, rfl, (((((((((((hsi26.tr hsi131).tr hsi211).tr hsi217).tr hsi229).tr hsi239).tr hsi268).tr hsi274).tr hsi280).tr hsi288).tr hsiL473).tr hsi481), hoffend, ⟨_, _, hb84, hb85, hb86, ⟨_, hTi9⟩, hb87, ⟨_, hb90, hff⟩, hb88, hb89, hI12, hI24, hI29, hI31, hIn⟩, _, rfl, trivial⟩
                        ·
                          have f92 := zneI cc484
                          rw [show (0 : Int32).toInt = 0 from by decide] at f92
                          have hb93 : zSlo w481 (m + 7486) := hSl0.ag (fun x hx1 hx2 => ((heq481 x (zx_X16_change_55 hx1 hx2)).trans ((heqL473 x ⟨⟨(zx_X16_change_50 hx1 hx2), (zx_X16_change_51 hx1 hx2 hgzZ9_26_2), (zx_X16_change_52 hx1 hx2), (zx_X16_change_53 hx1 hx2)⟩, (zx_X16_change_54 hx1 hx2)⟩).trans ((heq288 x (zx_X16_change_49 hx1 hx2 hgzZ9_26_4)).trans ((heq280 x ⟨(zx_X16_change_1 hx1 hx2), (zx_X16_change_49 hx1 hx2 hgzZ9_26_4)⟩).trans ((heq274 x ⟨(zx_X16_change_1 hx1 hx2), (zx_X16_change_48 hx1 hx2 hgzZ9_26_3)⟩).trans ((heq268 x ⟨(zx_X16_change_1 hx1 hx2), (zx_X16_change_47 hx1 hx2 hgzZ9_26_2)⟩).trans ((heq239 x (zx_X16_change_46 hx1 hx2 hgzZ9_26_1)).trans ((heq229 x (zx_X16_change_45 hx1 hx2 hgzZ9_26_0)).trans ((heq217 x ⟨(zx_X16_change_1 hx1 hx2), (zx_X16_change_46 hx1 hx2 hgzZ9_26_1)⟩).trans ((heq211 x ⟨(zx_X16_change_1 hx1 hx2), (zx_X16_change_45 hx1 hx2 hgzZ9_26_0)⟩).trans ((heq131 x (zx_X16_change_44 hx1 hx2)).trans (heq26 x (zx_X16_change_1 hx1 hx2))))))))))))))
                          obtain ⟨kX, hkX⟩ := hb93 to.toNatClampNeg (by omega)
                          refine zp_seg (pc' := 490) (lv' := [(0, .ref m), (4, .int to), (9, .ref (m + 596 + 130 * (Z9_26 + 1 + 1).toNatClampNeg)), (10, .ref (m + 596 + 130 * (Z9_26 + 1 + 1 + 1).toNatClampNeg))]) (st' := [.int to, .ref m]) [(487, .aload_n 0), (488, .iload 4)] (by decide +kernel) rfl ?_
                          have hb94 : w481 m = some (.inl (15, zMo m (zs (zs (zs g 1 Z9_26) 3 (Z9_26 + 1 + 1 + 1 + 1 + 1)) 16 Z9_26) r)) := (heq481 m (zx_X16_change_31)).trans hmL473
                          have hb95 := hb68.si (((hsi280.tr hsi288).tr hsiL473).tr hsi481)
                          refine zr_callV (idx := 558) (j := 338) (by decide +kernel) (by decide +kernel) (show zMe 338 = some zq_X16_keep from rfl) rfl rfl (Nat.le_of_ble_eq_true rfl) rfl rfl hb94 (Nat.le_of_ble_eq_true rfl) (Nat.le_of_ble_eq_true rfl) (c_X16_keep (w := w481) m to hb94 hb95 hTi9 hkX (by first | omega | decide | assumption | exact zr1_1 | exact zr1_0 | fail "num")) (by omega) (fun v490 w490 hp490 => ?_)
                          obtain ⟨hsi490, heq490, hp490_0, r490, rfl, hr490⟩ := hp490
                          have kr490 := zrng r490
                          show zP _ _ _ _ [.int r490] _ _ _ _ _
                          refine zp_seg (pc' := 498) (lv' := [(0, .ref m), (4, .int to), (9, .ref (m + 596 + 130 * (Z9_26 + 1 + 1).toNatClampNeg)), (10, .ref (m + 596 + 130 * (Z9_26 + 1 + 1 + 1).toNatClampNeg))]) (st' := [.int r490]) [(493, .goto 5)] (by decide +kernel) rfl ?_
                          have hSl498 := hSl0.up (w' := w490) to.toNatClampNeg hp490_0 (fun x h1 h2 h3 => ((heq490 x (by omega)).trans ((heq481 x (by omega)).trans ((heqL473 x (by omega)).trans ((heq288 x (by omega)).trans ((heq280 x (by omega)).trans ((heq274 x (by omega)).trans ((heq268 x (by omega)).trans ((heq239 x (by omega)).trans ((heq229 x (by omega)).trans ((heq217 x (by omega)).trans ((heq211 x (by omega)).trans ((heq131 x (by omega)).trans (heq26 x (by omega)))))))))))))))
                          have hb96 : w490 m = some (.inl (15, zMo m (zs (zs (zs g 1 Z9_26) 3 (Z9_26 + 1 + 1 + 1 + 1 + 1)) 16 Z9_26) r)) := (heq490 m (by omega)).trans hb94
                          have hoffend : ∀ x, (x < m + 0 ∨ m + 0 + 8322 ≤ x) → w490 x = w x := fun x hx => ((heq490 x (by omega)).trans ((heq481 x (zx_X16_change_43 hx)).trans ((heqL473 x ⟨⟨(zx_X16_change_38 hx), (zx_X16_change_39 hx hgzZ9_26_2), (zx_X16_change_40 hx), (zx_X16_change_41 hx)⟩, (zx_X16_change_42 hx)⟩).trans ((heq288 x (zx_X16_change_37 hx hgzZ9_26_4)).trans ((heq280 x ⟨(zx_X16_change_0 hx), (zx_X16_change_37 hx hgzZ9_26_4)⟩).trans ((heq274 x ⟨(zx_X16_change_0 hx), (zx_X16_change_36 hx hgzZ9_26_3)⟩).trans ((heq268 x ⟨(zx_X16_change_0 hx), (zx_X16_change_35 hx hgzZ9_26_2)⟩).trans ((heq239 x (zx_X16_change_34 hx hgzZ9_26_1)).trans ((heq229 x (zx_X16_change_33 hx hgzZ9_26_0)).trans ((heq217 x ⟨(zx_X16_change_0 hx), (zx_X16_change_34 hx hgzZ9_26_1)⟩).trans ((heq211 x ⟨(zx_X16_change_0 hx), (zx_X16_change_33 hx hgzZ9_26_0)⟩).trans ((heq131 x (zx_X16_change_32 hx)).trans (heq26 x (zx_X16_change_0 hx))))))))))))))
                          have hb97 := hb95.si hsi490
                          have hb98 : zTi w490 (m + 83) 1 := hTi9.ag (fun x hx1 hx2 => (heq490 x (by omega)))
                          have hb99 : zPil w490 (m + 6316) := hPl0.ag (fun x hx1 hx2 => ((heq490 x (by omega)).trans ((heq481 x (zx_X16_change_67 hx1 hx2)).trans ((heqL473 x ⟨⟨(zx_X16_change_62 hx1 hx2), (zx_X16_change_63 hx1 hx2 hgzZ9_26_2), (zx_X16_change_64 hx1 hx2), (zx_X16_change_65 hx1 hx2)⟩, (zx_X16_change_66 hx1 hx2)⟩).trans ((heq288 x (zx_X16_change_61 hx1 hx2 hgzZ9_26_4)).trans ((heq280 x ⟨(zx_X16_change_3 hx1 hx2), (zx_X16_change_61 hx1 hx2 hgzZ9_26_4)⟩).trans ((heq274 x ⟨(zx_X16_change_3 hx1 hx2), (zx_X16_change_60 hx1 hx2 hgzZ9_26_3)⟩).trans ((heq268 x ⟨(zx_X16_change_3 hx1 hx2), (zx_X16_change_59 hx1 hx2 hgzZ9_26_2)⟩).trans ((heq239 x (zx_X16_change_58 hx1 hx2 hgzZ9_26_1)).trans ((heq229 x (zx_X16_change_57 hx1 hx2 hgzZ9_26_0)).trans ((heq217 x ⟨(zx_X16_change_3 hx1 hx2), (zx_X16_change_58 hx1 hx2 hgzZ9_26_1)⟩).trans ((heq211 x ⟨(zx_X16_change_3 hx1 hx2), (zx_X16_change_57 hx1 hx2 hgzZ9_26_0)⟩).trans ((heq131 x (zx_X16_change_56 hx1 hx2)).trans (heq26 x (zx_X16_change_3 hx1 hx2)))))))))))))))
                          have hb100 : zBya w490 (m + 92) 4000 := hBo0.ag (fun x hx1 hx2 => ((heq490 x (by omega)).trans ((heq481 x (zx_X16_change_79 hx1 hx2)).trans ((heqL473 x ⟨⟨(zx_X16_change_74 hx1 hx2), (zx_X16_change_75 hx1 hx2 hgzZ9_26_2), (zx_X16_change_76 hx1 hx2), (zx_X16_change_77 hx1 hx2)⟩, (zx_X16_change_78 hx1 hx2)⟩).trans ((heq288 x (zx_X16_change_73 hx1 hx2 hgzZ9_26_4)).trans ((heq280 x ⟨(zx_X16_change_4 hx1 hx2), (zx_X16_change_73 hx1 hx2 hgzZ9_26_4)⟩).trans ((heq274 x ⟨(zx_X16_change_4 hx1 hx2), (zx_X16_change_72 hx1 hx2 hgzZ9_26_3)⟩).trans ((heq268 x ⟨(zx_X16_change_4 hx1 hx2), (zx_X16_change_71 hx1 hx2 hgzZ9_26_2)⟩).trans ((heq239 x (zx_X16_change_70 hx1 hx2 hgzZ9_26_1)).trans ((heq229 x (zx_X16_change_69 hx1 hx2 hgzZ9_26_0)).trans ((heq217 x ⟨(zx_X16_change_4 hx1 hx2), (zx_X16_change_70 hx1 hx2 hgzZ9_26_1)⟩).trans ((heq211 x ⟨(zx_X16_change_4 hx1 hx2), (zx_X16_change_69 hx1 hx2 hgzZ9_26_0)⟩).trans ((heq131 x (zx_X16_change_68 hx1 hx2)).trans (heq26 x (zx_X16_change_4 hx1 hx2)))))))))))))))
                          have hb101 : zBya w490 (m + 93) 4000 := hBl0.ag (fun x hx1 hx2 => ((heq490 x (by omega)).trans ((heq481 x (zx_X16_change_91 hx1 hx2)).trans ((heqL473 x ⟨⟨(zx_X16_change_86 hx1 hx2), (zx_X16_change_87 hx1 hx2 hgzZ9_26_2), (zx_X16_change_88 hx1 hx2), (zx_X16_change_89 hx1 hx2)⟩, (zx_X16_change_90 hx1 hx2)⟩).trans ((heq288 x (zx_X16_change_85 hx1 hx2 hgzZ9_26_4)).trans ((heq280 x ⟨(zx_X16_change_5 hx1 hx2), (zx_X16_change_85 hx1 hx2 hgzZ9_26_4)⟩).trans ((heq274 x ⟨(zx_X16_change_5 hx1 hx2), (zx_X16_change_84 hx1 hx2 hgzZ9_26_3)⟩).trans ((heq268 x ⟨(zx_X16_change_5 hx1 hx2), (zx_X16_change_83 hx1 hx2 hgzZ9_26_2)⟩).trans ((heq239 x (zx_X16_change_82 hx1 hx2 hgzZ9_26_1)).trans ((heq229 x (zx_X16_change_81 hx1 hx2 hgzZ9_26_0)).trans ((heq217 x ⟨(zx_X16_change_5 hx1 hx2), (zx_X16_change_82 hx1 hx2 hgzZ9_26_1)⟩).trans ((heq211 x ⟨(zx_X16_change_5 hx1 hx2), (zx_X16_change_81 hx1 hx2 hgzZ9_26_0)⟩).trans ((heq131 x (zx_X16_change_80 hx1 hx2)).trans (heq26 x (zx_X16_change_5 hx1 hx2)))))))))))))))
                          have hb102 : w490 (m + 94) = some (.inr (0, 60, .inl ff)) := ((heq490 (m + 94) (by omega)).trans ((heq481 (m + 94) (zx_X16_change_103)).trans ((heqL473 (m + 94) ⟨⟨(zx_X16_change_98), (zx_X16_change_99 hgzZ9_26_2), (zx_X16_change_100), (zx_X16_change_101)⟩, (zx_X16_change_102)⟩).trans ((heq288 (m + 94) (zx_X16_change_97 hgzZ9_26_4)).trans ((heq280 (m + 94) ⟨(zx_X16_change_6), (zx_X16_change_97 hgzZ9_26_4)⟩).trans ((heq274 (m + 94) ⟨(zx_X16_change_6), (zx_X16_change_96 hgzZ9_26_3)⟩).trans ((heq268 (m + 94) ⟨(zx_X16_change_6), (zx_X16_change_95 hgzZ9_26_2)⟩).trans ((heq239 (m + 94) (zx_X16_change_94 hgzZ9_26_1)).trans ((heq229 (m + 94) (zx_X16_change_93 hgzZ9_26_0)).trans ((heq217 (m + 94) ⟨(zx_X16_change_6), (zx_X16_change_94 hgzZ9_26_1)⟩).trans ((heq211 (m + 94) ⟨(zx_X16_change_6), (zx_X16_change_93 hgzZ9_26_0)⟩).trans ((heq131 (m + 94) (zx_X16_change_92)).trans (heq26 (m + 94) (zx_X16_change_6)))))))))))))).trans hAf0
                          refine zr_retI (by decide +kernel) rfl ?_
                          rw [← hPost]; exact ⟨rfl, _, rfl, ((((((((((((hsi26.tr hsi131).tr hsi211).tr hsi217).tr hsi229).tr hsi239).tr hsi268).tr hsi274).tr hsi280).tr hsi288).tr hsiL473).tr hsi481).tr hsi490), hoffend, ⟨_, _, hb96, hb97, hSl498, ⟨_, hb98⟩, hb99, ⟨_, hb102, hff⟩, hb100, hb101, hI12, hI24, hI29, hI31, hIn⟩, _, rfl, trivial⟩
                      have hJ393 : ∀ (_ : True), zP (d + 1) zq_X16_change 393 [(0, .ref m), (1, .int op), (4, .int to), (6, .ref (m + 596 + 130 * Z9_26.toNatClampNeg)), (7, .ref (m + 596 + 130 * (Z9_26 + 1).toNatClampNeg)), (9, .ref (m + 596 + 130 * (Z9_26 + 1 + 1).toNatClampNeg)), (10, .ref (m + 596 + 130 * (Z9_26 + 1 + 1 + 1).toNatClampNeg))] [] w288 sz 0 0 Post := by
                        intro _
                        refine zp_seg (pc' := 404) (lv' := [(0, .ref m), (1, .int op), (4, .int to), (6, .ref (m + 596 + 130 * Z9_26.toNatClampNeg)), (7, .ref (m + 596 + 130 * (Z9_26 + 1).toNatClampNeg)), (9, .ref (m + 596 + 130 * (Z9_26 + 1 + 1).toNatClampNeg)), (10, .ref (m + 596 + 130 * (Z9_26 + 1 + 1 + 1).toNatClampNeg))]) (st' := [.int 4, .int op, .ref (m + 596 + 130 * (Z9_26 + 1).toNatClampNeg), .ref (m + 596 + 130 * Z9_26.toNatClampNeg), .ref (m + 596 + 130 * (Z9_26 + 1 + 1 + 1).toNatClampNeg), .ref (m + 596 + 130 * (Z9_26 + 1 + 1).toNatClampNeg), .ref m]) [(393, .aload_n 0), (394, .aload 9), (396, .aload 10), (398, .aload 6), (400, .aload 7), (402, .iload_n 1), (403, .iconst 4)] (by decide +kernel) rfl ?_
                        have hJ412 : ∀ (z0_412 : Int32), ((z0_412 = 0 ∨ z0_412 = 1)) → zP (d + 1) zq_X16_change 412 [(0, .ref m), (4, .int to), (9, .ref (m + 596 + 130 * (Z9_26 + 1 + 1).toNatClampNeg)), (10, .ref (m + 596 + 130 * (Z9_26 + 1 + 1 + 1).toNatClampNeg))] [.int z0_412, .ref (m + 596 + 130 * (Z9_26 + 1).toNatClampNeg), .ref (m + 596 + 130 * Z9_26.toNatClampNeg), .ref (m + 596 + 130 * (Z9_26 + 1 + 1 + 1).toNatClampNeg), .ref (m + 596 + 130 * (Z9_26 + 1 + 1).toNatClampNeg), .ref m] w288 sz 0 0 Post := by
                          intro z0_412 hi412_0
                          have kz0_412 := zrng z0_412
                          have k103 := zaddC (Z9_26 + 1 + 1 + 1 + 1) 1 (n := 1) (by decide) (by omega) (by omega)
                          have hz104 : ((Z9_26 + 1 + 1 + 1 + 1 + 1).toNatClampNeg : Int) = (Z9_26 + 1 + 1 + 1 + 1 + 1).toInt := znat (by first | omega | decide)
                          have hgzZ9_26_5 : (Z9_26 + 1 + 1 + 1 + 1 + 1).toNatClampNeg = 5 := by omega
                          have hb105 := hb68.si (hsi280.tr hsi288)
                          have hb106 : zB w288 (m + 596 + 130 * (Z9_26 + 1 + 1).toNatClampNeg) zbZ := hp268_1.ag (fun x hx1 hx2 => ((heq288 x (zx_X16_change_106 hx1 hx2 hgzZ9_26_2 hgzZ9_26_4)).trans ((heq280 x ⟨(zx_X16_change_104 hx1 hx2 hgzZ9_26_2), (zx_X16_change_106 hx1 hx2 hgzZ9_26_2 hgzZ9_26_4)⟩).trans (heq274 x ⟨(zx_X16_change_104 hx1 hx2 hgzZ9_26_2), (zx_X16_change_105 hx1 hx2 hgzZ9_26_2 hgzZ9_26_3)⟩))))
                          have ho412_u := zB.o hb106
                          have hb107 : zB w288 (m + 596 + 130 * (Z9_26 + 1 + 1 + 1).toNatClampNeg) zbZ := hp274_1.ag (fun x hx1 hx2 => ((heq288 x (zx_X16_change_108 hx1 hx2 hgzZ9_26_3 hgzZ9_26_4)).trans (heq280 x ⟨(zx_X16_change_107 hx1 hx2 hgzZ9_26_3), (zx_X16_change_108 hx1 hx2 hgzZ9_26_3 hgzZ9_26_4)⟩)))
                          have ho412_v := zB.o hb107
                          have hb108 : zB w288 (m + 596 + 130 * Z9_26.toNatClampNeg) (zbT fn1) := hp229_0.ag (fun x hx1 hx2 => ((heq288 x (zx_X16_change_111 hx1 hx2 hgzZ9_26_0 hgzZ9_26_4)).trans ((heq280 x ⟨(zx_X16_change_8 hx1 hx2 hgzZ9_26_0), (zx_X16_change_111 hx1 hx2 hgzZ9_26_0 hgzZ9_26_4)⟩).trans ((heq274 x ⟨(zx_X16_change_8 hx1 hx2 hgzZ9_26_0), (zx_X16_change_110 hx1 hx2 hgzZ9_26_0 hgzZ9_26_3)⟩).trans ((heq268 x ⟨(zx_X16_change_8 hx1 hx2 hgzZ9_26_0), (zx_X16_change_109 hx1 hx2 hgzZ9_26_0 hgzZ9_26_2)⟩).trans (heq239 x (zx_X16_change_9 hx1 hx2 hgzZ9_26_0 hgzZ9_26_1)))))))
                          have hb109 : zB w288 (m + 596 + 130 * (Z9_26 + 1).toNatClampNeg) (zbT fd1) := hp239_0.ag (fun x hx1 hx2 => ((heq288 x (zx_X16_change_115 hx1 hx2 hgzZ9_26_1 hgzZ9_26_4)).trans ((heq280 x ⟨(zx_X16_change_112 hx1 hx2 hgzZ9_26_1), (zx_X16_change_115 hx1 hx2 hgzZ9_26_1 hgzZ9_26_4)⟩).trans ((heq274 x ⟨(zx_X16_change_112 hx1 hx2 hgzZ9_26_1), (zx_X16_change_114 hx1 hx2 hgzZ9_26_1 hgzZ9_26_3)⟩).trans (heq268 x ⟨(zx_X16_change_112 hx1 hx2 hgzZ9_26_1), (zx_X16_change_113 hx1 hx2 hgzZ9_26_1 hgzZ9_26_2)⟩)))))
                          refine zr_callV (idx := 662) (j := 372) (by decide +kernel) (by decide +kernel) (show zMe 372 = some zq_X16_derivative from rfl) rfl rfl (Nat.le_of_ble_eq_true rfl) rfl rfl hb74 (Nat.le_of_ble_eq_true rfl) (Nat.le_of_ble_eq_true rfl) (c_X16_derivative (w := w288) (g1 := Z9_26) (g3 := (Z9_26 + 1 + 1 + 1 + 1 + 1)) m (m + 596 + 130 * (Z9_26 + 1 + 1).toNatClampNeg) (m + 596 + 130 * (Z9_26 + 1 + 1 + 1).toNatClampNeg) (m + 596 + 130 * Z9_26.toNatClampNeg) (m + 596 + 130 * (Z9_26 + 1).toNatClampNeg) z0_412 hb74 hb105 ho412_u ho412_v hb108 hb109 (by first | omega | decide | assumption | exact zr1_1 | exact zr1_0 | fail "num") (by first | omega | decide | assumption | exact zr1_1 | exact zr1_0 | fail "num") (by first | omega | decide | assumption | exact zr1_1 | exact zr1_0 | fail "num") (by first | omega | decide | assumption | exact zr1_1 | exact zr1_0 | fail "num") (by first | omega | decide | assumption | exact zr1_1 | exact zr1_0 | fail "num") (by first | omega | decide | assumption | exact zr1_1 | exact zr1_0 | fail "num") (by first | omega | decide | assumption | exact zr1_1 | exact zr1_0 | fail "num") (by first | omega | decide | assumption | exact zr1_1 | exact zr1_0 | fail "num") (by first | omega | decide | assumption | exact zr1_1 | exact zr1_0 | fail "num") (by first | omega | decide | assumption | exact zr1_1 | exact zr1_0 | fail "num") (by first | omega | decide | assumption | exact zr1_1 | exact zr1_0 | fail "num") (by first | omega | decide | assumption | exact zr1_1 | exact zr1_0 | fail "num") (by exact hd0) (by first | omega | decide | assumption | exact zr1_1 | exact zr1_0 | fail "num") rfl rfl) (by omega) (fun v412 w412 hp412 => ?_)
                          obtain ⟨P9_412, Q9_412, hsi412, heq412, hp412_0, hp412_1, hp412_2, rfl⟩ := hp412
                          show zP _ _ _ _ [] _ _ _ _ _
                          have hde9 := hp412_2
                          refine zp_seg (pc' := 473) (lv' := [(0, .ref m), (4, .int to), (9, .ref (m + 596 + 130 * (Z9_26 + 1 + 1).toNatClampNeg)), (10, .ref (m + 596 + 130 * (Z9_26 + 1 + 1 + 1).toNatClampNeg))]) (st' := []) [(415, .goto 58)] (by decide +kernel) rfl ?_
                          have hb110 : w412 m = some (.inl (15, zMo m (zs (zs (zs g 1 Z9_26) 3 (Z9_26 + 1 + 1 + 1 + 1 + 1)) 16 Z9_26) r)) := (heq412 m ⟨(zx_X16_change_120 hgzZ9_26_2), (zx_X16_change_121 hgzZ9_26_3), (zx_X16_change_122 hgzZ9_26_0), (zx_X16_change_123 hgzZ9_26_5), (zx_X16_change_124), (zx_X16_change_125)⟩).trans hb74
                          exact (hJ473 w412 (P9_412) (Q9_412) hsi412 (fun x hx => (heq412 x ⟨(zx_X16_change_116 hx.1.2.1 hgzZ9_26_2), (zx_X16_change_117 hx.1.2.1 hgzZ9_26_2 hgzZ9_26_3), (zx_X16_change_118 hx.1.1 hgzZ9_26_0), (zx_X16_change_119 hx.1.2.1 hgzZ9_26_2 hgzZ9_26_5), hx.1.2.2.1, hx.1.2.2.2⟩)) hp412_0 hp412_1 hb110 (by
                                first | exact hre9.2.2.2 hyn9 | exact hde9.2.2.1 | exact hp436_2.2.2.2 htn9 | (rw [zf_1, zC1_rw]; decide))).more (zfa1 rfl (zfa1 rfl (zfa1 rfl (zfa1 rfl (zfa0)))))
                        refine zp_if (i := .if_icmp .ne 7) (c := ¬ op = 4) (t := 411) (e := 407) (lv' := [(0, .ref m), (1, .int op), (4, .int to), (6, .ref (m + 596 + 130 * Z9_26.toNatClampNeg)), (7, .ref (m + 596 + 130 * (Z9_26 + 1).toNatClampNeg)), (9, .ref (m + 596 + 130 * (Z9_26 + 1 + 1).toNatClampNeg)), (10, .ref (m + 596 + 130 * (Z9_26 + 1 + 1 + 1).toNatClampNeg))]) (st' := [.ref (m + 596 + 130 * (Z9_26 + 1).toNatClampNeg), .ref (m + 596 + 130 * Z9_26.toNatClampNeg), .ref (m + 596 + 130 * (Z9_26 + 1 + 1 + 1).toNatClampNeg), .ref (m + 596 + 130 * (Z9_26 + 1 + 1).toNatClampNeg), .ref m]) (by decide +kernel) rfl (fun cc404 => ?_) (fun cc404 => ?_)
                        ·
                          have f112 := zneI cc404
                          rw [show (4 : Int32).toInt = 4 from by decide] at f112
                          refine zp_seg (pc' := 412) (lv' := [(0, .ref m), (1, .int op), (4, .int to), (6, .ref (m + 596 + 130 * Z9_26.toNatClampNeg)), (7, .ref (m + 596 + 130 * (Z9_26 + 1).toNatClampNeg)), (9, .ref (m + 596 + 130 * (Z9_26 + 1 + 1).toNatClampNeg)), (10, .ref (m + 596 + 130 * (Z9_26 + 1 + 1 + 1).toNatClampNeg))]) (st' := [.int 0, .ref (m + 596 + 130 * (Z9_26 + 1).toNatClampNeg), .ref (m + 596 + 130 * Z9_26.toNatClampNeg), .ref (m + 596 + 130 * (Z9_26 + 1 + 1 + 1).toNatClampNeg), .ref (m + 596 + 130 * (Z9_26 + 1 + 1).toNatClampNeg), .ref m]) [(411, .iconst 0)] (by decide +kernel) rfl ?_
                          have hl113 : (0 : Int32).toInt = 0 := by decide
                          exact (hJ412 0 (by first | assumption | omega | decide)).more (zfa1 rfl (zfa1 rfl (zfa1 rfl (zfa1 rfl (zfa0)))))
                        ·
                          replace cc404 := Classical.not_not.mp cc404
                          have f115 := zeqI cc404
                          rw [show (4 : Int32).toInt = 4 from by decide] at f115
                          refine zp_seg (pc' := 412) (lv' := [(0, .ref m), (1, .int op), (4, .int to), (6, .ref (m + 596 + 130 * Z9_26.toNatClampNeg)), (7, .ref (m + 596 + 130 * (Z9_26 + 1).toNatClampNeg)), (9, .ref (m + 596 + 130 * (Z9_26 + 1 + 1).toNatClampNeg)), (10, .ref (m + 596 + 130 * (Z9_26 + 1 + 1 + 1).toNatClampNeg))]) (st' := [.int 1, .ref (m + 596 + 130 * (Z9_26 + 1).toNatClampNeg), .ref (m + 596 + 130 * Z9_26.toNatClampNeg), .ref (m + 596 + 130 * (Z9_26 + 1 + 1 + 1).toNatClampNeg), .ref (m + 596 + 130 * (Z9_26 + 1 + 1).toNatClampNeg), .ref m]) [(407, .iconst 1), (408, .goto 4)] (by decide +kernel) rfl ?_
                          have hl116 : (1 : Int32).toInt = 1 := by decide
                          exact (hJ412 1 (by first | assumption | omega | decide)).more (zfa1 rfl (zfa1 rfl (zfa1 rfl (zfa1 rfl (zfa0)))))
                      have hJ332 : ∀ (_ : True), zP (d + 1) zq_X16_change 332 [(0, .ref m), (1, .int op), (4, .int to), (6, .ref (m + 596 + 130 * Z9_26.toNatClampNeg)), (7, .ref (m + 596 + 130 * (Z9_26 + 1).toNatClampNeg)), (8, .int r243), (9, .ref (m + 596 + 130 * (Z9_26 + 1 + 1).toNatClampNeg)), (10, .ref (m + 596 + 130 * (Z9_26 + 1 + 1 + 1).toNatClampNeg))] [] w288 sz 0 0 Post := by
                        intro _
                        refine zp_seg (pc' := 341) (lv' := [(0, .ref m), (1, .int op), (4, .int to), (6, .ref (m + 596 + 130 * Z9_26.toNatClampNeg)), (7, .ref (m + 596 + 130 * (Z9_26 + 1).toNatClampNeg)), (8, .int r243), (9, .ref (m + 596 + 130 * (Z9_26 + 1 + 1).toNatClampNeg)), (10, .ref (m + 596 + 130 * (Z9_26 + 1 + 1 + 1).toNatClampNeg))]) (st' := [.int 2, .int op, .int r243, .ref (m + 596 + 130 * Z9_26.toNatClampNeg), .ref (m + 596 + 130 * (Z9_26 + 1 + 1).toNatClampNeg), .ref m]) [(332, .aload_n 0), (333, .aload 9), (335, .aload 6), (337, .iload 8), (339, .iload_n 1), (340, .iconst 2)] (by decide +kernel) rfl ?_
                        have hJ349 : ∀ (z0_349 : Int32), ((z0_349 = 0 ∨ z0_349 = 1)) → zP (d + 1) zq_X16_change 349 [(0, .ref m), (1, .int op), (4, .int to), (7, .ref (m + 596 + 130 * (Z9_26 + 1).toNatClampNeg)), (8, .int r243), (9, .ref (m + 596 + 130 * (Z9_26 + 1 + 1).toNatClampNeg)), (10, .ref (m + 596 + 130 * (Z9_26 + 1 + 1 + 1).toNatClampNeg))] [.int z0_349, .int r243, .ref (m + 596 + 130 * Z9_26.toNatClampNeg), .ref (m + 596 + 130 * (Z9_26 + 1 + 1).toNatClampNeg), .ref m] w288 sz 0 0 Post := by
                          intro z0_349 hi349_0
                          have kz0_349 := zrng z0_349
                          have hb117 := hb68.si (hsi280.tr hsi288)
                          have hb118 : zB w288 (m + 596 + 130 * (Z9_26 + 1 + 1).toNatClampNeg) zbZ := hp268_1.ag (fun x hx1 hx2 => ((heq288 x (zx_X16_change_106 hx1 hx2 hgzZ9_26_2 hgzZ9_26_4)).trans ((heq280 x ⟨(zx_X16_change_104 hx1 hx2 hgzZ9_26_2), (zx_X16_change_106 hx1 hx2 hgzZ9_26_2 hgzZ9_26_4)⟩).trans (heq274 x ⟨(zx_X16_change_104 hx1 hx2 hgzZ9_26_2), (zx_X16_change_105 hx1 hx2 hgzZ9_26_2 hgzZ9_26_3)⟩))))
                          have ho349_to := zB.o hb118
                          have hb119 : zB w288 (m + 596 + 130 * Z9_26.toNatClampNeg) (zbT fn1) := hp229_0.ag (fun x hx1 hx2 => ((heq288 x (zx_X16_change_111 hx1 hx2 hgzZ9_26_0 hgzZ9_26_4)).trans ((heq280 x ⟨(zx_X16_change_8 hx1 hx2 hgzZ9_26_0), (zx_X16_change_111 hx1 hx2 hgzZ9_26_0 hgzZ9_26_4)⟩).trans ((heq274 x ⟨(zx_X16_change_8 hx1 hx2 hgzZ9_26_0), (zx_X16_change_110 hx1 hx2 hgzZ9_26_0 hgzZ9_26_3)⟩).trans ((heq268 x ⟨(zx_X16_change_8 hx1 hx2 hgzZ9_26_0), (zx_X16_change_109 hx1 hx2 hgzZ9_26_0 hgzZ9_26_2)⟩).trans (heq239 x (zx_X16_change_9 hx1 hx2 hgzZ9_26_0 hgzZ9_26_1)))))))
                          refine zr_callV (idx := 655) (j := 370) (by decide +kernel) (by decide +kernel) (show zMe 370 = some zq_X16_fixed from rfl) rfl rfl (Nat.le_of_ble_eq_true rfl) rfl rfl hb74 (Nat.le_of_ble_eq_true rfl) (Nat.le_of_ble_eq_true rfl) (c_X16_fixed (w := w288) (g1 := Z9_26) m (m + 596 + 130 * (Z9_26 + 1 + 1).toNatClampNeg) (m + 596 + 130 * Z9_26.toNatClampNeg) r243 z0_349 hb74 hb117 ho349_to hb119 (by first | omega | decide | assumption | exact zr1_1 | exact zr1_0 | fail "num") (by first | omega | decide | assumption | exact zr1_1 | exact zr1_0 | fail "num") (by first | omega | decide | assumption | exact zr1_1 | exact zr1_0 | fail "num") (by first | omega | decide | assumption | exact zr1_1 | exact zr1_0 | fail "num") (by exact hr243.1) (by first | omega | decide | assumption | exact zr1_1 | exact zr1_0 | fail "num") rfl) (by omega) (fun v349 w349 hp349 => ?_)
                          obtain ⟨P9_349, hsi349, heq349, hp349_0, hp349_1, rfl⟩ := hp349
                          show zP _ _ _ _ [] _ _ _ _ _
                          have hf1 := hp349_1.1 13 (by decide) (by omega)
                          have hf2 := hp349_1.2
                          refine zp_seg (pc' := 361) (lv' := [(0, .ref m), (1, .int op), (4, .int to), (7, .ref (m + 596 + 130 * (Z9_26 + 1).toNatClampNeg)), (8, .int r243), (9, .ref (m + 596 + 130 * (Z9_26 + 1 + 1).toNatClampNeg)), (10, .ref (m + 596 + 130 * (Z9_26 + 1 + 1 + 1).toNatClampNeg))]) (st' := [.int 2, .int op, .int r243, .ref (m + 596 + 130 * (Z9_26 + 1).toNatClampNeg), .ref (m + 596 + 130 * (Z9_26 + 1 + 1 + 1).toNatClampNeg), .ref m]) [(352, .aload_n 0), (353, .aload 10), (355, .aload 7), (357, .iload 8), (359, .iload_n 1), (360, .iconst 2)] (by decide +kernel) rfl ?_
                          have hJ369 : ∀ (z0_369 : Int32), ((z0_369 = 0 ∨ z0_369 = 1)) → zP (d + 1) zq_X16_change 369 [(0, .ref m), (4, .int to), (9, .ref (m + 596 + 130 * (Z9_26 + 1 + 1).toNatClampNeg)), (10, .ref (m + 596 + 130 * (Z9_26 + 1 + 1 + 1).toNatClampNeg))] [.int z0_369, .int r243, .ref (m + 596 + 130 * (Z9_26 + 1).toNatClampNeg), .ref (m + 596 + 130 * (Z9_26 + 1 + 1 + 1).toNatClampNeg), .ref m] w349 sz 0 0 Post := by
                            intro z0_369 hi369_0
                            have kz0_369 := zrng z0_369
                            have hb120 : w349 m = some (.inl (15, zMo m (zs (zs (zs g 1 Z9_26) 3 (Z9_26 + 1 + 1 + 1 + 1 + 1)) 16 Z9_26) r)) := (heq349 m ⟨(zx_X16_change_120 hgzZ9_26_2), (zx_X16_change_122 hgzZ9_26_0)⟩).trans hb74
                            have hb121 := hb117.si hsi349
                            have hb122 : zB w349 (m + 596 + 130 * (Z9_26 + 1 + 1 + 1).toNatClampNeg) zbZ := hp274_1.ag (fun x hx1 hx2 => ((heq349 x ⟨(zx_X16_change_126 hx1 hx2 hgzZ9_26_2 hgzZ9_26_3), (zx_X16_change_127 hx1 hx2 hgzZ9_26_0 hgzZ9_26_3)⟩).trans ((heq288 x (zx_X16_change_108 hx1 hx2 hgzZ9_26_3 hgzZ9_26_4)).trans (heq280 x ⟨(zx_X16_change_107 hx1 hx2 hgzZ9_26_3), (zx_X16_change_108 hx1 hx2 hgzZ9_26_3 hgzZ9_26_4)⟩))))
                            have ho369_to := zB.o hb122
                            have hb123 : zB w349 (m + 596 + 130 * (Z9_26 + 1).toNatClampNeg) (zbT fd1) := hp239_0.ag (fun x hx1 hx2 => ((heq349 x ⟨(zx_X16_change_113 hx1 hx2 hgzZ9_26_1 hgzZ9_26_2), (zx_X16_change_128 hx1 hx2 hgzZ9_26_0 hgzZ9_26_1)⟩).trans ((heq288 x (zx_X16_change_115 hx1 hx2 hgzZ9_26_1 hgzZ9_26_4)).trans ((heq280 x ⟨(zx_X16_change_112 hx1 hx2 hgzZ9_26_1), (zx_X16_change_115 hx1 hx2 hgzZ9_26_1 hgzZ9_26_4)⟩).trans ((heq274 x ⟨(zx_X16_change_112 hx1 hx2 hgzZ9_26_1), (zx_X16_change_114 hx1 hx2 hgzZ9_26_1 hgzZ9_26_3)⟩).trans (heq268 x ⟨(zx_X16_change_112 hx1 hx2 hgzZ9_26_1), (zx_X16_change_113 hx1 hx2 hgzZ9_26_1 hgzZ9_26_2)⟩))))))
                            refine zr_callV (idx := 655) (j := 370) (by decide +kernel) (by decide +kernel) (show zMe 370 = some zq_X16_fixed from rfl) rfl rfl (Nat.le_of_ble_eq_true rfl) rfl rfl hb120 (Nat.le_of_ble_eq_true rfl) (Nat.le_of_ble_eq_true rfl) (c_X16_fixed (w := w349) (g1 := Z9_26) m (m + 596 + 130 * (Z9_26 + 1 + 1 + 1).toNatClampNeg) (m + 596 + 130 * (Z9_26 + 1).toNatClampNeg) r243 z0_369 hb120 hb121 ho369_to hb123 (by first | omega | decide | assumption | exact zr1_1 | exact zr1_0 | fail "num") (by first | omega | decide | assumption | exact zr1_1 | exact zr1_0 | fail "num") (by first | omega | decide | assumption | exact zr1_1 | exact zr1_0 | fail "num") (by first | omega | decide | assumption | exact zr1_1 | exact zr1_0 | fail "num") (by exact hr243.1) (by first | omega | decide | assumption | exact zr1_1 | exact zr1_0 | fail "num") rfl) (by omega) (fun v369 w369 hp369 => ?_)
                            obtain ⟨P9_369, hsi369, heq369, hp369_0, hp369_1, rfl⟩ := hp369
                            show zP _ _ _ _ [] _ _ _ _ _
                            have hf3 := hp369_1.1 13 (by decide) (by omega)
                            have hf4 := hp369_1.2
                            refine zp_seg (pc' := 374) (lv' := [(0, .ref m), (4, .int to), (9, .ref (m + 596 + 130 * (Z9_26 + 1 + 1).toNatClampNeg)), (10, .ref (m + 596 + 130 * (Z9_26 + 1 + 1 + 1).toNatClampNeg))]) (st' := [.ref (m + 596 + 130 * (Z9_26 + 1 + 1 + 1).toNatClampNeg)]) [(372, .aload 10)] (by decide +kernel) rfl ?_
                            obtain ⟨n124, hb125, hb126, hb127, hb128, -⟩ := id hp369_0
                            have kn124 := zrng n124
                            refine zr_get (idx := 93) (k := 1) (v := .int n124) (by decide +kernel) (by decide +kernel) hb125 rfl ?_
                            have hrz9 := hb127
                            refine zp_if (i := .ifCond .ne 5) (c := ¬ n124 = 0) (t := 382) (e := 380) (lv' := [(0, .ref m), (4, .int to), (9, .ref (m + 596 + 130 * (Z9_26 + 1 + 1).toNatClampNeg)), (10, .ref (m + 596 + 130 * (Z9_26 + 1 + 1 + 1).toNatClampNeg))]) (st' := []) (by decide +kernel) rfl (fun cc377 => ?_) (fun cc377 => ?_)
                            ·
                              have f129 := zneI cc377
                              rw [show (0 : Int32).toInt = 0 from by decide] at f129
                              have hyn9 : 0 < zrw P9_369 := by omega
                              refine zp_seg (pc' := 387) (lv' := [(0, .ref m), (4, .int to), (9, .ref (m + 596 + 130 * (Z9_26 + 1 + 1).toNatClampNeg)), (10, .ref (m + 596 + 130 * (Z9_26 + 1 + 1 + 1).toNatClampNeg))]) (st' := [.ref (m + 596 + 130 * (Z9_26 + 1 + 1 + 1).toNatClampNeg), .ref (m + 596 + 130 * (Z9_26 + 1 + 1).toNatClampNeg), .ref m]) [(382, .aload_n 0), (383, .aload 9), (385, .aload 10)] (by decide +kernel) rfl ?_
                              have hb130 : w369 m = some (.inl (15, zMo m (zs (zs (zs g 1 Z9_26) 3 (Z9_26 + 1 + 1 + 1 + 1 + 1)) 16 Z9_26) r)) := (heq369 m ⟨(zx_X16_change_121 hgzZ9_26_3), (zx_X16_change_122 hgzZ9_26_0)⟩).trans hb120
                              have k131 := zaddC (Z9_26 + 1 + 1 + 1 + 1) 1 (n := 1) (by decide) (by omega) (by omega)
                              have hz132 : ((Z9_26 + 1 + 1 + 1 + 1 + 1).toNatClampNeg : Int) = (Z9_26 + 1 + 1 + 1 + 1 + 1).toInt := znat (by first | omega | decide)
                              have hgzZ9_26_5 : (Z9_26 + 1 + 1 + 1 + 1 + 1).toNatClampNeg = 5 := by omega
                              have hb133 := hb121.si hsi369
                              have hb134 : zB w369 (m + 596 + 130 * (Z9_26 + 1 + 1).toNatClampNeg) P9_349 := hp349_0.ag (fun x hx1 hx2 => (heq369 x ⟨(zx_X16_change_105 hx1 hx2 hgzZ9_26_2 hgzZ9_26_3), (zx_X16_change_129 hx1 hx2 hgzZ9_26_0 hgzZ9_26_2)⟩))
                              refine zr_callV (idx := 659) (j := 294) (by decide +kernel) (by decide +kernel) (show zMe 294 = some zq_X16_reduce from rfl) rfl rfl (Nat.le_of_ble_eq_true rfl) rfl rfl hb130 (Nat.le_of_ble_eq_true rfl) (Nat.le_of_ble_eq_true rfl) (c_X16_reduce (w := w369) (g1 := Z9_26) (g3 := (Z9_26 + 1 + 1 + 1 + 1 + 1)) m (m + 596 + 130 * (Z9_26 + 1 + 1).toNatClampNeg) (m + 596 + 130 * (Z9_26 + 1 + 1 + 1).toNatClampNeg) hb130 hb133 hb134 hp369_0 (by first | omega | decide | assumption | exact zr1_1 | exact zr1_0 | fail "num") (by first | omega | decide | assumption | exact zr1_1 | exact zr1_0 | fail "num") (by first | omega | decide | assumption | exact zr1_1 | exact zr1_0 | fail "num") (by first | omega | decide | assumption | exact zr1_1 | exact zr1_0 | fail "num") (by first | omega | decide | assumption | exact zr1_1 | exact zr1_0 | fail "num") (by exact hyn9) (by first | omega | decide | assumption | exact zr1_1 | exact zr1_0 | fail "num") (by first | omega | decide | assumption | exact zr1_1 | exact zr1_0 | fail "num") (by first | omega | decide | assumption | exact zr1_1 | exact zr1_0 | fail "num") rfl rfl) (by omega) (fun v387 w387 hp387 => ?_)
                              obtain ⟨P9_387, Q9_387, hsi387, heq387, hp387_0, hp387_1, hp387_2, rfl⟩ := hp387
                              show zP _ _ _ _ [] _ _ _ _ _
                              have hre9 := hp387_2
                              refine zp_seg (pc' := 473) (lv' := [(0, .ref m), (4, .int to), (9, .ref (m + 596 + 130 * (Z9_26 + 1 + 1).toNatClampNeg)), (10, .ref (m + 596 + 130 * (Z9_26 + 1 + 1 + 1).toNatClampNeg))]) (st' := []) [(390, .goto 83)] (by decide +kernel) rfl ?_
                              have hb135 : w387 m = some (.inl (15, zMo m (zs (zs (zs g 1 Z9_26) 3 (Z9_26 + 1 + 1 + 1 + 1 + 1)) 16 Z9_26) r)) := (heq387 m ⟨(zx_X16_change_120 hgzZ9_26_2), (zx_X16_change_121 hgzZ9_26_3), (zx_X16_change_122 hgzZ9_26_0), (zx_X16_change_123 hgzZ9_26_5), (zx_X16_change_124), (zx_X16_change_125)⟩).trans hb130
                              exact (hJ473 w387 (P9_387) (Q9_387) ((hsi349.tr hsi369).tr hsi387) (fun x hx => ((heq387 x ⟨(zx_X16_change_116 hx.1.2.1 hgzZ9_26_2), (zx_X16_change_117 hx.1.2.1 hgzZ9_26_2 hgzZ9_26_3), (zx_X16_change_118 hx.1.1 hgzZ9_26_0), (zx_X16_change_119 hx.1.2.1 hgzZ9_26_2 hgzZ9_26_5), hx.1.2.2.1, hx.1.2.2.2⟩).trans ((heq369 x ⟨(zx_X16_change_117 hx.1.2.1 hgzZ9_26_2 hgzZ9_26_3), (zx_X16_change_118 hx.1.1 hgzZ9_26_0)⟩).trans (heq349 x ⟨(zx_X16_change_116 hx.1.2.1 hgzZ9_26_2), (zx_X16_change_118 hx.1.1 hgzZ9_26_0)⟩)))) hp387_0 hp387_1 hb135 (by
                                    first | exact hre9.2.2.2 hyn9 | exact hde9.2.2.1 | exact hp436_2.2.2.2 htn9 | (rw [zf_1, zC1_rw]; decide))).more (zfa1 rfl (zfa1 rfl (zfa1 rfl (zfa1 rfl (zfa0)))))
                            ·
                              replace cc377 := Classical.not_not.mp cc377
                              have f136 := zeqI cc377
                              rw [show (0 : Int32).toInt = 0 from by decide] at f136
                              refine zp_seg (pc' := 381) (lv' := [(0, .ref m), (4, .int to), (9, .ref (m + 596 + 130 * (Z9_26 + 1 + 1).toNatClampNeg)), (10, .ref (m + 596 + 130 * (Z9_26 + 1 + 1 + 1).toNatClampNeg))]) (st' := [.int (Int32.ofInt (-1))]) [(380, .iconst (-1))] (by decide +kernel) rfl ?_
                              have hb137 : w369 m = some (.inl (15, zMo m (zs (zs (zs g 1 Z9_26) 3 (Z9_26 + 1 + 1 + 1 + 1 + 1)) 16 Z9_26) r)) := (heq369 m ⟨(zx_X16_change_121 hgzZ9_26_3), (zx_X16_change_122 hgzZ9_26_0)⟩).trans hb120
                              have hoffend : ∀ x, (x < m + 0 ∨ m + 0 + 8322 ≤ x) → w369 x = w x := fun x hx => ((heq369 x ⟨(zx_X16_change_36 hx hgzZ9_26_3), (zx_X16_change_130 hx hgzZ9_26_0)⟩).trans ((heq349 x ⟨(zx_X16_change_35 hx hgzZ9_26_2), (zx_X16_change_130 hx hgzZ9_26_0)⟩).trans ((heq288 x (zx_X16_change_37 hx hgzZ9_26_4)).trans ((heq280 x ⟨(zx_X16_change_0 hx), (zx_X16_change_37 hx hgzZ9_26_4)⟩).trans ((heq274 x ⟨(zx_X16_change_0 hx), (zx_X16_change_36 hx hgzZ9_26_3)⟩).trans ((heq268 x ⟨(zx_X16_change_0 hx), (zx_X16_change_35 hx hgzZ9_26_2)⟩).trans ((heq239 x (zx_X16_change_34 hx hgzZ9_26_1)).trans ((heq229 x (zx_X16_change_33 hx hgzZ9_26_0)).trans ((heq217 x ⟨(zx_X16_change_0 hx), (zx_X16_change_34 hx hgzZ9_26_1)⟩).trans ((heq211 x ⟨(zx_X16_change_0 hx), (zx_X16_change_33 hx hgzZ9_26_0)⟩).trans ((heq131 x (zx_X16_change_32 hx)).trans (heq26 x (zx_X16_change_0 hx)))))))))))))
                              have hb138 := hb121.si hsi369
                              have hb139 : zSlo w369 (m + 7486) := hSl0.ag (fun x hx1 hx2 => ((heq369 x ⟨(zx_X16_change_48 hx1 hx2 hgzZ9_26_3), (zx_X16_change_131 hx1 hx2 hgzZ9_26_0)⟩).trans ((heq349 x ⟨(zx_X16_change_47 hx1 hx2 hgzZ9_26_2), (zx_X16_change_131 hx1 hx2 hgzZ9_26_0)⟩).trans ((heq288 x (zx_X16_change_49 hx1 hx2 hgzZ9_26_4)).trans ((heq280 x ⟨(zx_X16_change_1 hx1 hx2), (zx_X16_change_49 hx1 hx2 hgzZ9_26_4)⟩).trans ((heq274 x ⟨(zx_X16_change_1 hx1 hx2), (zx_X16_change_48 hx1 hx2 hgzZ9_26_3)⟩).trans ((heq268 x ⟨(zx_X16_change_1 hx1 hx2), (zx_X16_change_47 hx1 hx2 hgzZ9_26_2)⟩).trans ((heq239 x (zx_X16_change_46 hx1 hx2 hgzZ9_26_1)).trans ((heq229 x (zx_X16_change_45 hx1 hx2 hgzZ9_26_0)).trans ((heq217 x ⟨(zx_X16_change_1 hx1 hx2), (zx_X16_change_46 hx1 hx2 hgzZ9_26_1)⟩).trans ((heq211 x ⟨(zx_X16_change_1 hx1 hx2), (zx_X16_change_45 hx1 hx2 hgzZ9_26_0)⟩).trans ((heq131 x (zx_X16_change_44 hx1 hx2)).trans (heq26 x (zx_X16_change_1 hx1 hx2))))))))))))))
                              have hb140 : zTi w369 (m + 83) kS1 := hp131_0.ag (fun x hx1 hx2 => ((heq369 x ⟨(zx_X16_change_17 hx1 hx2 hgzZ9_26_3), (zx_X16_change_132 hx1 hx2 hgzZ9_26_0)⟩).trans ((heq349 x ⟨(zx_X16_change_16 hx1 hx2 hgzZ9_26_2), (zx_X16_change_132 hx1 hx2 hgzZ9_26_0)⟩).trans ((heq288 x (zx_X16_change_18 hx1 hx2 hgzZ9_26_4)).trans ((heq280 x ⟨(zx_X16_change_2 hx1 hx2), (zx_X16_change_18 hx1 hx2 hgzZ9_26_4)⟩).trans ((heq274 x ⟨(zx_X16_change_2 hx1 hx2), (zx_X16_change_17 hx1 hx2 hgzZ9_26_3)⟩).trans ((heq268 x ⟨(zx_X16_change_2 hx1 hx2), (zx_X16_change_16 hx1 hx2 hgzZ9_26_2)⟩).trans ((heq239 x (zx_X16_change_15 hx1 hx2 hgzZ9_26_1)).trans ((heq229 x (zx_X16_change_14 hx1 hx2 hgzZ9_26_0)).trans ((heq217 x ⟨(zx_X16_change_2 hx1 hx2), (zx_X16_change_15 hx1 hx2 hgzZ9_26_1)⟩).trans (heq211 x ⟨(zx_X16_change_2 hx1 hx2), (zx_X16_change_14 hx1 hx2 hgzZ9_26_0)⟩)))))))))))
                              have hb141 : zPil w369 (m + 6316) := hPl0.ag (fun x hx1 hx2 => ((heq369 x ⟨(zx_X16_change_60 hx1 hx2 hgzZ9_26_3), (zx_X16_change_133 hx1 hx2 hgzZ9_26_0)⟩).trans ((heq349 x ⟨(zx_X16_change_59 hx1 hx2 hgzZ9_26_2), (zx_X16_change_133 hx1 hx2 hgzZ9_26_0)⟩).trans ((heq288 x (zx_X16_change_61 hx1 hx2 hgzZ9_26_4)).trans ((heq280 x ⟨(zx_X16_change_3 hx1 hx2), (zx_X16_change_61 hx1 hx2 hgzZ9_26_4)⟩).trans ((heq274 x ⟨(zx_X16_change_3 hx1 hx2), (zx_X16_change_60 hx1 hx2 hgzZ9_26_3)⟩).trans ((heq268 x ⟨(zx_X16_change_3 hx1 hx2), (zx_X16_change_59 hx1 hx2 hgzZ9_26_2)⟩).trans ((heq239 x (zx_X16_change_58 hx1 hx2 hgzZ9_26_1)).trans ((heq229 x (zx_X16_change_57 hx1 hx2 hgzZ9_26_0)).trans ((heq217 x ⟨(zx_X16_change_3 hx1 hx2), (zx_X16_change_58 hx1 hx2 hgzZ9_26_1)⟩).trans ((heq211 x ⟨(zx_X16_change_3 hx1 hx2), (zx_X16_change_57 hx1 hx2 hgzZ9_26_0)⟩).trans ((heq131 x (zx_X16_change_56 hx1 hx2)).trans (heq26 x (zx_X16_change_3 hx1 hx2))))))))))))))
                              have hb142 : zBya w369 (m + 92) 4000 := hBo0.ag (fun x hx1 hx2 => ((heq369 x ⟨(zx_X16_change_72 hx1 hx2 hgzZ9_26_3), (zx_X16_change_134 hx1 hx2 hgzZ9_26_0)⟩).trans ((heq349 x ⟨(zx_X16_change_71 hx1 hx2 hgzZ9_26_2), (zx_X16_change_134 hx1 hx2 hgzZ9_26_0)⟩).trans ((heq288 x (zx_X16_change_73 hx1 hx2 hgzZ9_26_4)).trans ((heq280 x ⟨(zx_X16_change_4 hx1 hx2), (zx_X16_change_73 hx1 hx2 hgzZ9_26_4)⟩).trans ((heq274 x ⟨(zx_X16_change_4 hx1 hx2), (zx_X16_change_72 hx1 hx2 hgzZ9_26_3)⟩).trans ((heq268 x ⟨(zx_X16_change_4 hx1 hx2), (zx_X16_change_71 hx1 hx2 hgzZ9_26_2)⟩).trans ((heq239 x (zx_X16_change_70 hx1 hx2 hgzZ9_26_1)).trans ((heq229 x (zx_X16_change_69 hx1 hx2 hgzZ9_26_0)).trans ((heq217 x ⟨(zx_X16_change_4 hx1 hx2), (zx_X16_change_70 hx1 hx2 hgzZ9_26_1)⟩).trans ((heq211 x ⟨(zx_X16_change_4 hx1 hx2), (zx_X16_change_69 hx1 hx2 hgzZ9_26_0)⟩).trans ((heq131 x (zx_X16_change_68 hx1 hx2)).trans (heq26 x (zx_X16_change_4 hx1 hx2))))))))))))))
                              have hb143 : zBya w369 (m + 93) 4000 := hBl0.ag (fun x hx1 hx2 => ((heq369 x ⟨(zx_X16_change_84 hx1 hx2 hgzZ9_26_3), (zx_X16_change_135 hx1 hx2 hgzZ9_26_0)⟩).trans ((heq349 x ⟨(zx_X16_change_83 hx1 hx2 hgzZ9_26_2), (zx_X16_change_135 hx1 hx2 hgzZ9_26_0)⟩).trans ((heq288 x (zx_X16_change_85 hx1 hx2 hgzZ9_26_4)).trans ((heq280 x ⟨(zx_X16_change_5 hx1 hx2), (zx_X16_change_85 hx1 hx2 hgzZ9_26_4)⟩).trans ((heq274 x ⟨(zx_X16_change_5 hx1 hx2), (zx_X16_change_84 hx1 hx2 hgzZ9_26_3)⟩).trans ((heq268 x ⟨(zx_X16_change_5 hx1 hx2), (zx_X16_change_83 hx1 hx2 hgzZ9_26_2)⟩).trans ((heq239 x (zx_X16_change_82 hx1 hx2 hgzZ9_26_1)).trans ((heq229 x (zx_X16_change_81 hx1 hx2 hgzZ9_26_0)).trans ((heq217 x ⟨(zx_X16_change_5 hx1 hx2), (zx_X16_change_82 hx1 hx2 hgzZ9_26_1)⟩).trans ((heq211 x ⟨(zx_X16_change_5 hx1 hx2), (zx_X16_change_81 hx1 hx2 hgzZ9_26_0)⟩).trans ((heq131 x (zx_X16_change_80 hx1 hx2)).trans (heq26 x (zx_X16_change_5 hx1 hx2))))))))))))))
                              have hb144 : w369 (m + 94) = some (.inr (0, 60, .inl ff)) := ((heq369 (m + 94) ⟨(zx_X16_change_96 hgzZ9_26_3), (zx_X16_change_136 hgzZ9_26_0)⟩).trans ((heq349 (m + 94) ⟨(zx_X16_change_95 hgzZ9_26_2), (zx_X16_change_136 hgzZ9_26_0)⟩).trans ((heq288 (m + 94) (zx_X16_change_97 hgzZ9_26_4)).trans ((heq280 (m + 94) ⟨(zx_X16_change_6), (zx_X16_change_97 hgzZ9_26_4)⟩).trans ((heq274 (m + 94) ⟨(zx_X16_change_6), (zx_X16_change_96 hgzZ9_26_3)⟩).trans ((heq268 (m + 94) ⟨(zx_X16_change_6), (zx_X16_change_95 hgzZ9_26_2)⟩).trans ((heq239 (m + 94) (zx_X16_change_94 hgzZ9_26_1)).trans ((heq229 (m + 94) (zx_X16_change_93 hgzZ9_26_0)).trans ((heq217 (m + 94) ⟨(zx_X16_change_6), (zx_X16_change_94 hgzZ9_26_1)⟩).trans ((heq211 (m + 94) ⟨(zx_X16_change_6), (zx_X16_change_93 hgzZ9_26_0)⟩).trans ((heq131 (m + 94) (zx_X16_change_92)).trans (heq26 (m + 94) (zx_X16_change_6))))))))))))).trans hAf0
                              refine zr_retI (by decide +kernel) rfl ?_
                              rw [← hPost]; exact ⟨rfl, _, rfl, (((((((((((hsi26.tr hsi131).tr hsi211).tr hsi217).tr hsi229).tr hsi239).tr hsi268).tr hsi274).tr hsi280).tr hsi288).tr hsi349).tr hsi369), hoffend, ⟨_, _, hb137, hb138, hb139, ⟨_, hb140⟩, hb141, ⟨_, hb144, hff⟩, hb142, hb143, hI12, hI24, hI29, hI31, hIn⟩, _, rfl, trivial⟩
                          refine zp_if (i := .if_icmp .ne 7) (c := ¬ op = 2) (t := 368) (e := 364) (lv' := [(0, .ref m), (1, .int op), (4, .int to), (7, .ref (m + 596 + 130 * (Z9_26 + 1).toNatClampNeg)), (8, .int r243), (9, .ref (m + 596 + 130 * (Z9_26 + 1 + 1).toNatClampNeg)), (10, .ref (m + 596 + 130 * (Z9_26 + 1 + 1 + 1).toNatClampNeg))]) (st' := [.int r243, .ref (m + 596 + 130 * (Z9_26 + 1).toNatClampNeg), .ref (m + 596 + 130 * (Z9_26 + 1 + 1 + 1).toNatClampNeg), .ref m]) (by decide +kernel) rfl (fun cc361 => ?_) (fun cc361 => ?_)
                          ·
                            have f146 := zneI cc361
                            rw [show (2 : Int32).toInt = 2 from by decide] at f146
                            refine zp_seg (pc' := 369) (lv' := [(0, .ref m), (1, .int op), (4, .int to), (7, .ref (m + 596 + 130 * (Z9_26 + 1).toNatClampNeg)), (8, .int r243), (9, .ref (m + 596 + 130 * (Z9_26 + 1 + 1).toNatClampNeg)), (10, .ref (m + 596 + 130 * (Z9_26 + 1 + 1 + 1).toNatClampNeg))]) (st' := [.int 0, .int r243, .ref (m + 596 + 130 * (Z9_26 + 1).toNatClampNeg), .ref (m + 596 + 130 * (Z9_26 + 1 + 1 + 1).toNatClampNeg), .ref m]) [(368, .iconst 0)] (by decide +kernel) rfl ?_
                            have hl147 : (0 : Int32).toInt = 0 := by decide
                            exact (hJ369 0 (by first | assumption | omega | decide)).more (zfa1 rfl (zfa1 rfl (zfa1 rfl (zfa1 rfl (zfa0)))))
                          ·
                            replace cc361 := Classical.not_not.mp cc361
                            have f148 := zeqI cc361
                            rw [show (2 : Int32).toInt = 2 from by decide] at f148
                            refine zp_seg (pc' := 369) (lv' := [(0, .ref m), (1, .int op), (4, .int to), (7, .ref (m + 596 + 130 * (Z9_26 + 1).toNatClampNeg)), (8, .int r243), (9, .ref (m + 596 + 130 * (Z9_26 + 1 + 1).toNatClampNeg)), (10, .ref (m + 596 + 130 * (Z9_26 + 1 + 1 + 1).toNatClampNeg))]) (st' := [.int 1, .int r243, .ref (m + 596 + 130 * (Z9_26 + 1).toNatClampNeg), .ref (m + 596 + 130 * (Z9_26 + 1 + 1 + 1).toNatClampNeg), .ref m]) [(364, .iconst 1), (365, .goto 4)] (by decide +kernel) rfl ?_
                            have hl149 : (1 : Int32).toInt = 1 := by decide
                            exact (hJ369 1 (by first | assumption | omega | decide)).more (zfa1 rfl (zfa1 rfl (zfa1 rfl (zfa1 rfl (zfa0)))))
                        refine zp_if (i := .if_icmp .ne 7) (c := ¬ op = 2) (t := 348) (e := 344) (lv' := [(0, .ref m), (1, .int op), (4, .int to), (6, .ref (m + 596 + 130 * Z9_26.toNatClampNeg)), (7, .ref (m + 596 + 130 * (Z9_26 + 1).toNatClampNeg)), (8, .int r243), (9, .ref (m + 596 + 130 * (Z9_26 + 1 + 1).toNatClampNeg)), (10, .ref (m + 596 + 130 * (Z9_26 + 1 + 1 + 1).toNatClampNeg))]) (st' := [.int r243, .ref (m + 596 + 130 * Z9_26.toNatClampNeg), .ref (m + 596 + 130 * (Z9_26 + 1 + 1).toNatClampNeg), .ref m]) (by decide +kernel) rfl (fun cc341 => ?_) (fun cc341 => ?_)
                        ·
                          have f150 := zneI cc341
                          rw [show (2 : Int32).toInt = 2 from by decide] at f150
                          refine zp_seg (pc' := 349) (lv' := [(0, .ref m), (1, .int op), (4, .int to), (6, .ref (m + 596 + 130 * Z9_26.toNatClampNeg)), (7, .ref (m + 596 + 130 * (Z9_26 + 1).toNatClampNeg)), (8, .int r243), (9, .ref (m + 596 + 130 * (Z9_26 + 1 + 1).toNatClampNeg)), (10, .ref (m + 596 + 130 * (Z9_26 + 1 + 1 + 1).toNatClampNeg))]) (st' := [.int 0, .int r243, .ref (m + 596 + 130 * Z9_26.toNatClampNeg), .ref (m + 596 + 130 * (Z9_26 + 1 + 1).toNatClampNeg), .ref m]) [(348, .iconst 0)] (by decide +kernel) rfl ?_
                          have hl151 : (0 : Int32).toInt = 0 := by decide
                          exact (hJ349 0 (by first | assumption | omega | decide)).more (zfa1 rfl (zfa1 rfl (zfa1 rfl (zfa1 rfl (zfa1 rfl (zfa1 rfl (zfa1 rfl (zfa0))))))))
                        ·
                          replace cc341 := Classical.not_not.mp cc341
                          have f152 := zeqI cc341
                          rw [show (2 : Int32).toInt = 2 from by decide] at f152
                          refine zp_seg (pc' := 349) (lv' := [(0, .ref m), (1, .int op), (4, .int to), (6, .ref (m + 596 + 130 * Z9_26.toNatClampNeg)), (7, .ref (m + 596 + 130 * (Z9_26 + 1).toNatClampNeg)), (8, .int r243), (9, .ref (m + 596 + 130 * (Z9_26 + 1 + 1).toNatClampNeg)), (10, .ref (m + 596 + 130 * (Z9_26 + 1 + 1 + 1).toNatClampNeg))]) (st' := [.int 1, .int r243, .ref (m + 596 + 130 * Z9_26.toNatClampNeg), .ref (m + 596 + 130 * (Z9_26 + 1 + 1).toNatClampNeg), .ref m]) [(344, .iconst 1), (345, .goto 4)] (by decide +kernel) rfl ?_
                          have hl153 : (1 : Int32).toInt = 1 := by decide
                          exact (hJ349 1 (by first | assumption | omega | decide)).more (zfa1 rfl (zfa1 rfl (zfa1 rfl (zfa1 rfl (zfa1 rfl (zfa1 rfl (zfa1 rfl (zfa0))))))))
                      by_cases hsw292_0 : op.toInt = 2
                      ·
                        refine zr_tsw (dflt := 167) (lo := 2) (hi := 7) (offs := #[40, 40, 101, 101, 126, 150]) (t := 332) (by decide +kernel) (by unfold zsw; rw [hsw292_0]; decide) ?_
                        exact (hJ332 trivial ).more (zfa1 rfl (zfa1 rfl (zfa1 rfl (zfa1 rfl (zfa1 rfl (zfa1 rfl (zfa1 rfl (zfa1 rfl (zfa0)))))))))
                      ·
                        by_cases hsw292_1 : op.toInt = 3
                        ·
                          refine zr_tsw (dflt := 167) (lo := 2) (hi := 7) (offs := #[40, 40, 101, 101, 126, 150]) (t := 332) (by decide +kernel) (by unfold zsw; rw [hsw292_1]; decide) ?_
                          exact (hJ332 trivial ).more (zfa1 rfl (zfa1 rfl (zfa1 rfl (zfa1 rfl (zfa1 rfl (zfa1 rfl (zfa1 rfl (zfa1 rfl (zfa0)))))))))
                        ·
                          by_cases hsw292_2 : op.toInt = 4
                          ·
                            refine zr_tsw (dflt := 167) (lo := 2) (hi := 7) (offs := #[40, 40, 101, 101, 126, 150]) (t := 393) (by decide +kernel) (by unfold zsw; rw [hsw292_2]; decide) ?_
                            exact (hJ393 trivial ).more (zfa1 rfl (zfa1 rfl (zfa1 rfl (zfa1 rfl (zfa1 rfl (zfa1 rfl (zfa1 rfl (zfa0))))))))
                          ·
                            by_cases hsw292_3 : op.toInt = 5
                            ·
                              refine zr_tsw (dflt := 167) (lo := 2) (hi := 7) (offs := #[40, 40, 101, 101, 126, 150]) (t := 393) (by decide +kernel) (by unfold zsw; rw [hsw292_3]; decide) ?_
                              exact (hJ393 trivial ).more (zfa1 rfl (zfa1 rfl (zfa1 rfl (zfa1 rfl (zfa1 rfl (zfa1 rfl (zfa1 rfl (zfa0))))))))
                            ·
                              by_cases hsw292_4 : op.toInt = 6
                              ·
                                refine zr_tsw (dflt := 167) (lo := 2) (hi := 7) (offs := #[40, 40, 101, 101, 126, 150]) (t := 418) (by decide +kernel) (by unfold zsw; rw [hsw292_4]; decide) ?_
                                refine zp_seg (pc' := 422) (lv' := [(11, .ref (m + 596 + 130 * (Z9_26 + 1 + 1 + 1 + 1).toNatClampNeg)), (10, .ref (m + 596 + 130 * (Z9_26 + 1 + 1 + 1).toNatClampNeg)), (9, .ref (m + 596 + 130 * (Z9_26 + 1 + 1).toNatClampNeg)), (8, .int r243), (7, .ref (m + 596 + 130 * (Z9_26 + 1).toNatClampNeg)), (6, .ref (m + 596 + 130 * Z9_26.toNatClampNeg)), (0, .ref m), (1, .int op), (3, .int v), (4, .int to), (5, .ref (m + 7486 + 9 * s9.toNatClampNeg))]) (st' := [.ref (m + 596 + 130 * Z9_26.toNatClampNeg), .ref (m + 596 + 130 * (Z9_26 + 1 + 1).toNatClampNeg)]) [(418, .aload 9), (420, .aload 6)] (by decide +kernel) rfl ?_
                                have hb154 : zB w288 (m + 596 + 130 * (Z9_26 + 1 + 1).toNatClampNeg) zbZ := hp268_1.ag (fun x hx1 hx2 => ((heq288 x (zx_X16_change_106 hx1 hx2 hgzZ9_26_2 hgzZ9_26_4)).trans ((heq280 x ⟨(zx_X16_change_104 hx1 hx2 hgzZ9_26_2), (zx_X16_change_106 hx1 hx2 hgzZ9_26_2 hgzZ9_26_4)⟩).trans (heq274 x ⟨(zx_X16_change_104 hx1 hx2 hgzZ9_26_2), (zx_X16_change_105 hx1 hx2 hgzZ9_26_2 hgzZ9_26_3)⟩))))
                                have ho422_to := zB.o hb154
                                have hb155 : zB w288 (m + 596 + 130 * Z9_26.toNatClampNeg) (zbT fn1) := hp229_0.ag (fun x hx1 hx2 => ((heq288 x (zx_X16_change_111 hx1 hx2 hgzZ9_26_0 hgzZ9_26_4)).trans ((heq280 x ⟨(zx_X16_change_8 hx1 hx2 hgzZ9_26_0), (zx_X16_change_111 hx1 hx2 hgzZ9_26_0 hgzZ9_26_4)⟩).trans ((heq274 x ⟨(zx_X16_change_8 hx1 hx2 hgzZ9_26_0), (zx_X16_change_110 hx1 hx2 hgzZ9_26_0 hgzZ9_26_3)⟩).trans ((heq268 x ⟨(zx_X16_change_8 hx1 hx2 hgzZ9_26_0), (zx_X16_change_109 hx1 hx2 hgzZ9_26_0 hgzZ9_26_2)⟩).trans (heq239 x (zx_X16_change_9 hx1 hx2 hgzZ9_26_0 hgzZ9_26_1)))))))
                                refine zr_callS (idx := 644) (j := 283) (by decide +kernel) (by decide +kernel) (by decide) (show zMe 283 = some zq_X16_turn from rfl) rfl rfl (Nat.le_of_ble_eq_true rfl) rfl rfl (Nat.le_of_ble_eq_true rfl) (Nat.le_of_ble_eq_true rfl) (c_X16_turn (w := w288) (m + 596 + 130 * (Z9_26 + 1 + 1).toNatClampNeg) (m + 596 + 130 * Z9_26.toNatClampNeg) ho422_to hb155 (by first | omega | decide | assumption | exact zr1_1 | exact zr1_0 | fail "num") (by first | omega | decide | assumption | exact zr1_1 | exact zr1_0 | fail "num")) (by omega) (fun v422 w422 hp422 => ?_)
                                obtain ⟨hsi422, heq422, hp422_0, rfl⟩ := hp422
                                show zP _ _ _ _ [] _ _ _ _ _
                                refine zp_seg (pc' := 429) (lv' := [(11, .ref (m + 596 + 130 * (Z9_26 + 1 + 1 + 1 + 1).toNatClampNeg)), (10, .ref (m + 596 + 130 * (Z9_26 + 1 + 1 + 1).toNatClampNeg)), (9, .ref (m + 596 + 130 * (Z9_26 + 1 + 1).toNatClampNeg)), (8, .int r243), (7, .ref (m + 596 + 130 * (Z9_26 + 1).toNatClampNeg)), (6, .ref (m + 596 + 130 * Z9_26.toNatClampNeg)), (0, .ref m), (1, .int op), (3, .int v), (4, .int to), (5, .ref (m + 7486 + 9 * s9.toNatClampNeg))]) (st' := [.ref (m + 596 + 130 * (Z9_26 + 1).toNatClampNeg), .ref (m + 596 + 130 * (Z9_26 + 1 + 1 + 1).toNatClampNeg)]) [(425, .aload 10), (427, .aload 7)] (by decide +kernel) rfl ?_
                                have hb156 : zB w422 (m + 596 + 130 * (Z9_26 + 1 + 1 + 1).toNatClampNeg) zbZ := hp274_1.ag (fun x hx1 hx2 => ((heq422 x (zx_X16_change_126 hx1 hx2 hgzZ9_26_2 hgzZ9_26_3)).trans ((heq288 x (zx_X16_change_108 hx1 hx2 hgzZ9_26_3 hgzZ9_26_4)).trans (heq280 x ⟨(zx_X16_change_107 hx1 hx2 hgzZ9_26_3), (zx_X16_change_108 hx1 hx2 hgzZ9_26_3 hgzZ9_26_4)⟩))))
                                have ho429_to := zB.o hb156
                                have hb157 : zB w422 (m + 596 + 130 * (Z9_26 + 1).toNatClampNeg) (zbT fd1) := hp239_0.ag (fun x hx1 hx2 => ((heq422 x (zx_X16_change_113 hx1 hx2 hgzZ9_26_1 hgzZ9_26_2)).trans ((heq288 x (zx_X16_change_115 hx1 hx2 hgzZ9_26_1 hgzZ9_26_4)).trans ((heq280 x ⟨(zx_X16_change_112 hx1 hx2 hgzZ9_26_1), (zx_X16_change_115 hx1 hx2 hgzZ9_26_1 hgzZ9_26_4)⟩).trans ((heq274 x ⟨(zx_X16_change_112 hx1 hx2 hgzZ9_26_1), (zx_X16_change_114 hx1 hx2 hgzZ9_26_1 hgzZ9_26_3)⟩).trans (heq268 x ⟨(zx_X16_change_112 hx1 hx2 hgzZ9_26_1), (zx_X16_change_113 hx1 hx2 hgzZ9_26_1 hgzZ9_26_2)⟩))))))
                                refine zr_callS (idx := 644) (j := 283) (by decide +kernel) (by decide +kernel) (by decide) (show zMe 283 = some zq_X16_turn from rfl) rfl rfl (Nat.le_of_ble_eq_true rfl) rfl rfl (Nat.le_of_ble_eq_true rfl) (Nat.le_of_ble_eq_true rfl) (c_X16_turn (w := w422) (m + 596 + 130 * (Z9_26 + 1 + 1 + 1).toNatClampNeg) (m + 596 + 130 * (Z9_26 + 1).toNatClampNeg) ho429_to hb157 (by first | omega | decide | assumption | exact zr1_1 | exact zr1_0 | fail "num") (by first | omega | decide | assumption | exact zr1_1 | exact zr1_0 | fail "num")) (by omega) (fun v429 w429 hp429 => ?_)
                                obtain ⟨hsi429, heq429, hp429_0, rfl⟩ := hp429
                                show zP _ _ _ _ [] _ _ _ _ _
                                refine zp_seg (pc' := 436) (lv' := [(11, .ref (m + 596 + 130 * (Z9_26 + 1 + 1 + 1 + 1).toNatClampNeg)), (10, .ref (m + 596 + 130 * (Z9_26 + 1 + 1 + 1).toNatClampNeg)), (9, .ref (m + 596 + 130 * (Z9_26 + 1 + 1).toNatClampNeg)), (8, .int r243), (7, .ref (m + 596 + 130 * (Z9_26 + 1).toNatClampNeg)), (6, .ref (m + 596 + 130 * Z9_26.toNatClampNeg)), (0, .ref m), (1, .int op), (3, .int v), (4, .int to), (5, .ref (m + 7486 + 9 * s9.toNatClampNeg))]) (st' := [.ref (m + 596 + 130 * (Z9_26 + 1 + 1 + 1).toNatClampNeg), .ref (m + 596 + 130 * (Z9_26 + 1 + 1).toNatClampNeg)]) [(432, .aload 9), (434, .aload 10)] (by decide +kernel) rfl ?_
                                have htn9 := zbTn_nz hd0
                                have hb158 : zB w429 (m + 596 + 130 * (Z9_26 + 1 + 1).toNatClampNeg) (zbTn (zbT fn1)) := hp422_0.ag (fun x hx1 hx2 => (heq429 x (zx_X16_change_105 hx1 hx2 hgzZ9_26_2 hgzZ9_26_3)))
                                refine zr_callS (idx := 191) (j := 293) (by decide +kernel) (by decide +kernel) (by decide) (show zMe 293 = some zq_X16_settle from rfl) rfl rfl (Nat.le_of_ble_eq_true rfl) rfl rfl (Nat.le_of_ble_eq_true rfl) (Nat.le_of_ble_eq_true rfl) (c_X16_settle (w := w429) (m + 596 + 130 * (Z9_26 + 1 + 1).toNatClampNeg) (m + 596 + 130 * (Z9_26 + 1 + 1 + 1).toNatClampNeg) hb158 hp429_0 (by first | omega | decide | assumption | exact zr1_1 | exact zr1_0 | fail "num") (by exact htn9)) (by omega) (fun v436 w436 hp436 => ?_)
                                obtain ⟨P9_436, Q9_436, hsi436, heq436, hp436_0, hp436_1, hp436_2, rfl⟩ := hp436
                                show zP _ _ _ _ [] _ _ _ _ _
                                refine zp_seg (pc' := 473) (lv' := [(11, .ref (m + 596 + 130 * (Z9_26 + 1 + 1 + 1 + 1).toNatClampNeg)), (10, .ref (m + 596 + 130 * (Z9_26 + 1 + 1 + 1).toNatClampNeg)), (9, .ref (m + 596 + 130 * (Z9_26 + 1 + 1).toNatClampNeg)), (8, .int r243), (7, .ref (m + 596 + 130 * (Z9_26 + 1).toNatClampNeg)), (6, .ref (m + 596 + 130 * Z9_26.toNatClampNeg)), (0, .ref m), (1, .int op), (3, .int v), (4, .int to), (5, .ref (m + 7486 + 9 * s9.toNatClampNeg))]) (st' := []) [(439, .goto 34)] (by decide +kernel) rfl ?_
                                have hb159 : w436 m = some (.inl (15, zMo m (zs (zs (zs g 1 Z9_26) 3 (Z9_26 + 1 + 1 + 1 + 1 + 1)) 16 Z9_26) r)) := ((heq436 m ⟨(zx_X16_change_120 hgzZ9_26_2), (zx_X16_change_121 hgzZ9_26_3)⟩).trans ((heq429 m (zx_X16_change_121 hgzZ9_26_3)).trans (heq422 m (zx_X16_change_120 hgzZ9_26_2)))).trans hb74
                                exact (hJ473 w436 (P9_436) (Q9_436) ((hsi422.tr hsi429).tr hsi436) (fun x hx => ((heq436 x ⟨(zx_X16_change_116 hx.1.2.1 hgzZ9_26_2), (zx_X16_change_117 hx.1.2.1 hgzZ9_26_2 hgzZ9_26_3)⟩).trans ((heq429 x (zx_X16_change_117 hx.1.2.1 hgzZ9_26_2 hgzZ9_26_3)).trans (heq422 x (zx_X16_change_116 hx.1.2.1 hgzZ9_26_2))))) hp436_0 hp436_1 hb159 (by
                                      first | exact hre9.2.2.2 hyn9 | exact hde9.2.2.1 | exact hp436_2.2.2.2 htn9 | (rw [zf_1, zC1_rw]; decide))).more (zfa1 rfl (zfa1 rfl (zfa1 rfl (zfa1 rfl (zfa0)))))
                              ·
                                by_cases hsw292_5 : op.toInt = 7
                                ·
                                  refine zr_tsw (dflt := 167) (lo := 2) (hi := 7) (offs := #[40, 40, 101, 101, 126, 150]) (t := 442) (by decide +kernel) (by unfold zsw; rw [hsw292_5]; decide) ?_
                                  refine zp_seg (pc' := 446) (lv' := [(11, .ref (m + 596 + 130 * (Z9_26 + 1 + 1 + 1 + 1).toNatClampNeg)), (10, .ref (m + 596 + 130 * (Z9_26 + 1 + 1 + 1).toNatClampNeg)), (9, .ref (m + 596 + 130 * (Z9_26 + 1 + 1).toNatClampNeg)), (8, .int r243), (7, .ref (m + 596 + 130 * (Z9_26 + 1).toNatClampNeg)), (6, .ref (m + 596 + 130 * Z9_26.toNatClampNeg)), (0, .ref m), (1, .int op), (3, .int v), (4, .int to), (5, .ref (m + 7486 + 9 * s9.toNatClampNeg))]) (st' := [.ref (m + 596 + 130 * Z9_26.toNatClampNeg), .ref (m + 596 + 130 * (Z9_26 + 1 + 1).toNatClampNeg)]) [(442, .aload 9), (444, .aload 6)] (by decide +kernel) rfl ?_
                                  have hb160 : zB w288 (m + 596 + 130 * (Z9_26 + 1 + 1).toNatClampNeg) zbZ := hp268_1.ag (fun x hx1 hx2 => ((heq288 x (zx_X16_change_106 hx1 hx2 hgzZ9_26_2 hgzZ9_26_4)).trans ((heq280 x ⟨(zx_X16_change_104 hx1 hx2 hgzZ9_26_2), (zx_X16_change_106 hx1 hx2 hgzZ9_26_2 hgzZ9_26_4)⟩).trans (heq274 x ⟨(zx_X16_change_104 hx1 hx2 hgzZ9_26_2), (zx_X16_change_105 hx1 hx2 hgzZ9_26_2 hgzZ9_26_3)⟩))))
                                  have ho446_to := zB.o hb160
                                  have hb161 : zB w288 (m + 596 + 130 * Z9_26.toNatClampNeg) (zbT fn1) := hp229_0.ag (fun x hx1 hx2 => ((heq288 x (zx_X16_change_111 hx1 hx2 hgzZ9_26_0 hgzZ9_26_4)).trans ((heq280 x ⟨(zx_X16_change_8 hx1 hx2 hgzZ9_26_0), (zx_X16_change_111 hx1 hx2 hgzZ9_26_0 hgzZ9_26_4)⟩).trans ((heq274 x ⟨(zx_X16_change_8 hx1 hx2 hgzZ9_26_0), (zx_X16_change_110 hx1 hx2 hgzZ9_26_0 hgzZ9_26_3)⟩).trans ((heq268 x ⟨(zx_X16_change_8 hx1 hx2 hgzZ9_26_0), (zx_X16_change_109 hx1 hx2 hgzZ9_26_0 hgzZ9_26_2)⟩).trans (heq239 x (zx_X16_change_9 hx1 hx2 hgzZ9_26_0 hgzZ9_26_1)))))))
                                  refine zr_callS (idx := 113) (j := 275) (by decide +kernel) (by decide +kernel) (by decide) (show zMe 275 = some zq_X16_set_ from rfl) rfl rfl (Nat.le_of_ble_eq_true rfl) rfl rfl (Nat.le_of_ble_eq_true rfl) (Nat.le_of_ble_eq_true rfl) (c_X16_set_ (w := w288) (m + 596 + 130 * (Z9_26 + 1 + 1).toNatClampNeg) (m + 596 + 130 * Z9_26.toNatClampNeg) ho446_to hb161 (by first | omega | decide | assumption | exact zr1_1 | exact zr1_0 | fail "num")) (by omega) (fun v446 w446 hp446 => ?_)
                                  obtain ⟨hsi446, heq446, hp446_0, rfl⟩ := hp446
                                  show zP _ _ _ _ [] _ _ _ _ _
                                  refine zp_seg (pc' := 453) (lv' := [(11, .ref (m + 596 + 130 * (Z9_26 + 1 + 1 + 1 + 1).toNatClampNeg)), (10, .ref (m + 596 + 130 * (Z9_26 + 1 + 1 + 1).toNatClampNeg)), (9, .ref (m + 596 + 130 * (Z9_26 + 1 + 1).toNatClampNeg)), (8, .int r243), (7, .ref (m + 596 + 130 * (Z9_26 + 1).toNatClampNeg)), (6, .ref (m + 596 + 130 * Z9_26.toNatClampNeg)), (0, .ref m), (1, .int op), (3, .int v), (4, .int to), (5, .ref (m + 7486 + 9 * s9.toNatClampNeg))]) (st' := [.ref (m + 596 + 130 * (Z9_26 + 1 + 1 + 1 + 1).toNatClampNeg), .ref (m + 596 + 130 * (Z9_26 + 1 + 1 + 1).toNatClampNeg)]) [(449, .aload 10), (451, .aload 11)] (by decide +kernel) rfl ?_
                                  have hb162 : zB w446 (m + 596 + 130 * (Z9_26 + 1 + 1 + 1).toNatClampNeg) zbZ := hp274_1.ag (fun x hx1 hx2 => ((heq446 x (zx_X16_change_126 hx1 hx2 hgzZ9_26_2 hgzZ9_26_3)).trans ((heq288 x (zx_X16_change_108 hx1 hx2 hgzZ9_26_3 hgzZ9_26_4)).trans (heq280 x ⟨(zx_X16_change_107 hx1 hx2 hgzZ9_26_3), (zx_X16_change_108 hx1 hx2 hgzZ9_26_3 hgzZ9_26_4)⟩))))
                                  have ho453_to := zB.o hb162
                                  have hb163 : zB w446 (m + 596 + 130 * (Z9_26 + 1 + 1 + 1 + 1).toNatClampNeg) (zbC (zaC (zf 1))) := hp288_0.ag (fun x hx1 hx2 => (heq446 x (zx_X16_change_137 hx1 hx2 hgzZ9_26_2 hgzZ9_26_4)))
                                  refine zr_callS (idx := 113) (j := 275) (by decide +kernel) (by decide +kernel) (by decide) (show zMe 275 = some zq_X16_set_ from rfl) rfl rfl (Nat.le_of_ble_eq_true rfl) rfl rfl (Nat.le_of_ble_eq_true rfl) (Nat.le_of_ble_eq_true rfl) (c_X16_set_ (w := w446) (m + 596 + 130 * (Z9_26 + 1 + 1 + 1).toNatClampNeg) (m + 596 + 130 * (Z9_26 + 1 + 1 + 1 + 1).toNatClampNeg) ho453_to hb163 (by first | omega | decide | assumption | exact zr1_1 | exact zr1_0 | fail "num")) (by omega) (fun v453 w453 hp453 => ?_)
                                  obtain ⟨hsi453, heq453, hp453_0, rfl⟩ := hp453
                                  show zP _ _ _ _ [] _ _ _ _ _
                                  refine zp_seg (pc' := 473) (lv' := [(11, .ref (m + 596 + 130 * (Z9_26 + 1 + 1 + 1 + 1).toNatClampNeg)), (10, .ref (m + 596 + 130 * (Z9_26 + 1 + 1 + 1).toNatClampNeg)), (9, .ref (m + 596 + 130 * (Z9_26 + 1 + 1).toNatClampNeg)), (8, .int r243), (7, .ref (m + 596 + 130 * (Z9_26 + 1).toNatClampNeg)), (6, .ref (m + 596 + 130 * Z9_26.toNatClampNeg)), (0, .ref m), (1, .int op), (3, .int v), (4, .int to), (5, .ref (m + 7486 + 9 * s9.toNatClampNeg))]) (st' := []) [(456, .goto 17)] (by decide +kernel) rfl ?_
                                  have hb164 : zB w453 (m + 596 + 130 * (Z9_26 + 1 + 1).toNatClampNeg) ((zbT fn1)) := hp446_0.ag (fun x hx1 hx2 => (heq453 x (zx_X16_change_105 hx1 hx2 hgzZ9_26_2 hgzZ9_26_3)))
                                  have hb165 : w453 m = some (.inl (15, zMo m (zs (zs (zs g 1 Z9_26) 3 (Z9_26 + 1 + 1 + 1 + 1 + 1)) 16 Z9_26) r)) := ((heq453 m (zx_X16_change_121 hgzZ9_26_3)).trans (heq446 m (zx_X16_change_120 hgzZ9_26_2))).trans hb74
                                  exact (hJ473 w453 (((zbT fn1))) (((zbC (zaC (zf 1))))) (hsi446.tr hsi453) (fun x hx => ((heq453 x (zx_X16_change_117 hx.1.2.1 hgzZ9_26_2 hgzZ9_26_3)).trans (heq446 x (zx_X16_change_116 hx.1.2.1 hgzZ9_26_2)))) hb164 hp453_0 hb165 (by
                                        first | exact hre9.2.2.2 hyn9 | exact hde9.2.2.1 | exact hp436_2.2.2.2 htn9 | (rw [zf_1, zC1_rw]; decide))).more (zfa1 rfl (zfa1 rfl (zfa1 rfl (zfa1 rfl (zfa0)))))
                                ·
                                  refine zr_tsw (dflt := 167) (lo := 2) (hi := 7) (offs := #[40, 40, 101, 101, 126, 150]) (t := 459) (by decide +kernel) (by unfold zsw; rw [if_pos (by omega)]; decide) ?_
                                  refine zp_seg (pc' := 463) (lv' := [(11, .ref (m + 596 + 130 * (Z9_26 + 1 + 1 + 1 + 1).toNatClampNeg)), (10, .ref (m + 596 + 130 * (Z9_26 + 1 + 1 + 1).toNatClampNeg)), (9, .ref (m + 596 + 130 * (Z9_26 + 1 + 1).toNatClampNeg)), (8, .int r243), (7, .ref (m + 596 + 130 * (Z9_26 + 1).toNatClampNeg)), (6, .ref (m + 596 + 130 * Z9_26.toNatClampNeg)), (0, .ref m), (1, .int op), (3, .int v), (4, .int to), (5, .ref (m + 7486 + 9 * s9.toNatClampNeg))]) (st' := [.ref (m + 596 + 130 * (Z9_26 + 1).toNatClampNeg), .ref (m + 596 + 130 * (Z9_26 + 1 + 1).toNatClampNeg)]) [(459, .aload 9), (461, .aload 7)] (by decide +kernel) rfl ?_
                                  have hb166 : zB w288 (m + 596 + 130 * (Z9_26 + 1 + 1).toNatClampNeg) zbZ := hp268_1.ag (fun x hx1 hx2 => ((heq288 x (zx_X16_change_106 hx1 hx2 hgzZ9_26_2 hgzZ9_26_4)).trans ((heq280 x ⟨(zx_X16_change_104 hx1 hx2 hgzZ9_26_2), (zx_X16_change_106 hx1 hx2 hgzZ9_26_2 hgzZ9_26_4)⟩).trans (heq274 x ⟨(zx_X16_change_104 hx1 hx2 hgzZ9_26_2), (zx_X16_change_105 hx1 hx2 hgzZ9_26_2 hgzZ9_26_3)⟩))))
                                  have ho463_to := zB.o hb166
                                  have hb167 : zB w288 (m + 596 + 130 * (Z9_26 + 1).toNatClampNeg) (zbT fd1) := hp239_0.ag (fun x hx1 hx2 => ((heq288 x (zx_X16_change_115 hx1 hx2 hgzZ9_26_1 hgzZ9_26_4)).trans ((heq280 x ⟨(zx_X16_change_112 hx1 hx2 hgzZ9_26_1), (zx_X16_change_115 hx1 hx2 hgzZ9_26_1 hgzZ9_26_4)⟩).trans ((heq274 x ⟨(zx_X16_change_112 hx1 hx2 hgzZ9_26_1), (zx_X16_change_114 hx1 hx2 hgzZ9_26_1 hgzZ9_26_3)⟩).trans (heq268 x ⟨(zx_X16_change_112 hx1 hx2 hgzZ9_26_1), (zx_X16_change_113 hx1 hx2 hgzZ9_26_1 hgzZ9_26_2)⟩)))))
                                  refine zr_callS (idx := 113) (j := 275) (by decide +kernel) (by decide +kernel) (by decide) (show zMe 275 = some zq_X16_set_ from rfl) rfl rfl (Nat.le_of_ble_eq_true rfl) rfl rfl (Nat.le_of_ble_eq_true rfl) (Nat.le_of_ble_eq_true rfl) (c_X16_set_ (w := w288) (m + 596 + 130 * (Z9_26 + 1 + 1).toNatClampNeg) (m + 596 + 130 * (Z9_26 + 1).toNatClampNeg) ho463_to hb167 (by first | omega | decide | assumption | exact zr1_1 | exact zr1_0 | fail "num")) (by omega) (fun v463 w463 hp463 => ?_)
                                  obtain ⟨hsi463, heq463, hp463_0, rfl⟩ := hp463
                                  show zP _ _ _ _ [] _ _ _ _ _
                                  refine zp_seg (pc' := 470) (lv' := [(11, .ref (m + 596 + 130 * (Z9_26 + 1 + 1 + 1 + 1).toNatClampNeg)), (10, .ref (m + 596 + 130 * (Z9_26 + 1 + 1 + 1).toNatClampNeg)), (9, .ref (m + 596 + 130 * (Z9_26 + 1 + 1).toNatClampNeg)), (8, .int r243), (7, .ref (m + 596 + 130 * (Z9_26 + 1).toNatClampNeg)), (6, .ref (m + 596 + 130 * Z9_26.toNatClampNeg)), (0, .ref m), (1, .int op), (3, .int v), (4, .int to), (5, .ref (m + 7486 + 9 * s9.toNatClampNeg))]) (st' := [.ref (m + 596 + 130 * (Z9_26 + 1 + 1 + 1 + 1).toNatClampNeg), .ref (m + 596 + 130 * (Z9_26 + 1 + 1 + 1).toNatClampNeg)]) [(466, .aload 10), (468, .aload 11)] (by decide +kernel) rfl ?_
                                  have hb168 : zB w463 (m + 596 + 130 * (Z9_26 + 1 + 1 + 1).toNatClampNeg) zbZ := hp274_1.ag (fun x hx1 hx2 => ((heq463 x (zx_X16_change_126 hx1 hx2 hgzZ9_26_2 hgzZ9_26_3)).trans ((heq288 x (zx_X16_change_108 hx1 hx2 hgzZ9_26_3 hgzZ9_26_4)).trans (heq280 x ⟨(zx_X16_change_107 hx1 hx2 hgzZ9_26_3), (zx_X16_change_108 hx1 hx2 hgzZ9_26_3 hgzZ9_26_4)⟩))))
                                  have ho470_to := zB.o hb168
                                  have hb169 : zB w463 (m + 596 + 130 * (Z9_26 + 1 + 1 + 1 + 1).toNatClampNeg) (zbC (zaC (zf 1))) := hp288_0.ag (fun x hx1 hx2 => (heq463 x (zx_X16_change_137 hx1 hx2 hgzZ9_26_2 hgzZ9_26_4)))
                                  refine zr_callS (idx := 113) (j := 275) (by decide +kernel) (by decide +kernel) (by decide) (show zMe 275 = some zq_X16_set_ from rfl) rfl rfl (Nat.le_of_ble_eq_true rfl) rfl rfl (Nat.le_of_ble_eq_true rfl) (Nat.le_of_ble_eq_true rfl) (c_X16_set_ (w := w463) (m + 596 + 130 * (Z9_26 + 1 + 1 + 1).toNatClampNeg) (m + 596 + 130 * (Z9_26 + 1 + 1 + 1 + 1).toNatClampNeg) ho470_to hb169 (by first | omega | decide | assumption | exact zr1_1 | exact zr1_0 | fail "num")) (by omega) (fun v470 w470 hp470 => ?_)
                                  obtain ⟨hsi470, heq470, hp470_0, rfl⟩ := hp470
                                  show zP _ _ _ _ [] _ _ _ _ _
                                  have hb170 : zB w470 (m + 596 + 130 * (Z9_26 + 1 + 1).toNatClampNeg) ((zbT fd1)) := hp463_0.ag (fun x hx1 hx2 => (heq470 x (zx_X16_change_105 hx1 hx2 hgzZ9_26_2 hgzZ9_26_3)))
                                  have hb171 : w470 m = some (.inl (15, zMo m (zs (zs (zs g 1 Z9_26) 3 (Z9_26 + 1 + 1 + 1 + 1 + 1)) 16 Z9_26) r)) := ((heq470 m (zx_X16_change_121 hgzZ9_26_3)).trans (heq463 m (zx_X16_change_120 hgzZ9_26_2))).trans hb74
                                  exact (hJ473 w470 (((zbT fd1))) (((zbC (zaC (zf 1))))) (hsi463.tr hsi470) (fun x hx => ((heq470 x (zx_X16_change_117 hx.1.2.1 hgzZ9_26_2 hgzZ9_26_3)).trans (heq463 x (zx_X16_change_116 hx.1.2.1 hgzZ9_26_2)))) hb170 hp470_0 hb171 (by
                                        first | exact hre9.2.2.2 hyn9 | exact hde9.2.2.1 | exact hp436_2.2.2.2 htn9 | (rw [zf_1, zC1_rw]; decide))).more (zfa1 rfl (zfa1 rfl (zfa1 rfl (zfa1 rfl (zfa0)))))
                    ·
                      have f173 := znleI cc250
                      rw [show (2 : Int32).toInt = 2 from by decide] at f173
                      have hb174 : zSlo w239 (m + 7486) := hSl0.ag (fun x hx1 hx2 => ((heq239 x (zx_X16_change_46 hx1 hx2 hgzZ9_26_1)).trans ((heq229 x (zx_X16_change_45 hx1 hx2 hgzZ9_26_0)).trans ((heq217 x ⟨(zx_X16_change_1 hx1 hx2), (zx_X16_change_46 hx1 hx2 hgzZ9_26_1)⟩).trans ((heq211 x ⟨(zx_X16_change_1 hx1 hx2), (zx_X16_change_45 hx1 hx2 hgzZ9_26_0)⟩).trans ((heq131 x (zx_X16_change_44 hx1 hx2)).trans (heq26 x (zx_X16_change_1 hx1 hx2))))))))
                      obtain ⟨kW, hkW⟩ := hb174 to.toNatClampNeg (by omega)
                      refine zp_seg (pc' := 263) (lv' := [(8, .int r243), (7, .ref (m + 596 + 130 * (Z9_26 + 1).toNatClampNeg)), (6, .ref (m + 596 + 130 * Z9_26.toNatClampNeg)), (0, .ref m), (1, .int op), (3, .int v), (4, .int to), (5, .ref (m + 7486 + 9 * s9.toNatClampNeg))]) (st' := [.int to, .int r243, .ref (m + 596 + 130 * (Z9_26 + 1).toNatClampNeg), .ref (m + 596 + 130 * Z9_26.toNatClampNeg), .int op, .ref m]) [(253, .aload_n 0), (254, .iload_n 1), (255, .aload 6), (257, .aload 7), (259, .iload 8), (261, .iload 4)] (by decide +kernel) rfl ?_
                      have hb175 : w239 m = some (.inl (15, zMo m (zs (zs (zs g 1 Z9_26) 3 (Z9_26 + 1 + 1)) 16 Z9_26) r)) := ((heq239 m (zx_X16_change_12 hgzZ9_26_1)).trans (heq229 m (zx_X16_change_11 hgzZ9_26_0))).trans hM217
                      have hb176 := hb50.si ((hsi217.tr hsi229).tr hsi239)
                      have hb177 : zTi w239 (m + 83) kS1 := hp131_0.ag (fun x hx1 hx2 => ((heq239 x (zx_X16_change_15 hx1 hx2 hgzZ9_26_1)).trans ((heq229 x (zx_X16_change_14 hx1 hx2 hgzZ9_26_0)).trans ((heq217 x ⟨(zx_X16_change_2 hx1 hx2), (zx_X16_change_15 hx1 hx2 hgzZ9_26_1)⟩).trans (heq211 x ⟨(zx_X16_change_2 hx1 hx2), (zx_X16_change_14 hx1 hx2 hgzZ9_26_0)⟩)))))
                      have hb178 : zB w239 (m + 596 + 130 * Z9_26.toNatClampNeg) (zbT fn1) := hp229_0.ag (fun x hx1 hx2 => (heq239 x (zx_X16_change_9 hx1 hx2 hgzZ9_26_0 hgzZ9_26_1)))
                      refine zr_callV (idx := 651) (j := 369) (by decide +kernel) (by decide +kernel) (show zMe 369 = some zq_X16_moved from rfl) rfl rfl (Nat.le_of_ble_eq_true rfl) rfl rfl hb175 (Nat.le_of_ble_eq_true rfl) (Nat.le_of_ble_eq_true rfl) (c_X16_moved (w := w239) m op (m + 596 + 130 * Z9_26.toNatClampNeg) (m + 596 + 130 * (Z9_26 + 1).toNatClampNeg) r243 to hb175 hb176 hb177 hkW hb178 hp239_0 (by exact hr243.1) (by exact hkk9) (by first | omega | decide | assumption | exact zr1_1 | exact zr1_0 | fail "num") (by first | omega | decide | assumption | exact zr1_1 | exact zr1_0 | fail "num") (by first | omega | decide | assumption | exact zr1_1 | exact zr1_0 | fail "num") (by first | omega | decide | assumption | exact zr1_1 | exact zr1_0 | fail "num") (by exact ⟨⟨by omega, by omega, by omega, by omega⟩, hd0, hKk1.2.2.1⟩)) (by omega) (fun v263 w263 hp263 => ?_)
                      obtain ⟨K9_263, L9_263, hsi263, heq263, hp263_0, hp263_1, r263, rfl, hr263⟩ := hp263
                      have kr263 := zrng r263
                      show zP _ _ _ _ [.int r263] _ _ _ _ _
                      have hSl266 := hSl0.up (w' := w263) to.toNatClampNeg hp263_1 (fun x h1 h2 h3 => ((heq263 x (by omega)).trans ((heq239 x (by omega)).trans ((heq229 x (by omega)).trans ((heq217 x (by omega)).trans ((heq211 x (by omega)).trans ((heq131 x (by omega)).trans (heq26 x (by omega)))))))))
                      have hb179 : w263 m = some (.inl (15, zMo m (zs (zs (zs g 1 Z9_26) 3 (Z9_26 + 1 + 1)) 16 Z9_26) r)) := (heq263 m (by omega)).trans hb175
                      have hoffend : ∀ x, (x < m + 0 ∨ m + 0 + 8322 ≤ x) → w263 x = w x := fun x hx => ((heq263 x (by omega)).trans ((heq239 x (zx_X16_change_34 hx hgzZ9_26_1)).trans ((heq229 x (zx_X16_change_33 hx hgzZ9_26_0)).trans ((heq217 x ⟨(zx_X16_change_0 hx), (zx_X16_change_34 hx hgzZ9_26_1)⟩).trans ((heq211 x ⟨(zx_X16_change_0 hx), (zx_X16_change_33 hx hgzZ9_26_0)⟩).trans ((heq131 x (zx_X16_change_32 hx)).trans (heq26 x (zx_X16_change_0 hx))))))))
                      have hb180 := hb176.si hsi263
                      have hb181 : zPil w263 (m + 6316) := hPl0.ag (fun x hx1 hx2 => ((heq263 x (by omega)).trans ((heq239 x (zx_X16_change_58 hx1 hx2 hgzZ9_26_1)).trans ((heq229 x (zx_X16_change_57 hx1 hx2 hgzZ9_26_0)).trans ((heq217 x ⟨(zx_X16_change_3 hx1 hx2), (zx_X16_change_58 hx1 hx2 hgzZ9_26_1)⟩).trans ((heq211 x ⟨(zx_X16_change_3 hx1 hx2), (zx_X16_change_57 hx1 hx2 hgzZ9_26_0)⟩).trans ((heq131 x (zx_X16_change_56 hx1 hx2)).trans (heq26 x (zx_X16_change_3 hx1 hx2)))))))))
                      have hb182 : zBya w263 (m + 92) 4000 := hBo0.ag (fun x hx1 hx2 => ((heq263 x (by omega)).trans ((heq239 x (zx_X16_change_70 hx1 hx2 hgzZ9_26_1)).trans ((heq229 x (zx_X16_change_69 hx1 hx2 hgzZ9_26_0)).trans ((heq217 x ⟨(zx_X16_change_4 hx1 hx2), (zx_X16_change_70 hx1 hx2 hgzZ9_26_1)⟩).trans ((heq211 x ⟨(zx_X16_change_4 hx1 hx2), (zx_X16_change_69 hx1 hx2 hgzZ9_26_0)⟩).trans ((heq131 x (zx_X16_change_68 hx1 hx2)).trans (heq26 x (zx_X16_change_4 hx1 hx2)))))))))
                      have hb183 : zBya w263 (m + 93) 4000 := hBl0.ag (fun x hx1 hx2 => ((heq263 x (by omega)).trans ((heq239 x (zx_X16_change_82 hx1 hx2 hgzZ9_26_1)).trans ((heq229 x (zx_X16_change_81 hx1 hx2 hgzZ9_26_0)).trans ((heq217 x ⟨(zx_X16_change_5 hx1 hx2), (zx_X16_change_82 hx1 hx2 hgzZ9_26_1)⟩).trans ((heq211 x ⟨(zx_X16_change_5 hx1 hx2), (zx_X16_change_81 hx1 hx2 hgzZ9_26_0)⟩).trans ((heq131 x (zx_X16_change_80 hx1 hx2)).trans (heq26 x (zx_X16_change_5 hx1 hx2)))))))))
                      have hb184 : w263 (m + 94) = some (.inr (0, 60, .inl ff)) := ((heq263 (m + 94) (by omega)).trans ((heq239 (m + 94) (zx_X16_change_94 hgzZ9_26_1)).trans ((heq229 (m + 94) (zx_X16_change_93 hgzZ9_26_0)).trans ((heq217 (m + 94) ⟨(zx_X16_change_6), (zx_X16_change_94 hgzZ9_26_1)⟩).trans ((heq211 (m + 94) ⟨(zx_X16_change_6), (zx_X16_change_93 hgzZ9_26_0)⟩).trans ((heq131 (m + 94) (zx_X16_change_92)).trans (heq26 (m + 94) (zx_X16_change_6)))))))).trans hAf0
                      refine zr_retI (by decide +kernel) rfl ?_
                      rw [← hPost]; exact ⟨rfl, _, rfl, ((((((hsi26.tr hsi131).tr hsi211).tr hsi217).tr hsi229).tr hsi239).tr hsi263), hoffend, ⟨_, _, hb179, hb180, hSl266, ⟨_, hp263_0⟩, hb181, ⟨_, hb184, hff⟩, hb182, hb183, hI12, hI24, hI29, hI31, hIn⟩, _, rfl, trivial⟩
                  ·
                    replace cc193 := Classical.not_not.mp cc193
                    have f185 := zeqI cc193
                    rw [show (11 : Int32).toInt = 11 from by decide] at f185
                    obtain ⟨g2, fn2, fd2, fa2, fb2, fc2, fe2, fr2, fu2, hT2, hAn2, hAd2, hAa2, hAb2, hAc2, hAe2, hAr2, hAu2, hK2⟩ := id hp131_0
                    obtain ⟨hK20, hKn2, hKd2, hKx2, hKm2, hKl2, hKr2, hKu2, hKk2⟩ := id hK2
                    refine zp_seg (pc' := 197) (lv' := [(0, .ref m), (1, .int op), (3, .int v), (4, .int to), (5, .ref (m + 7486 + 9 * s9.toNatClampNeg))]) (st' := [.ref m]) [(196, .aload_n 0)] (by decide +kernel) rfl ?_
                    have hb186 : w131 m = some (.inl (15, zMo m (zs (zs (zs g 1 Z9_26) 3 Z9_26) 16 Z9_26) r)) := (heq131 m (zx_X16_change_7)).trans hM26
                    refine zr_get (idx := 453) (k := 21) (v := .ref (m + 83)) (by decide +kernel) (by decide +kernel) hb186 rfl ?_
                    refine zr_callS (idx := 257) (j := 304) (by decide +kernel) (by decide +kernel) (by decide) (show zMe 304 = some zq_X16_plain from rfl) rfl rfl (Nat.le_of_ble_eq_true rfl) rfl rfl (Nat.le_of_ble_eq_true rfl) (Nat.le_of_ble_eq_true rfl) (c_X16_plain (w := w131) (m + 83) hT2) (by omega) (fun v200 w200 hp200 => ?_)
                    obtain ⟨hsi200, heq200, hp200_0, rfl⟩ := hp200
                    have hT200 : w200 (m + 83) = some (.inl (13, zTo (m + 83) (zs (zs (zs (zs g2 0 1) 3 1) 4 1) 5 0))) := hp200_0
                    show zP _ _ _ _ [] _ _ _ _ _
                    have hb187 : w200 (m + 83 + 1) = some (.inr (0, 325, .inl fn2)) := (heq200 (m + 83 + 1) (zx_X16_change_138)).trans hAn2
                    have hb188 : w200 (m + 83 + 2) = some (.inr (0, 325, .inl fd2)) := (heq200 (m + 83 + 2) (zx_X16_change_139)).trans hAd2
                    have hb189 : w200 (m + 83 + 3) = some (.inr (0, 13, .inl fa2)) := (heq200 (m + 83 + 3) (zx_X16_change_140)).trans hAa2
                    have hb190 : w200 (m + 83 + 4) = some (.inr (0, 13, .inl fb2)) := (heq200 (m + 83 + 4) (zx_X16_change_141)).trans hAb2
                    have hb191 : w200 (m + 83 + 5) = some (.inr (0, 13, .inl fc2)) := (heq200 (m + 83 + 5) (zx_X16_change_142)).trans hAc2
                    have hb192 : w200 (m + 83 + 6) = some (.inr (0, 13, .inl fe2)) := (heq200 (m + 83 + 6) (zx_X16_change_143)).trans hAe2
                    have hb193 : w200 (m + 83 + 7) = some (.inr (0, 175, .inl fr2)) := (heq200 (m + 83 + 7) (zx_X16_change_144)).trans hAr2
                    have hb194 : w200 (m + 83 + 8) = some (.inr (0, 361, .inl fu2)) := (heq200 (m + 83 + 8) (zx_X16_change_145)).trans hAu2
                    have hTi9 : zTi w200 (m + 83) 1 := ⟨_, _, _, _, _, _, _, _, _, hT200, hb187, hb188, hb189, hb190, hb191, hb192, hb193, hb194, ⟨rfl, hKn2, hKd2, ⟨zr1_1, zr1_1⟩, ⟨show 0 ≤ (0 : Int32).toInt by decide, show (0 : Int32).toInt ≤ 13 by decide⟩, fun i hi => absurd hi (Nat.not_lt_zero _), hKr2, hKu2, zKk_12 (Or.inl rfl) (hKk2.2.1 (hkk9.elim Or.inl (fun e => Or.inr (Or.inl e)))) (fun e => absurd e (by decide)) ⟨show (1 : Int32) ≠ 0 by decide, show (1 : Int32) ≠ 0 by decide⟩⟩⟩
                    have hb195 : zSlo w200 (m + 7486) := hSl0.ag (fun x hx1 hx2 => ((heq200 x (zx_X16_change_146 hx1 hx2)).trans ((heq131 x (zx_X16_change_44 hx1 hx2)).trans (heq26 x (zx_X16_change_1 hx1 hx2)))))
                    obtain ⟨kV, hkV⟩ := hb195 to.toNatClampNeg (by omega)
                    refine zp_seg (pc' := 206) (lv' := [(0, .ref m), (1, .int op), (3, .int v), (4, .int to), (5, .ref (m + 7486 + 9 * s9.toNatClampNeg))]) (st' := [.int to, .ref m]) [(203, .aload_n 0), (204, .iload 4)] (by decide +kernel) rfl ?_
                    have hb196 : w200 m = some (.inl (15, zMo m (zs (zs (zs g 1 Z9_26) 3 Z9_26) 16 Z9_26) r)) := (heq200 m (zx_X16_change_147)).trans hb186
                    have hb197 := hR_m.si ((hsi26.tr hsi131).tr hsi200)
                    refine zr_callV (idx := 558) (j := 338) (by decide +kernel) (by decide +kernel) (show zMe 338 = some zq_X16_keep from rfl) rfl rfl (Nat.le_of_ble_eq_true rfl) rfl rfl hb196 (Nat.le_of_ble_eq_true rfl) (Nat.le_of_ble_eq_true rfl) (c_X16_keep (w := w200) m to hb196 hb197 hTi9 hkV (by first | omega | decide | assumption | exact zr1_1 | exact zr1_0 | fail "num")) (by omega) (fun v206 w206 hp206 => ?_)
                    obtain ⟨hsi206, heq206, hp206_0, r206, rfl, hr206⟩ := hp206
                    have kr206 := zrng r206
                    show zP _ _ _ _ [.int r206] _ _ _ _ _
                    have hSl209 := hSl0.up (w' := w206) to.toNatClampNeg hp206_0 (fun x h1 h2 h3 => ((heq206 x (by omega)).trans ((heq200 x (by omega)).trans ((heq131 x (by omega)).trans (heq26 x (by omega))))))
                    have hb198 : w206 m = some (.inl (15, zMo m (zs (zs (zs g 1 Z9_26) 3 Z9_26) 16 Z9_26) r)) := (heq206 m (by omega)).trans hb196
                    have hoffend : ∀ x, (x < m + 0 ∨ m + 0 + 8322 ≤ x) → w206 x = w x := fun x hx => ((heq206 x (by omega)).trans ((heq200 x (zx_X16_change_148 hx)).trans ((heq131 x (zx_X16_change_32 hx)).trans (heq26 x (zx_X16_change_0 hx)))))
                    have hb199 := hb197.si hsi206
                    have hb200 : zTi w206 (m + 83) 1 := hTi9.ag (fun x hx1 hx2 => (heq206 x (by omega)))
                    have hb201 : zPil w206 (m + 6316) := hPl0.ag (fun x hx1 hx2 => ((heq206 x (by omega)).trans ((heq200 x (zx_X16_change_149 hx1 hx2)).trans ((heq131 x (zx_X16_change_56 hx1 hx2)).trans (heq26 x (zx_X16_change_3 hx1 hx2))))))
                    have hb202 : zBya w206 (m + 92) 4000 := hBo0.ag (fun x hx1 hx2 => ((heq206 x (by omega)).trans ((heq200 x (zx_X16_change_150 hx1 hx2)).trans ((heq131 x (zx_X16_change_68 hx1 hx2)).trans (heq26 x (zx_X16_change_4 hx1 hx2))))))
                    have hb203 : zBya w206 (m + 93) 4000 := hBl0.ag (fun x hx1 hx2 => ((heq206 x (by omega)).trans ((heq200 x (zx_X16_change_151 hx1 hx2)).trans ((heq131 x (zx_X16_change_80 hx1 hx2)).trans (heq26 x (zx_X16_change_5 hx1 hx2))))))
                    have hb204 : w206 (m + 94) = some (.inr (0, 60, .inl ff)) := ((heq206 (m + 94) (by omega)).trans ((heq200 (m + 94) (zx_X16_change_152)).trans ((heq131 (m + 94) (zx_X16_change_92)).trans (heq26 (m + 94) (zx_X16_change_6))))).trans hAf0
                    refine zr_retI (by decide +kernel) rfl ?_
                    rw [← hPost]; exact ⟨rfl, _, rfl, (((hsi26.tr hsi131).tr hsi200).tr hsi206), hoffend, ⟨_, _, hb198, hb199, hSl209, ⟨_, hb200⟩, hb201, ⟨_, hb204, hff⟩, hb202, hb203, hI12, hI24, hI29, hI31, hIn⟩, _, rfl, trivial⟩
                ·
                  replace cc137 := Classical.not_not.mp cc137
                  have f206 := zeqI cc137
                  rw [show (9 : Int32).toInt = 9 from by decide] at f206
                  refine zp_seg (pc' := 143) (lv' := [(0, .ref m), (1, .int op), (3, .int v), (4, .int to), (5, .ref (m + 7486 + 9 * s9.toNatClampNeg))]) (st' := [.int (Int32.ofInt (-12)), .int v]) [(140, .iload_n 3), (141, .bipush (-12))] (by decide +kernel) rfl ?_
                  refine zp_if (i := .if_icmp .lt 21) (c := v < (Int32.ofInt (-12))) (t := 164) (e := 146) (lv' := [(0, .ref m), (1, .int op), (3, .int v), (4, .int to), (5, .ref (m + 7486 + 9 * s9.toNatClampNeg))]) (st' := []) (by decide +kernel) rfl (fun cc143 => ?_) (fun cc143 => ?_)
                  ·
                    have f208 := zltI cc143
                    rw [show (Int32.ofInt (-12) : Int32).toInt = (-12) from by decide] at f208
                    refine zp_seg (pc' := 165) (lv' := [(0, .ref m), (1, .int op), (3, .int v), (4, .int to), (5, .ref (m + 7486 + 9 * s9.toNatClampNeg))]) (st' := [.int (Int32.ofInt (-1))]) [(164, .iconst (-1))] (by decide +kernel) rfl ?_
                    have hb209 : w131 m = some (.inl (15, zMo m (zs (zs (zs g 1 Z9_26) 3 Z9_26) 16 Z9_26) r)) := (heq131 m (zx_X16_change_7)).trans hM26
                    have hoffend : ∀ x, (x < m + 0 ∨ m + 0 + 8322 ≤ x) → w131 x = w x := fun x hx => ((heq131 x (zx_X16_change_32 hx)).trans (heq26 x (zx_X16_change_0 hx)))
                    have hb210 := hR_m.si (hsi26.tr hsi131)
                    have hb211 : zSlo w131 (m + 7486) := hSl0.ag (fun x hx1 hx2 => ((heq131 x (zx_X16_change_44 hx1 hx2)).trans (heq26 x (zx_X16_change_1 hx1 hx2))))
                    have hb212 : zPil w131 (m + 6316) := hPl0.ag (fun x hx1 hx2 => ((heq131 x (zx_X16_change_56 hx1 hx2)).trans (heq26 x (zx_X16_change_3 hx1 hx2))))
                    have hb213 : zBya w131 (m + 92) 4000 := hBo0.ag (fun x hx1 hx2 => ((heq131 x (zx_X16_change_68 hx1 hx2)).trans (heq26 x (zx_X16_change_4 hx1 hx2))))
                    have hb214 : zBya w131 (m + 93) 4000 := hBl0.ag (fun x hx1 hx2 => ((heq131 x (zx_X16_change_80 hx1 hx2)).trans (heq26 x (zx_X16_change_5 hx1 hx2))))
                    have hb215 : w131 (m + 94) = some (.inr (0, 60, .inl ff)) := ((heq131 (m + 94) (zx_X16_change_92)).trans (heq26 (m + 94) (zx_X16_change_6))).trans hAf0
                    refine zr_retI (by decide +kernel) rfl ?_
                    rw [← hPost]; exact ⟨rfl, _, rfl, (hsi26.tr hsi131), hoffend, ⟨_, _, hb209, hb210, hb211, ⟨_, hp131_0⟩, hb212, ⟨_, hb215, hff⟩, hb213, hb214, hI12, hI24, hI29, hI31, hIn⟩, _, rfl, trivial⟩
                  ·
                    have f218 := znltI cc143
                    rw [show (Int32.ofInt (-12) : Int32).toInt = (-12) from by decide] at f218
                    refine zp_seg (pc' := 149) (lv' := [(0, .ref m), (1, .int op), (3, .int v), (4, .int to), (5, .ref (m + 7486 + 9 * s9.toNatClampNeg))]) (st' := [.int 12, .int v]) [(146, .iload_n 3), (147, .bipush 12)] (by decide +kernel) rfl ?_
                    refine zp_if (i := .if_icmp .gt 15) (c := 12 < v) (t := 164) (e := 152) (lv' := [(0, .ref m), (1, .int op), (3, .int v), (4, .int to), (5, .ref (m + 7486 + 9 * s9.toNatClampNeg))]) (st' := []) (by decide +kernel) rfl (fun cc149 => ?_) (fun cc149 => ?_)
                    ·
                      have f220 := zltI cc149
                      rw [show (12 : Int32).toInt = 12 from by decide] at f220
                      refine zp_seg (pc' := 165) (lv' := [(0, .ref m), (1, .int op), (3, .int v), (4, .int to), (5, .ref (m + 7486 + 9 * s9.toNatClampNeg))]) (st' := [.int (Int32.ofInt (-1))]) [(164, .iconst (-1))] (by decide +kernel) rfl ?_
                      have hb221 : w131 m = some (.inl (15, zMo m (zs (zs (zs g 1 Z9_26) 3 Z9_26) 16 Z9_26) r)) := (heq131 m (zx_X16_change_7)).trans hM26
                      have hoffend : ∀ x, (x < m + 0 ∨ m + 0 + 8322 ≤ x) → w131 x = w x := fun x hx => ((heq131 x (zx_X16_change_32 hx)).trans (heq26 x (zx_X16_change_0 hx)))
                      have hb222 := hR_m.si (hsi26.tr hsi131)
                      have hb223 : zSlo w131 (m + 7486) := hSl0.ag (fun x hx1 hx2 => ((heq131 x (zx_X16_change_44 hx1 hx2)).trans (heq26 x (zx_X16_change_1 hx1 hx2))))
                      have hb224 : zPil w131 (m + 6316) := hPl0.ag (fun x hx1 hx2 => ((heq131 x (zx_X16_change_56 hx1 hx2)).trans (heq26 x (zx_X16_change_3 hx1 hx2))))
                      have hb225 : zBya w131 (m + 92) 4000 := hBo0.ag (fun x hx1 hx2 => ((heq131 x (zx_X16_change_68 hx1 hx2)).trans (heq26 x (zx_X16_change_4 hx1 hx2))))
                      have hb226 : zBya w131 (m + 93) 4000 := hBl0.ag (fun x hx1 hx2 => ((heq131 x (zx_X16_change_80 hx1 hx2)).trans (heq26 x (zx_X16_change_5 hx1 hx2))))
                      have hb227 : w131 (m + 94) = some (.inr (0, 60, .inl ff)) := ((heq131 (m + 94) (zx_X16_change_92)).trans (heq26 (m + 94) (zx_X16_change_6))).trans hAf0
                      refine zr_retI (by decide +kernel) rfl ?_
                      rw [← hPost]; exact ⟨rfl, _, rfl, (hsi26.tr hsi131), hoffend, ⟨_, _, hb221, hb222, hb223, ⟨_, hp131_0⟩, hb224, ⟨_, hb227, hff⟩, hb225, hb226, hI12, hI24, hI29, hI31, hIn⟩, _, rfl, trivial⟩
                    ·
                      have f230 := znltI cc149
                      rw [show (12 : Int32).toInt = 12 from by decide] at f230
                      refine zp_seg (pc' := 154) (lv' := [(0, .ref m), (1, .int op), (3, .int v), (4, .int to), (5, .ref (m + 7486 + 9 * s9.toNatClampNeg))]) (st' := [.ref (m + 7486 + 9 * s9.toNatClampNeg)]) [(152, .aload 5)] (by decide +kernel) rfl ?_
                      have hb231 : w131 (m + 7486 + 9 * s9.toNatClampNeg) = some (.inl (13, zTo (m + 7486 + 9 * s9.toNatClampNeg) g1)) := (heq131 (m + 7486 + 9 * s9.toNatClampNeg) (by omega)).trans hb27
                      have hb232 : w131 (m + 7486 + 9 * s9.toNatClampNeg + 1) = some (.inr (0, 325, .inl fn1)) := ((heq131 (m + 7486 + 9 * s9.toNatClampNeg + 1) (by omega)).trans (heq26 (m + 7486 + 9 * s9.toNatClampNeg + 1) (by omega))).trans hAn1
                      refine zr_callS (idx := 288) (j := 306) (by decide +kernel) (by decide +kernel) (by decide) (show zMe 306 = some zq_X16_isZero from rfl) rfl rfl (Nat.le_of_ble_eq_true rfl) rfl rfl (Nat.le_of_ble_eq_true rfl) (Nat.le_of_ble_eq_true rfl) (c_X16_isZero (w := w131) (m + 7486 + 9 * s9.toNatClampNeg) hb231 hb232 (by exact hKn1)) (by omega) (fun v154 w154 hp154 => ?_)
                      obtain ⟨hpw154, r154, rfl, hrb154, hr154⟩ := hp154
                      replace hpw154 := hpw154.symm
                      subst hpw154
                      have kr154 := zrng r154
                      show zP _ _ _ _ [.int r154] _ _ _ _ _
                      have hJ166 : ∀ (_ : True), zP (d + 1) zq_X16_change 166 [(0, .ref m), (3, .int v), (4, .int to)] [] w131 sz 0 0 Post := by
                        intro _
                        refine zp_seg (pc' := 168) (lv' := [(0, .ref m), (3, .int v), (4, .int to)]) (st' := [.ref m, .ref m]) [(166, .aload_n 0), (167, .aload_n 0)] (by decide +kernel) rfl ?_
                        have hb233 : w131 m = some (.inl (15, zMo m (zs (zs (zs g 1 Z9_26) 3 Z9_26) 16 Z9_26) r)) := (heq131 m (zx_X16_change_7)).trans hM26
                        refine zr_get (idx := 453) (k := 21) (v := .ref (m + 83)) (by decide +kernel) (by decide +kernel) hb233 rfl ?_
                        refine zp_seg (pc' := 172) (lv' := [(0, .ref m), (3, .int v), (4, .int to)]) (st' := [.int v, .ref (m + 83), .ref m]) [(171, .iload_n 3)] (by decide +kernel) rfl ?_
                        have hb234 := hR_m.si (hsi26.tr hsi131)
                        refine zr_callV (idx := 417) (j := 316) (by decide +kernel) (by decide +kernel) (show zMe 316 = some zq_X16_raise from rfl) rfl rfl (Nat.le_of_ble_eq_true rfl) rfl rfl hb233 (Nat.le_of_ble_eq_true rfl) (Nat.le_of_ble_eq_true rfl) (c_X16_raise (w := w131) (g1 := Z9_26) (g3 := Z9_26) m (m + 83) v hb233 hb234 hp131_0 (by first | omega | decide | assumption | exact zr1_1 | exact zr1_0 | fail "num") (by first | omega | decide | assumption | exact zr1_1 | exact zr1_0 | fail "num") (by first | omega | decide | assumption | exact zr1_1 | exact zr1_0 | fail "num") (by exact hkk9) (by first | omega | decide | assumption | exact zr1_1 | exact zr1_0 | fail "num") rfl rfl) (by omega) (fun v172 w172 hp172 => ?_)
                        obtain ⟨K9_172, hsi172, heq172, hp172_0, hp172_1, r172, rfl, hrb172, hr172⟩ := hp172
                        have kr172 := zrng r172
                        show zP _ _ _ _ [.int r172] _ _ _ _ _
                        refine zp_if (i := .ifCond .eq 12) (c := r172 = 0) (t := 187) (e := 178) (lv' := [(0, .ref m), (3, .int v), (4, .int to)]) (st' := []) (by decide +kernel) rfl (fun cc175 => ?_) (fun cc175 => ?_)
                        ·
                          have f235 := zeqI cc175
                          rw [show (0 : Int32).toInt = 0 from by decide] at f235
                          refine zp_seg (pc' := 189) (lv' := [(0, .ref m), (3, .int v), (4, .int to)]) (st' := [.int (Int32.ofInt (-2))]) [(187, .bipush (-2))] (by decide +kernel) rfl ?_
                          have hb236 : w172 m = some (.inl (15, zMo m (zs (zs (zs g 1 Z9_26) 3 Z9_26) 16 Z9_26) r)) := (heq172 m ⟨(zx_X16_change_7), (zx_X16_change_122 hgzZ9_26_0), (zx_X16_change_153 hgzZ9_26_0)⟩).trans hb233
                          have hoffend : ∀ x, (x < m + 0 ∨ m + 0 + 8322 ≤ x) → w172 x = w x := fun x hx => ((heq172 x ⟨(zx_X16_change_32 hx), (zx_X16_change_130 hx hgzZ9_26_0), (zx_X16_change_154 hx hgzZ9_26_0)⟩).trans ((heq131 x (zx_X16_change_32 hx)).trans (heq26 x (zx_X16_change_0 hx))))
                          have hb237 := hb234.si hsi172
                          have hb238 : zSlo w172 (m + 7486) := hSl0.ag (fun x hx1 hx2 => ((heq172 x ⟨(zx_X16_change_44 hx1 hx2), (zx_X16_change_131 hx1 hx2 hgzZ9_26_0), (zx_X16_change_155 hx1 hx2 hgzZ9_26_0)⟩).trans ((heq131 x (zx_X16_change_44 hx1 hx2)).trans (heq26 x (zx_X16_change_1 hx1 hx2)))))
                          have hb239 : zPil w172 (m + 6316) := hPl0.ag (fun x hx1 hx2 => ((heq172 x ⟨(zx_X16_change_56 hx1 hx2), (zx_X16_change_133 hx1 hx2 hgzZ9_26_0), (zx_X16_change_156 hx1 hx2 hgzZ9_26_0)⟩).trans ((heq131 x (zx_X16_change_56 hx1 hx2)).trans (heq26 x (zx_X16_change_3 hx1 hx2)))))
                          have hb240 : zBya w172 (m + 92) 4000 := hBo0.ag (fun x hx1 hx2 => ((heq172 x ⟨(zx_X16_change_68 hx1 hx2), (zx_X16_change_134 hx1 hx2 hgzZ9_26_0), (zx_X16_change_157 hx1 hx2 hgzZ9_26_0)⟩).trans ((heq131 x (zx_X16_change_68 hx1 hx2)).trans (heq26 x (zx_X16_change_4 hx1 hx2)))))
                          have hb241 : zBya w172 (m + 93) 4000 := hBl0.ag (fun x hx1 hx2 => ((heq172 x ⟨(zx_X16_change_80 hx1 hx2), (zx_X16_change_135 hx1 hx2 hgzZ9_26_0), (zx_X16_change_158 hx1 hx2 hgzZ9_26_0)⟩).trans ((heq131 x (zx_X16_change_80 hx1 hx2)).trans (heq26 x (zx_X16_change_5 hx1 hx2)))))
                          have hb242 : w172 (m + 94) = some (.inr (0, 60, .inl ff)) := ((heq172 (m + 94) ⟨(zx_X16_change_92), (zx_X16_change_136 hgzZ9_26_0), (zx_X16_change_159 hgzZ9_26_0)⟩).trans ((heq131 (m + 94) (zx_X16_change_92)).trans (heq26 (m + 94) (zx_X16_change_6)))).trans hAf0
                          refine zr_retI (by decide +kernel) rfl ?_
                          rw [← hPost]; exact ⟨rfl, _, rfl, ((hsi26.tr hsi131).tr hsi172), hoffend, ⟨_, _, hb236, hb237, hb238, ⟨_, hp172_0⟩, hb239, ⟨_, hb242, hff⟩, hb240, hb241, hI12, hI24, hI29, hI31, hIn⟩, _, rfl, trivial⟩
                        ·
                          have f244 := zneI cc175
                          rw [show (0 : Int32).toInt = 0 from by decide] at f244
                          have hb245 : zSlo w172 (m + 7486) := hSl0.ag (fun x hx1 hx2 => ((heq172 x ⟨(zx_X16_change_44 hx1 hx2), (zx_X16_change_131 hx1 hx2 hgzZ9_26_0), (zx_X16_change_155 hx1 hx2 hgzZ9_26_0)⟩).trans ((heq131 x (zx_X16_change_44 hx1 hx2)).trans (heq26 x (zx_X16_change_1 hx1 hx2)))))
                          obtain ⟨kU, hkU⟩ := hb245 to.toNatClampNeg (by omega)
                          refine zp_seg (pc' := 181) (lv' := [(0, .ref m), (3, .int v), (4, .int to)]) (st' := [.int to, .ref m]) [(178, .aload_n 0), (179, .iload 4)] (by decide +kernel) rfl ?_
                          have hb246 : w172 m = some (.inl (15, zMo m (zs (zs (zs g 1 Z9_26) 3 Z9_26) 16 Z9_26) r)) := (heq172 m ⟨(zx_X16_change_7), (zx_X16_change_122 hgzZ9_26_0), (zx_X16_change_153 hgzZ9_26_0)⟩).trans hb233
                          have hb247 := hb234.si hsi172
                          refine zr_callV (idx := 558) (j := 338) (by decide +kernel) (by decide +kernel) (show zMe 338 = some zq_X16_keep from rfl) rfl rfl (Nat.le_of_ble_eq_true rfl) rfl rfl hb246 (Nat.le_of_ble_eq_true rfl) (Nat.le_of_ble_eq_true rfl) (c_X16_keep (w := w172) m to hb246 hb247 hp172_0 hkU (by first | omega | decide | assumption | exact zr1_1 | exact zr1_0 | fail "num")) (by omega) (fun v181 w181 hp181 => ?_)
                          obtain ⟨hsi181, heq181, hp181_0, r181, rfl, hr181⟩ := hp181
                          have kr181 := zrng r181
                          show zP _ _ _ _ [.int r181] _ _ _ _ _
                          refine zp_seg (pc' := 189) (lv' := [(0, .ref m), (3, .int v), (4, .int to)]) (st' := [.int r181]) [(184, .goto 5)] (by decide +kernel) rfl ?_
                          have hSl189 := hSl0.up (w' := w181) to.toNatClampNeg hp181_0 (fun x h1 h2 h3 => ((heq181 x (by omega)).trans ((heq172 x (by omega)).trans ((heq131 x (by omega)).trans (heq26 x (by omega))))))
                          have hb248 : w181 m = some (.inl (15, zMo m (zs (zs (zs g 1 Z9_26) 3 Z9_26) 16 Z9_26) r)) := (heq181 m (by omega)).trans hb246
                          have hoffend : ∀ x, (x < m + 0 ∨ m + 0 + 8322 ≤ x) → w181 x = w x := fun x hx => ((heq181 x (by omega)).trans ((heq172 x ⟨(zx_X16_change_32 hx), (zx_X16_change_130 hx hgzZ9_26_0), (zx_X16_change_154 hx hgzZ9_26_0)⟩).trans ((heq131 x (zx_X16_change_32 hx)).trans (heq26 x (zx_X16_change_0 hx)))))
                          have hb249 := hb247.si hsi181
                          have hb250 : zTi w181 (m + 83) K9_172 := hp172_0.ag (fun x hx1 hx2 => (heq181 x (by omega)))
                          have hb251 : zPil w181 (m + 6316) := hPl0.ag (fun x hx1 hx2 => ((heq181 x (by omega)).trans ((heq172 x ⟨(zx_X16_change_56 hx1 hx2), (zx_X16_change_133 hx1 hx2 hgzZ9_26_0), (zx_X16_change_156 hx1 hx2 hgzZ9_26_0)⟩).trans ((heq131 x (zx_X16_change_56 hx1 hx2)).trans (heq26 x (zx_X16_change_3 hx1 hx2))))))
                          have hb252 : zBya w181 (m + 92) 4000 := hBo0.ag (fun x hx1 hx2 => ((heq181 x (by omega)).trans ((heq172 x ⟨(zx_X16_change_68 hx1 hx2), (zx_X16_change_134 hx1 hx2 hgzZ9_26_0), (zx_X16_change_157 hx1 hx2 hgzZ9_26_0)⟩).trans ((heq131 x (zx_X16_change_68 hx1 hx2)).trans (heq26 x (zx_X16_change_4 hx1 hx2))))))
                          have hb253 : zBya w181 (m + 93) 4000 := hBl0.ag (fun x hx1 hx2 => ((heq181 x (by omega)).trans ((heq172 x ⟨(zx_X16_change_80 hx1 hx2), (zx_X16_change_135 hx1 hx2 hgzZ9_26_0), (zx_X16_change_158 hx1 hx2 hgzZ9_26_0)⟩).trans ((heq131 x (zx_X16_change_80 hx1 hx2)).trans (heq26 x (zx_X16_change_5 hx1 hx2))))))
                          have hb254 : w181 (m + 94) = some (.inr (0, 60, .inl ff)) := ((heq181 (m + 94) (by omega)).trans ((heq172 (m + 94) ⟨(zx_X16_change_92), (zx_X16_change_136 hgzZ9_26_0), (zx_X16_change_159 hgzZ9_26_0)⟩).trans ((heq131 (m + 94) (zx_X16_change_92)).trans (heq26 (m + 94) (zx_X16_change_6))))).trans hAf0
                          refine zr_retI (by decide +kernel) rfl ?_
                          rw [← hPost]; exact ⟨rfl, _, rfl, (((hsi26.tr hsi131).tr hsi172).tr hsi181), hoffend, ⟨_, _, hb248, hb249, hSl189, ⟨_, hb250⟩, hb251, ⟨_, hb254, hff⟩, hb252, hb253, hI12, hI24, hI29, hI31, hIn⟩, _, rfl, trivial⟩
                      refine zp_if (i := .ifCond .eq 9) (c := r154 = 0) (t := 166) (e := 160) (lv' := [(0, .ref m), (1, .int op), (3, .int v), (4, .int to), (5, .ref (m + 7486 + 9 * s9.toNatClampNeg))]) (st' := []) (by decide +kernel) rfl (fun cc157 => ?_) (fun cc157 => ?_)
                      ·
                        have f255 := zeqI cc157
                        rw [show (0 : Int32).toInt = 0 from by decide] at f255
                        exact (hJ166 trivial ).more (zfa1 rfl (zfa1 rfl (zfa1 rfl (zfa0))))
                      ·
                        have f256 := zneI cc157
                        rw [show (0 : Int32).toInt = 0 from by decide] at f256
                        refine zp_seg (pc' := 161) (lv' := [(0, .ref m), (1, .int op), (3, .int v), (4, .int to), (5, .ref (m + 7486 + 9 * s9.toNatClampNeg))]) (st' := [.int v]) [(160, .iload_n 3)] (by decide +kernel) rfl ?_
                        refine zp_if (i := .ifCond .ge 5) (c := 0 ≤ v) (t := 166) (e := 164) (lv' := [(0, .ref m), (1, .int op), (3, .int v), (4, .int to), (5, .ref (m + 7486 + 9 * s9.toNatClampNeg))]) (st' := []) (by decide +kernel) rfl (fun cc161 => ?_) (fun cc161 => ?_)
                        ·
                          have f257 := zleI cc161
                          rw [show (0 : Int32).toInt = 0 from by decide] at f257
                          exact (hJ166 trivial ).more (zfa1 rfl (zfa1 rfl (zfa1 rfl (zfa0))))
                        ·
                          have f258 := znleI cc161
                          rw [show (0 : Int32).toInt = 0 from by decide] at f258
                          refine zp_seg (pc' := 165) (lv' := [(0, .ref m), (1, .int op), (3, .int v), (4, .int to), (5, .ref (m + 7486 + 9 * s9.toNatClampNeg))]) (st' := [.int (Int32.ofInt (-1))]) [(164, .iconst (-1))] (by decide +kernel) rfl ?_
                          have hb259 : w131 m = some (.inl (15, zMo m (zs (zs (zs g 1 Z9_26) 3 Z9_26) 16 Z9_26) r)) := (heq131 m (zx_X16_change_7)).trans hM26
                          have hoffend : ∀ x, (x < m + 0 ∨ m + 0 + 8322 ≤ x) → w131 x = w x := fun x hx => ((heq131 x (zx_X16_change_32 hx)).trans (heq26 x (zx_X16_change_0 hx)))
                          have hb260 := hR_m.si (hsi26.tr hsi131)
                          have hb261 : zSlo w131 (m + 7486) := hSl0.ag (fun x hx1 hx2 => ((heq131 x (zx_X16_change_44 hx1 hx2)).trans (heq26 x (zx_X16_change_1 hx1 hx2))))
                          have hb262 : zPil w131 (m + 6316) := hPl0.ag (fun x hx1 hx2 => ((heq131 x (zx_X16_change_56 hx1 hx2)).trans (heq26 x (zx_X16_change_3 hx1 hx2))))
                          have hb263 : zBya w131 (m + 92) 4000 := hBo0.ag (fun x hx1 hx2 => ((heq131 x (zx_X16_change_68 hx1 hx2)).trans (heq26 x (zx_X16_change_4 hx1 hx2))))
                          have hb264 : zBya w131 (m + 93) 4000 := hBl0.ag (fun x hx1 hx2 => ((heq131 x (zx_X16_change_80 hx1 hx2)).trans (heq26 x (zx_X16_change_5 hx1 hx2))))
                          have hb265 : w131 (m + 94) = some (.inr (0, 60, .inl ff)) := ((heq131 (m + 94) (zx_X16_change_92)).trans (heq26 (m + 94) (zx_X16_change_6))).trans hAf0
                          refine zr_retI (by decide +kernel) rfl ?_
                          rw [← hPost]; exact ⟨rfl, _, rfl, (hsi26.tr hsi131), hoffend, ⟨_, _, hb259, hb260, hb261, ⟨_, hp131_0⟩, hb262, ⟨_, hb265, hff⟩, hb263, hb264, hI12, hI24, hI29, hI31, hIn⟩, _, rfl, trivial⟩
              refine zp_if (i := .if_icmp .ne 23) (c := ¬ (g1 0) = 2) (t := 116) (e := 96) (lv' := [(0, .ref m), (1, .int op), (3, .int v), (4, .int to), (5, .ref (m + 7486 + 9 * s9.toNatClampNeg))]) (st' := []) (by decide +kernel) rfl (fun cc93 => ?_) (fun cc93 => ?_)
              ·
                have k267 := zrng (g1 0)
                have f269 := zneI cc93
                rw [show (2 : Int32).toInt = 2 from by decide] at f269
                refine zp_seg (pc' := 119) (lv' := [(0, .ref m), (1, .int op), (3, .int v), (4, .int to), (5, .ref (m + 7486 + 9 * s9.toNatClampNeg))]) (st' := [.int 11, .int op]) [(116, .iload_n 1), (117, .bipush 11)] (by decide +kernel) rfl ?_
                refine zp_if (i := .if_icmp .ne 6) (c := ¬ op = 11) (t := 125) (e := 122) (lv' := [(0, .ref m), (1, .int op), (3, .int v), (4, .int to), (5, .ref (m + 7486 + 9 * s9.toNatClampNeg))]) (st' := []) (by decide +kernel) rfl (fun cc119 => ?_) (fun cc119 => ?_)
                ·
                  have f270 := zneI cc119
                  rw [show (11 : Int32).toInt = 11 from by decide] at f270
                  exact (hJ125 trivial (by
                        first | exact fun _ => Or.inl (by omega) | exact fun _ => Or.inr (Or.inl (by omega)) | exact fun _ => Or.inr (Or.inr (by omega)) | exact fun e => absurd (hK10.trans e) cc93)).more (zfa1 rfl (zfa1 rfl (zfa1 rfl (zfa1 rfl (zfa1 rfl (zfa0))))))
                ·
                  replace cc119 := Classical.not_not.mp cc119
                  have f271 := zeqI cc119
                  rw [show (11 : Int32).toInt = 11 from by decide] at f271
                  refine zp_seg (pc' := 124) (lv' := [(0, .ref m), (1, .int op), (3, .int v), (4, .int to), (5, .ref (m + 7486 + 9 * s9.toNatClampNeg))]) (st' := [.int (Int32.ofInt (-3))]) [(122, .bipush (-3))] (by decide +kernel) rfl ?_
                  have hoffend : ∀ x, (x < m + 0 ∨ m + 0 + 8322 ≤ x) → w26 x = w x := fun x hx => (heq26 x (zx_X16_change_0 hx))
                  have hb272 := hR_m.si hsi26
                  have hb273 : zSlo w26 (m + 7486) := hSl0.ag (fun x hx1 hx2 => (heq26 x (zx_X16_change_1 hx1 hx2)))
                  have hb274 : zTi w26 (m + 83) kM := hMd0.ag (fun x hx1 hx2 => (heq26 x (zx_X16_change_2 hx1 hx2)))
                  have hb275 : zPil w26 (m + 6316) := hPl0.ag (fun x hx1 hx2 => (heq26 x (zx_X16_change_3 hx1 hx2)))
                  have hb276 : zBya w26 (m + 92) 4000 := hBo0.ag (fun x hx1 hx2 => (heq26 x (zx_X16_change_4 hx1 hx2)))
                  have hb277 : zBya w26 (m + 93) 4000 := hBl0.ag (fun x hx1 hx2 => (heq26 x (zx_X16_change_5 hx1 hx2)))
                  have hb278 : w26 (m + 94) = some (.inr (0, 60, .inl ff)) := (heq26 (m + 94) (zx_X16_change_6)).trans hAf0
                  refine zr_retI (by decide +kernel) rfl ?_
                  rw [← hPost]; exact ⟨rfl, _, rfl, hsi26, hoffend, ⟨_, _, hM26, hb272, hb273, ⟨_, hb274⟩, hb275, ⟨_, hb278, hff⟩, hb276, hb277, hI12, hI24, hI29, hI31, hIn⟩, _, rfl, trivial⟩
              ·
                replace cc93 := Classical.not_not.mp cc93
                have k280 := zrng (g1 0)
                have f282 := zeqI cc93
                rw [show (2 : Int32).toInt = 2 from by decide] at f282
                refine zp_seg (pc' := 98) (lv' := [(0, .ref m), (1, .int op), (3, .int v), (4, .int to), (5, .ref (m + 7486 + 9 * s9.toNatClampNeg))]) (st' := [.int 1, .int op]) [(96, .iload_n 1), (97, .iconst 1)] (by decide +kernel) rfl ?_
                refine zp_if (i := .if_icmp .le 27) (c := op ≤ 1) (t := 125) (e := 101) (lv' := [(0, .ref m), (1, .int op), (3, .int v), (4, .int to), (5, .ref (m + 7486 + 9 * s9.toNatClampNeg))]) (st' := []) (by decide +kernel) rfl (fun cc98 => ?_) (fun cc98 => ?_)
                ·
                  have f284 := zleI cc98
                  rw [show (1 : Int32).toInt = 1 from by decide] at f284
                  exact (hJ125 trivial (by
                        first | exact fun _ => Or.inl (by omega) | exact fun _ => Or.inr (Or.inl (by omega)) | exact fun _ => Or.inr (Or.inr (by omega)) | exact fun e => absurd (hK10.trans e) cc93)).more (zfa1 rfl (zfa1 rfl (zfa1 rfl (zfa1 rfl (zfa1 rfl (zfa0))))))
                ·
                  have f286 := znleI cc98
                  rw [show (1 : Int32).toInt = 1 from by decide] at f286
                  refine zp_seg (pc' := 104) (lv' := [(0, .ref m), (1, .int op), (3, .int v), (4, .int to), (5, .ref (m + 7486 + 9 * s9.toNatClampNeg))]) (st' := [.int 9, .int op]) [(101, .iload_n 1), (102, .bipush 9)] (by decide +kernel) rfl ?_
                  refine zp_if (i := .if_icmp .eq 21) (c := op = 9) (t := 125) (e := 107) (lv' := [(0, .ref m), (1, .int op), (3, .int v), (4, .int to), (5, .ref (m + 7486 + 9 * s9.toNatClampNeg))]) (st' := []) (by decide +kernel) rfl (fun cc104 => ?_) (fun cc104 => ?_)
                  ·
                    have f288 := zeqI cc104
                    rw [show (9 : Int32).toInt = 9 from by decide] at f288
                    exact (hJ125 trivial (by
                          first | exact fun _ => Or.inl (by omega) | exact fun _ => Or.inr (Or.inl (by omega)) | exact fun _ => Or.inr (Or.inr (by omega)) | exact fun e => absurd (hK10.trans e) cc93)).more (zfa1 rfl (zfa1 rfl (zfa1 rfl (zfa1 rfl (zfa1 rfl (zfa0))))))
                  ·
                    have f290 := zneI cc104
                    rw [show (9 : Int32).toInt = 9 from by decide] at f290
                    refine zp_seg (pc' := 110) (lv' := [(0, .ref m), (1, .int op), (3, .int v), (4, .int to), (5, .ref (m + 7486 + 9 * s9.toNatClampNeg))]) (st' := [.int 11, .int op]) [(107, .iload_n 1), (108, .bipush 11)] (by decide +kernel) rfl ?_
                    refine zp_if (i := .if_icmp .eq 15) (c := op = 11) (t := 125) (e := 113) (lv' := [(0, .ref m), (1, .int op), (3, .int v), (4, .int to), (5, .ref (m + 7486 + 9 * s9.toNatClampNeg))]) (st' := []) (by decide +kernel) rfl (fun cc110 => ?_) (fun cc110 => ?_)
                    ·
                      have f291 := zeqI cc110
                      rw [show (11 : Int32).toInt = 11 from by decide] at f291
                      exact (hJ125 trivial (by
                            first | exact fun _ => Or.inl (by omega) | exact fun _ => Or.inr (Or.inl (by omega)) | exact fun _ => Or.inr (Or.inr (by omega)) | exact fun e => absurd (hK10.trans e) cc93)).more (zfa1 rfl (zfa1 rfl (zfa1 rfl (zfa1 rfl (zfa1 rfl (zfa0))))))
                    ·
                      have f292 := zneI cc110
                      rw [show (11 : Int32).toInt = 11 from by decide] at f292
                      refine zp_seg (pc' := 124) (lv' := [(0, .ref m), (1, .int op), (3, .int v), (4, .int to), (5, .ref (m + 7486 + 9 * s9.toNatClampNeg))]) (st' := [.int (Int32.ofInt (-3))]) [(113, .goto 9), (122, .bipush (-3))] (by decide +kernel) rfl ?_
                      have hoffend : ∀ x, (x < m + 0 ∨ m + 0 + 8322 ≤ x) → w26 x = w x := fun x hx => (heq26 x (zx_X16_change_0 hx))
                      have hb293 := hR_m.si hsi26
                      have hb294 : zSlo w26 (m + 7486) := hSl0.ag (fun x hx1 hx2 => (heq26 x (zx_X16_change_1 hx1 hx2)))
                      have hb295 : zTi w26 (m + 83) kM := hMd0.ag (fun x hx1 hx2 => (heq26 x (zx_X16_change_2 hx1 hx2)))
                      have hb296 : zPil w26 (m + 6316) := hPl0.ag (fun x hx1 hx2 => (heq26 x (zx_X16_change_3 hx1 hx2)))
                      have hb297 : zBya w26 (m + 92) 4000 := hBo0.ag (fun x hx1 hx2 => (heq26 x (zx_X16_change_4 hx1 hx2)))
                      have hb298 : zBya w26 (m + 93) 4000 := hBl0.ag (fun x hx1 hx2 => (heq26 x (zx_X16_change_5 hx1 hx2)))
                      have hb299 : w26 (m + 94) = some (.inr (0, 60, .inl ff)) := (heq26 (m + 94) (zx_X16_change_6)).trans hAf0
                      refine zr_retI (by decide +kernel) rfl ?_
                      rw [← hPost]; exact ⟨rfl, _, rfl, hsi26, hoffend, ⟨_, _, hM26, hb293, hb294, ⟨_, hb295⟩, hb296, ⟨_, hb299, hff⟩, hb297, hb298, hI12, hI24, hI29, hI31, hIn⟩, _, rfl, trivial⟩
            ·
              have f302 := znleI cc82
              rw [show (11 : Int32).toInt = 11 from by decide] at f302
              refine zp_seg (pc' := 86) (lv' := [(0, .ref m), (1, .int op), (3, .int v), (4, .int to), (5, .ref (m + 7486 + 9 * s9.toNatClampNeg))]) (st' := [.int (Int32.ofInt (-1))]) [(85, .iconst (-1))] (by decide +kernel) rfl ?_
              have hoffend : ∀ x, (x < m + 0 ∨ m + 0 + 8322 ≤ x) → w26 x = w x := fun x hx => (heq26 x (zx_X16_change_0 hx))
              have hb303 := hR_m.si hsi26
              have hb304 : zSlo w26 (m + 7486) := hSl0.ag (fun x hx1 hx2 => (heq26 x (zx_X16_change_1 hx1 hx2)))
              have hb305 : zTi w26 (m + 83) kM := hMd0.ag (fun x hx1 hx2 => (heq26 x (zx_X16_change_2 hx1 hx2)))
              have hb306 : zPil w26 (m + 6316) := hPl0.ag (fun x hx1 hx2 => (heq26 x (zx_X16_change_3 hx1 hx2)))
              have hb307 : zBya w26 (m + 92) 4000 := hBo0.ag (fun x hx1 hx2 => (heq26 x (zx_X16_change_4 hx1 hx2)))
              have hb308 : zBya w26 (m + 93) 4000 := hBl0.ag (fun x hx1 hx2 => (heq26 x (zx_X16_change_5 hx1 hx2)))
              have hb309 : w26 (m + 94) = some (.inr (0, 60, .inl ff)) := (heq26 (m + 94) (zx_X16_change_6)).trans hAf0
              refine zr_retI (by decide +kernel) rfl ?_
              rw [← hPost]; exact ⟨rfl, _, rfl, hsi26, hoffend, ⟨_, _, hM26, hb303, hb304, ⟨_, hb305⟩, hb306, ⟨_, hb309, hff⟩, hb307, hb308, hI12, hI24, hI29, hI31, hIn⟩, _, rfl, trivial⟩
        refine zp_if (i := .if_icmp .eq 15) (c := (g1 0) = 1) (t := 75) (e := 63) (lv' := [(5, .ref (m + 7486 + 9 * s9.toNatClampNeg)), (0, .ref m), (1, .int op), (2, .int s9), (3, .int v), (4, .int to)]) (st' := []) (by decide +kernel) rfl (fun cc60 => ?_) (fun cc60 => ?_)
        ·
          have k311 := zrng (g1 0)
          have f313 := zeqI cc60
          rw [show (1 : Int32).toInt = 1 from by decide] at f313
          exact (hJ75 trivial (by
                first | exact Or.inl (hK10.symm.trans cc60) | exact Or.inr (hK10.symm.trans cc69))).more (zfa1 rfl (zfa1 rfl (zfa1 rfl (zfa1 rfl (zfa1 rfl (zfa0))))))
        ·
          have k314 := zrng (g1 0)
          have f316 := zneI cc60
          rw [show (1 : Int32).toInt = 1 from by decide] at f316
          refine zp_seg (pc' := 65) (lv' := [(5, .ref (m + 7486 + 9 * s9.toNatClampNeg)), (0, .ref m), (1, .int op), (2, .int s9), (3, .int v), (4, .int to)]) (st' := [.ref (m + 7486 + 9 * s9.toNatClampNeg)]) [(63, .aload 5)] (by decide +kernel) rfl ?_
          refine zr_get (idx := 202) (k := 0) (v := .int (g1 0)) (by decide +kernel) (by decide +kernel) hb27 rfl ?_
          refine zp_seg (pc' := 69) (lv' := [(5, .ref (m + 7486 + 9 * s9.toNatClampNeg)), (0, .ref m), (1, .int op), (2, .int s9), (3, .int v), (4, .int to)]) (st' := [.int 2, .int (g1 0)]) [(68, .iconst 2)] (by decide +kernel) rfl ?_
          refine zp_if (i := .if_icmp .eq 6) (c := (g1 0) = 2) (t := 75) (e := 72) (lv' := [(5, .ref (m + 7486 + 9 * s9.toNatClampNeg)), (0, .ref m), (1, .int op), (2, .int s9), (3, .int v), (4, .int to)]) (st' := []) (by decide +kernel) rfl (fun cc69 => ?_) (fun cc69 => ?_)
          ·
            have f318 := zeqI cc69
            rw [show (2 : Int32).toInt = 2 from by decide] at f318
            exact (hJ75 trivial (by
                  first | exact Or.inl (hK10.symm.trans cc60) | exact Or.inr (hK10.symm.trans cc69))).more (zfa1 rfl (zfa1 rfl (zfa1 rfl (zfa1 rfl (zfa1 rfl (zfa0))))))
          ·
            have f320 := zneI cc69
            rw [show (2 : Int32).toInt = 2 from by decide] at f320
            refine zp_seg (pc' := 74) (lv' := [(5, .ref (m + 7486 + 9 * s9.toNatClampNeg)), (0, .ref m), (1, .int op), (2, .int s9), (3, .int v), (4, .int to)]) (st' := [.int (Int32.ofInt (-3))]) [(72, .bipush (-3))] (by decide +kernel) rfl ?_
            have hoffend : ∀ x, (x < m + 0 ∨ m + 0 + 8322 ≤ x) → w26 x = w x := fun x hx => (heq26 x (zx_X16_change_0 hx))
            have hb321 := hR_m.si hsi26
            have hb322 : zSlo w26 (m + 7486) := hSl0.ag (fun x hx1 hx2 => (heq26 x (zx_X16_change_1 hx1 hx2)))
            have hb323 : zTi w26 (m + 83) kM := hMd0.ag (fun x hx1 hx2 => (heq26 x (zx_X16_change_2 hx1 hx2)))
            have hb324 : zPil w26 (m + 6316) := hPl0.ag (fun x hx1 hx2 => (heq26 x (zx_X16_change_3 hx1 hx2)))
            have hb325 : zBya w26 (m + 92) 4000 := hBo0.ag (fun x hx1 hx2 => (heq26 x (zx_X16_change_4 hx1 hx2)))
            have hb326 : zBya w26 (m + 93) 4000 := hBl0.ag (fun x hx1 hx2 => (heq26 x (zx_X16_change_5 hx1 hx2)))
            have hb327 : w26 (m + 94) = some (.inr (0, 60, .inl ff)) := (heq26 (m + 94) (zx_X16_change_6)).trans hAf0
            refine zr_retI (by decide +kernel) rfl ?_
            rw [← hPost]; exact ⟨rfl, _, rfl, hsi26, hoffend, ⟨_, _, hM26, hb321, hb322, ⟨_, hb323⟩, hb324, ⟨_, hb327, hff⟩, hb325, hb326, hI12, hI24, hI29, hI31, hIn⟩, _, rfl, trivial⟩
      ·
        replace cc32 := Classical.not_not.mp cc32
        have f330 := zeqI cc32
        rw [show (10 : Int32).toInt = 10 from by decide] at f330
        refine zp_seg (pc' := 37) (lv' := [(5, .ref (m + 7486 + 9 * s9.toNatClampNeg)), (0, .ref m), (1, .int op), (2, .int s9), (3, .int v), (4, .int to)]) (st' := [.ref m, .ref m]) [(35, .aload_n 0), (36, .aload_n 0)] (by decide +kernel) rfl ?_
        refine zr_get (idx := 453) (k := 21) (v := .ref (m + 83)) (by decide +kernel) (by decide +kernel) hM26 rfl ?_
        refine zp_seg (pc' := 41) (lv' := [(5, .ref (m + 7486 + 9 * s9.toNatClampNeg)), (0, .ref m), (1, .int op), (2, .int s9), (3, .int v), (4, .int to)]) (st' := [.int v, .ref (m + 83), .ref m]) [(40, .iload_n 3)] (by decide +kernel) rfl ?_
        refine zr_callS (idx := 600) (j := 260) (by decide +kernel) (by decide +kernel) (by decide) (show zMe 260 = some zq_X16_rest from rfl) rfl rfl (Nat.le_of_ble_eq_true rfl) rfl rfl (Nat.le_of_ble_eq_true rfl) (Nat.le_of_ble_eq_true rfl) (c_X16_rest (w := w26) v ) (by omega) (fun v41 w41 hp41 => ?_)
        obtain ⟨hpw41, r41, rfl, hr41⟩ := hp41
        replace hpw41 := hpw41.symm
        subst hpw41
        have kr41 := zrng r41
        show zP _ _ _ _ [.int r41, .ref (m + 83), .ref m] _ _ _ _ _
        have hb331 := hR_m.si hsi26
        have hb332 : zTi w26 (m + 83) kM := hMd0.ag (fun x hx1 hx2 => (heq26 x (zx_X16_change_2 hx1 hx2)))
        refine zr_callV (idx := 292) (j := 305) (by decide +kernel) (by decide +kernel) (show zMe 305 = some zq_X16_number from rfl) rfl rfl (Nat.le_of_ble_eq_true rfl) rfl rfl hM26 (Nat.le_of_ble_eq_true rfl) (Nat.le_of_ble_eq_true rfl) (c_X16_number (w := w26) (g3 := Z9_26) m (m + 83) r41 hM26 hb331 hb332 (by first | omega | decide | assumption | exact zr1_1 | exact zr1_0 | fail "num") (by exact hr41.1) (by first | omega | decide | assumption | exact zr1_1 | exact zr1_0 | fail "num") rfl) (by omega) (fun v44 w44 hp44 => ?_)
        obtain ⟨hsi44, heq44, hp44_0, rfl⟩ := hp44
        show zP _ _ _ _ [] _ _ _ _ _
        have hb333 : zSlo w44 (m + 7486) := hSl0.ag (fun x hx1 hx2 => ((heq44 x ⟨(zx_X16_change_44 hx1 hx2), (zx_X16_change_155 hx1 hx2 hgzZ9_26_0)⟩).trans (heq26 x (zx_X16_change_1 hx1 hx2))))
        obtain ⟨kT, hkT⟩ := hb333 to.toNatClampNeg (by omega)
        refine zp_seg (pc' := 50) (lv' := [(5, .ref (m + 7486 + 9 * s9.toNatClampNeg)), (0, .ref m), (1, .int op), (2, .int s9), (3, .int v), (4, .int to)]) (st' := [.int to, .ref m]) [(47, .aload_n 0), (48, .iload 4)] (by decide +kernel) rfl ?_
        have hb334 : w44 m = some (.inl (15, zMo m (zs (zs (zs g 1 Z9_26) 3 Z9_26) 16 Z9_26) r)) := (heq44 m ⟨(zx_X16_change_7), (zx_X16_change_153 hgzZ9_26_0)⟩).trans hM26
        have hb335 := hb331.si hsi44
        refine zr_callV (idx := 558) (j := 338) (by decide +kernel) (by decide +kernel) (show zMe 338 = some zq_X16_keep from rfl) rfl rfl (Nat.le_of_ble_eq_true rfl) rfl rfl hb334 (Nat.le_of_ble_eq_true rfl) (Nat.le_of_ble_eq_true rfl) (c_X16_keep (w := w44) m to hb334 hb335 hp44_0 hkT (by first | omega | decide | assumption | exact zr1_1 | exact zr1_0 | fail "num")) (by omega) (fun v50 w50 hp50 => ?_)
        obtain ⟨hsi50, heq50, hp50_0, r50, rfl, hr50⟩ := hp50
        have kr50 := zrng r50
        show zP _ _ _ _ [.int r50] _ _ _ _ _
        have hSl53 := hSl0.up (w' := w50) to.toNatClampNeg hp50_0 (fun x h1 h2 h3 => ((heq50 x (by omega)).trans ((heq44 x (by omega)).trans (heq26 x (by omega)))))
        have hb336 : w50 m = some (.inl (15, zMo m (zs (zs (zs g 1 Z9_26) 3 Z9_26) 16 Z9_26) r)) := (heq50 m (by omega)).trans hb334
        have hoffend : ∀ x, (x < m + 0 ∨ m + 0 + 8322 ≤ x) → w50 x = w x := fun x hx => ((heq50 x (by omega)).trans ((heq44 x ⟨(zx_X16_change_32 hx), (zx_X16_change_154 hx hgzZ9_26_0)⟩).trans (heq26 x (zx_X16_change_0 hx))))
        have hb337 := hb335.si hsi50
        have hb338 : zTi w50 (m + 83) 1 := hp44_0.ag (fun x hx1 hx2 => (heq50 x (by omega)))
        have hb339 : zPil w50 (m + 6316) := hPl0.ag (fun x hx1 hx2 => ((heq50 x (by omega)).trans ((heq44 x ⟨(zx_X16_change_56 hx1 hx2), (zx_X16_change_156 hx1 hx2 hgzZ9_26_0)⟩).trans (heq26 x (zx_X16_change_3 hx1 hx2)))))
        have hb340 : zBya w50 (m + 92) 4000 := hBo0.ag (fun x hx1 hx2 => ((heq50 x (by omega)).trans ((heq44 x ⟨(zx_X16_change_68 hx1 hx2), (zx_X16_change_157 hx1 hx2 hgzZ9_26_0)⟩).trans (heq26 x (zx_X16_change_4 hx1 hx2)))))
        have hb341 : zBya w50 (m + 93) 4000 := hBl0.ag (fun x hx1 hx2 => ((heq50 x (by omega)).trans ((heq44 x ⟨(zx_X16_change_80 hx1 hx2), (zx_X16_change_158 hx1 hx2 hgzZ9_26_0)⟩).trans (heq26 x (zx_X16_change_5 hx1 hx2)))))
        have hb342 : w50 (m + 94) = some (.inr (0, 60, .inl ff)) := ((heq50 (m + 94) (by omega)).trans ((heq44 (m + 94) ⟨(zx_X16_change_92), (zx_X16_change_159 hgzZ9_26_0)⟩).trans (heq26 (m + 94) (zx_X16_change_6)))).trans hAf0
        refine zr_retI (by decide +kernel) rfl ?_
        rw [← hPost]; exact ⟨rfl, _, rfl, ((hsi26.tr hsi44).tr hsi50), hoffend, ⟨_, _, hb336, hb337, hSl53, ⟨_, hb338⟩, hb339, ⟨_, hb342, hff⟩, hb340, hb341, hI12, hI24, hI29, hI31, hIn⟩, _, rfl, trivial⟩
    ·
      replace cc12 := Classical.not_not.mp cc12
      have f343 := zeqI cc12
      rw [show (0 : Int32).toInt = 0 from by decide] at f343
      refine zp_seg (pc' := 16) (lv' := [(0, .ref m), (1, .int op), (2, .int s9), (3, .int v), (4, .int to)]) (st' := [.int (Int32.ofInt (-1))]) [(15, .iconst (-1))] (by decide +kernel) rfl ?_
      have hoffend : ∀ x, (x < m + 0 ∨ m + 0 + 8322 ≤ x) → w x = w x := fun x hx => rfl
      refine zr_retI (by decide +kernel) rfl ?_
      rw [← hPost]; exact ⟨rfl, _, rfl, zSI.rf, hoffend, ⟨_, _, hm, hR_m, hSl0, ⟨_, hMd0⟩, hPl0, ⟨_, hAf0, hff⟩, hBo0, hBl0, hI12, hI24, hI29, hI31, hIn⟩, _, rfl, trivial⟩
