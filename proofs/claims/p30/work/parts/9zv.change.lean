theorem zx_X16_change_0 {m x : Nat} (h0 : x < m + 0 ∨ m + 0 + 8322 ≤ x) : x < m ∨ m + 1 ≤ x := by omega
theorem zx_X16_change_1 {m x : Nat} (h0 : m + 7486 ≤ x) (h1 : x < m + 7486 + 108) : x < m ∨ m + 1 ≤ x := by omega
theorem zx_X16_change_2 {m x : Nat} (h0 : m + 83 ≤ x) (h1 : x < m + 83 + 9) : x < m ∨ m + 1 ≤ x := by omega
theorem zx_X16_change_3 {m x : Nat} (h0 : m + 6316 ≤ x) (h1 : x < m + 6316 + 1170) : x < m ∨ m + 1 ≤ x := by omega
theorem zx_X16_change_4 {m x : Nat} (h0 : m + 92 ≤ x) (h1 : x < m + 92 + 1) : x < m ∨ m + 1 ≤ x := by omega
theorem zx_X16_change_5 {m x : Nat} (h0 : m + 93 ≤ x) (h1 : x < m + 93 + 1) : x < m ∨ m + 1 ≤ x := by omega
theorem zx_X16_change_6 {m x : Nat} (h0 : m + 100 ≤ x) (h1 : x < m + 100 + 49) : x < m ∨ m + 1 ≤ x := by omega
theorem zx_X16_change_7 {m x : Nat} (h0 : m + 212 ≤ x) (h1 : x < m + 212 + 61) : x < m ∨ m + 1 ≤ x := by omega
theorem zx_X16_change_8 {m x : Nat} (h0 : m + 149 ≤ x) (h1 : x < m + 149 + 27) : x < m ∨ m + 1 ≤ x := by omega
theorem zx_X16_change_9 {m : Nat}  : (m + 94) < m ∨ m + 1 ≤ (m + 94) := by omega
theorem zx_X16_change_10 {m : Nat}  : m < m + 83 ∨ m + 83 + 9 ≤ m := by omega
theorem zx_X16_change_11 {GZ9_26_0 m x : Nat} (h0 : m + 596 + 130 * GZ9_26_0 ≤ x) (h1 : x < m + 596 + 130 * GZ9_26_0 + 130) (h2 : GZ9_26_0 = 0) : x < m ∨ m + 1 ≤ x := by omega
theorem zx_X16_change_12 {GZ9_26_0 GZ9_26_1 m x : Nat} (h0 : m + 596 + 130 * GZ9_26_0 ≤ x) (h1 : x < m + 596 + 130 * GZ9_26_0 + 130) (h2 : GZ9_26_0 = 0) (h3 : GZ9_26_1 = 1) : x < m + 596 + 130 * GZ9_26_1 ∨ m + 596 + 130 * GZ9_26_1 + 130 ≤ x := by omega
theorem zx_X16_change_13 {GZ9_26_0 GZ9_26_1 m x : Nat} (h0 : m + 596 + 130 * GZ9_26_1 ≤ x) (h1 : x < m + 596 + 130 * GZ9_26_1 + 130) (h2 : GZ9_26_0 = 0) (h3 : GZ9_26_1 = 1) : x < m + 596 + 130 * GZ9_26_0 ∨ m + 596 + 130 * GZ9_26_0 + 130 ≤ x := by omega
theorem zx_X16_change_14 {GZ9_26_0 m : Nat} (h0 : GZ9_26_0 = 0) : m < m + 596 + 130 * GZ9_26_0 ∨ m + 596 + 130 * GZ9_26_0 + 130 ≤ m := by omega
theorem zx_X16_change_15 {GZ9_26_1 m : Nat} (h0 : GZ9_26_1 = 1) : m < m + 596 + 130 * GZ9_26_1 ∨ m + 596 + 130 * GZ9_26_1 + 130 ≤ m := by omega
theorem zx_X16_change_16 {GZ9_26_4 m : Nat} (h0 : GZ9_26_4 = 4) : m < m + 596 + 130 * GZ9_26_4 ∨ m + 596 + 130 * GZ9_26_4 + 130 ≤ m := by omega
theorem zx_X16_change_17 {GZ9_26_0 m x : Nat} (h0 : m + 83 ≤ x) (h1 : x < m + 83 + 9) (h2 : GZ9_26_0 = 0) : x < m + 596 + 130 * GZ9_26_0 ∨ m + 596 + 130 * GZ9_26_0 + 130 ≤ x := by omega
theorem zx_X16_change_18 {GZ9_26_1 m x : Nat} (h0 : m + 83 ≤ x) (h1 : x < m + 83 + 9) (h2 : GZ9_26_1 = 1) : x < m + 596 + 130 * GZ9_26_1 ∨ m + 596 + 130 * GZ9_26_1 + 130 ≤ x := by omega
theorem zx_X16_change_19 {GZ9_26_2 m x : Nat} (h0 : m + 83 ≤ x) (h1 : x < m + 83 + 9) (h2 : GZ9_26_2 = 2) : x < m + 596 + 130 * GZ9_26_2 ∨ m + 596 + 130 * GZ9_26_2 + 130 ≤ x := by omega
theorem zx_X16_change_20 {GZ9_26_3 m x : Nat} (h0 : m + 83 ≤ x) (h1 : x < m + 83 + 9) (h2 : GZ9_26_3 = 3) : x < m + 596 + 130 * GZ9_26_3 ∨ m + 596 + 130 * GZ9_26_3 + 130 ≤ x := by omega
theorem zx_X16_change_21 {GZ9_26_4 m x : Nat} (h0 : m + 83 ≤ x) (h1 : x < m + 83 + 9) (h2 : GZ9_26_4 = 4) : x < m + 596 + 130 * GZ9_26_4 ∨ m + 596 + 130 * GZ9_26_4 + 130 ≤ x := by omega
theorem zx_X16_change_22 {m x : Nat} (h0 : m + 83 ≤ x) (h1 : x < m + 83 + 9) : x < m + 276 ∨ m + 276 + 320 ≤ x := by omega
theorem zx_X16_change_23 {GZ9_26_2 m x : Nat} (h0 : m + 83 ≤ x) (h1 : x < m + 83 + 9) (h2 : GZ9_26_2 = 2) : x < m + 596 + 130 * GZ9_26_2 ∨ m + 596 + 130 * GZ9_26_2 + (5720 - 130 * GZ9_26_2) ≤ x := by omega
theorem zx_X16_change_24 {m x : Nat} (h0 : m + 83 ≤ x) (h1 : x < m + 83 + 9) : x < m + 3 ∨ m + 3 + 1 ≤ x := by omega
theorem zx_X16_change_25 {m x : Nat} (h0 : m + 83 ≤ x) (h1 : x < m + 83 + 9) : x < m + 5 ∨ m + 5 + 64 ≤ x := by omega
theorem zx_X16_change_26 {m x : Nat} (h0 : m + 83 ≤ x) (h1 : x < m + 83 + 9) : x ≠ m := by omega
theorem zx_X16_change_27 {m : Nat}  : (m + 83) < m + 83 + 1 ∨ m + 83 + 1 + 2 ≤ (m + 83) := by omega
theorem zx_X16_change_28 {m : Nat}  : (m + 83 + 3) < m + 83 + 1 ∨ m + 83 + 1 + 2 ≤ (m + 83 + 3) := by omega
theorem zx_X16_change_29 {m : Nat}  : (m + 83 + 4) < m + 83 + 1 ∨ m + 83 + 1 + 2 ≤ (m + 83 + 4) := by omega
theorem zx_X16_change_30 {m : Nat}  : (m + 83 + 5) < m + 83 + 1 ∨ m + 83 + 1 + 2 ≤ (m + 83 + 5) := by omega
theorem zx_X16_change_31 {m : Nat}  : (m + 83 + 6) < m + 83 + 1 ∨ m + 83 + 1 + 2 ≤ (m + 83 + 6) := by omega
theorem zx_X16_change_32 {m : Nat}  : (m + 83 + 7) < m + 83 + 1 ∨ m + 83 + 1 + 2 ≤ (m + 83 + 7) := by omega
theorem zx_X16_change_33 {m : Nat}  : (m + 83 + 8) < m + 83 + 1 ∨ m + 83 + 1 + 2 ≤ (m + 83 + 8) := by omega
theorem zx_X16_change_34 {m : Nat}  : m < m + 83 + 1 ∨ m + 83 + 1 + 2 ≤ m := by omega
theorem zx_X16_change_35 {m x : Nat} (h0 : x < m + 0 ∨ m + 0 + 8322 ≤ x) : x < m + 83 ∨ m + 83 + 9 ≤ x := by omega
theorem zx_X16_change_36 {GZ9_26_0 m x : Nat} (h0 : x < m + 0 ∨ m + 0 + 8322 ≤ x) (h1 : GZ9_26_0 = 0) : x < m + 596 + 130 * GZ9_26_0 ∨ m + 596 + 130 * GZ9_26_0 + 130 ≤ x := by omega
theorem zx_X16_change_37 {GZ9_26_1 m x : Nat} (h0 : x < m + 0 ∨ m + 0 + 8322 ≤ x) (h1 : GZ9_26_1 = 1) : x < m + 596 + 130 * GZ9_26_1 ∨ m + 596 + 130 * GZ9_26_1 + 130 ≤ x := by omega
theorem zx_X16_change_38 {GZ9_26_2 m x : Nat} (h0 : x < m + 0 ∨ m + 0 + 8322 ≤ x) (h1 : GZ9_26_2 = 2) : x < m + 596 + 130 * GZ9_26_2 ∨ m + 596 + 130 * GZ9_26_2 + 130 ≤ x := by omega
theorem zx_X16_change_39 {GZ9_26_3 m x : Nat} (h0 : x < m + 0 ∨ m + 0 + 8322 ≤ x) (h1 : GZ9_26_3 = 3) : x < m + 596 + 130 * GZ9_26_3 ∨ m + 596 + 130 * GZ9_26_3 + 130 ≤ x := by omega
theorem zx_X16_change_40 {GZ9_26_4 m x : Nat} (h0 : x < m + 0 ∨ m + 0 + 8322 ≤ x) (h1 : GZ9_26_4 = 4) : x < m + 596 + 130 * GZ9_26_4 ∨ m + 596 + 130 * GZ9_26_4 + 130 ≤ x := by omega
theorem zx_X16_change_41 {m x : Nat} (h0 : x < m + 0 ∨ m + 0 + 8322 ≤ x) : x < m + 276 ∨ m + 276 + 320 ≤ x := by omega
theorem zx_X16_change_42 {GZ9_26_2 m x : Nat} (h0 : x < m + 0 ∨ m + 0 + 8322 ≤ x) (h1 : GZ9_26_2 = 2) : x < m + 596 + 130 * GZ9_26_2 ∨ m + 596 + 130 * GZ9_26_2 + (5720 - 130 * GZ9_26_2) ≤ x := by omega
theorem zx_X16_change_43 {m x : Nat} (h0 : x < m + 0 ∨ m + 0 + 8322 ≤ x) : x < m + 3 ∨ m + 3 + 1 ≤ x := by omega
theorem zx_X16_change_44 {m x : Nat} (h0 : x < m + 0 ∨ m + 0 + 8322 ≤ x) : x < m + 5 ∨ m + 5 + 64 ≤ x := by omega
theorem zx_X16_change_45 {m x : Nat} (h0 : x < m + 0 ∨ m + 0 + 8322 ≤ x) : x ≠ m := by omega
theorem zx_X16_change_46 {m x : Nat} (h0 : x < m + 0 ∨ m + 0 + 8322 ≤ x) : x < m + 83 + 1 ∨ m + 83 + 1 + 2 ≤ x := by omega
theorem zx_X16_change_47 {m x : Nat} (h0 : m + 7486 ≤ x) (h1 : x < m + 7486 + 108) : x < m + 83 ∨ m + 83 + 9 ≤ x := by omega
theorem zx_X16_change_48 {GZ9_26_0 m x : Nat} (h0 : m + 7486 ≤ x) (h1 : x < m + 7486 + 108) (h2 : GZ9_26_0 = 0) : x < m + 596 + 130 * GZ9_26_0 ∨ m + 596 + 130 * GZ9_26_0 + 130 ≤ x := by omega
theorem zx_X16_change_49 {GZ9_26_1 m x : Nat} (h0 : m + 7486 ≤ x) (h1 : x < m + 7486 + 108) (h2 : GZ9_26_1 = 1) : x < m + 596 + 130 * GZ9_26_1 ∨ m + 596 + 130 * GZ9_26_1 + 130 ≤ x := by omega
theorem zx_X16_change_50 {GZ9_26_2 m x : Nat} (h0 : m + 7486 ≤ x) (h1 : x < m + 7486 + 108) (h2 : GZ9_26_2 = 2) : x < m + 596 + 130 * GZ9_26_2 ∨ m + 596 + 130 * GZ9_26_2 + 130 ≤ x := by omega
theorem zx_X16_change_51 {GZ9_26_3 m x : Nat} (h0 : m + 7486 ≤ x) (h1 : x < m + 7486 + 108) (h2 : GZ9_26_3 = 3) : x < m + 596 + 130 * GZ9_26_3 ∨ m + 596 + 130 * GZ9_26_3 + 130 ≤ x := by omega
theorem zx_X16_change_52 {GZ9_26_4 m x : Nat} (h0 : m + 7486 ≤ x) (h1 : x < m + 7486 + 108) (h2 : GZ9_26_4 = 4) : x < m + 596 + 130 * GZ9_26_4 ∨ m + 596 + 130 * GZ9_26_4 + 130 ≤ x := by omega
theorem zx_X16_change_53 {m x : Nat} (h0 : m + 7486 ≤ x) (h1 : x < m + 7486 + 108) : x < m + 276 ∨ m + 276 + 320 ≤ x := by omega
theorem zx_X16_change_54 {GZ9_26_2 m x : Nat} (h0 : m + 7486 ≤ x) (h1 : x < m + 7486 + 108) (h2 : GZ9_26_2 = 2) : x < m + 596 + 130 * GZ9_26_2 ∨ m + 596 + 130 * GZ9_26_2 + (5720 - 130 * GZ9_26_2) ≤ x := by omega
theorem zx_X16_change_55 {m x : Nat} (h0 : m + 7486 ≤ x) (h1 : x < m + 7486 + 108) : x < m + 3 ∨ m + 3 + 1 ≤ x := by omega
theorem zx_X16_change_56 {m x : Nat} (h0 : m + 7486 ≤ x) (h1 : x < m + 7486 + 108) : x < m + 5 ∨ m + 5 + 64 ≤ x := by omega
theorem zx_X16_change_57 {m x : Nat} (h0 : m + 7486 ≤ x) (h1 : x < m + 7486 + 108) : x ≠ m := by omega
theorem zx_X16_change_58 {m x : Nat} (h0 : m + 7486 ≤ x) (h1 : x < m + 7486 + 108) : x < m + 83 + 1 ∨ m + 83 + 1 + 2 ≤ x := by omega
theorem zx_X16_change_59 {m x : Nat} (h0 : m + 6316 ≤ x) (h1 : x < m + 6316 + 1170) : x < m + 83 ∨ m + 83 + 9 ≤ x := by omega
theorem zx_X16_change_60 {GZ9_26_0 m x : Nat} (h0 : m + 6316 ≤ x) (h1 : x < m + 6316 + 1170) (h2 : GZ9_26_0 = 0) : x < m + 596 + 130 * GZ9_26_0 ∨ m + 596 + 130 * GZ9_26_0 + 130 ≤ x := by omega
theorem zx_X16_change_61 {GZ9_26_1 m x : Nat} (h0 : m + 6316 ≤ x) (h1 : x < m + 6316 + 1170) (h2 : GZ9_26_1 = 1) : x < m + 596 + 130 * GZ9_26_1 ∨ m + 596 + 130 * GZ9_26_1 + 130 ≤ x := by omega
theorem zx_X16_change_62 {GZ9_26_2 m x : Nat} (h0 : m + 6316 ≤ x) (h1 : x < m + 6316 + 1170) (h2 : GZ9_26_2 = 2) : x < m + 596 + 130 * GZ9_26_2 ∨ m + 596 + 130 * GZ9_26_2 + 130 ≤ x := by omega
theorem zx_X16_change_63 {GZ9_26_3 m x : Nat} (h0 : m + 6316 ≤ x) (h1 : x < m + 6316 + 1170) (h2 : GZ9_26_3 = 3) : x < m + 596 + 130 * GZ9_26_3 ∨ m + 596 + 130 * GZ9_26_3 + 130 ≤ x := by omega
theorem zx_X16_change_64 {GZ9_26_4 m x : Nat} (h0 : m + 6316 ≤ x) (h1 : x < m + 6316 + 1170) (h2 : GZ9_26_4 = 4) : x < m + 596 + 130 * GZ9_26_4 ∨ m + 596 + 130 * GZ9_26_4 + 130 ≤ x := by omega
theorem zx_X16_change_65 {m x : Nat} (h0 : m + 6316 ≤ x) (h1 : x < m + 6316 + 1170) : x < m + 276 ∨ m + 276 + 320 ≤ x := by omega
theorem zx_X16_change_66 {GZ9_26_2 m x : Nat} (h0 : m + 6316 ≤ x) (h1 : x < m + 6316 + 1170) (h2 : GZ9_26_2 = 2) : x < m + 596 + 130 * GZ9_26_2 ∨ m + 596 + 130 * GZ9_26_2 + (5720 - 130 * GZ9_26_2) ≤ x := by omega
theorem zx_X16_change_67 {m x : Nat} (h0 : m + 6316 ≤ x) (h1 : x < m + 6316 + 1170) : x < m + 3 ∨ m + 3 + 1 ≤ x := by omega
theorem zx_X16_change_68 {m x : Nat} (h0 : m + 6316 ≤ x) (h1 : x < m + 6316 + 1170) : x < m + 5 ∨ m + 5 + 64 ≤ x := by omega
theorem zx_X16_change_69 {m x : Nat} (h0 : m + 6316 ≤ x) (h1 : x < m + 6316 + 1170) : x ≠ m := by omega
theorem zx_X16_change_70 {m x : Nat} (h0 : m + 6316 ≤ x) (h1 : x < m + 6316 + 1170) : x < m + 83 + 1 ∨ m + 83 + 1 + 2 ≤ x := by omega
theorem zx_X16_change_71 {m x : Nat} (h0 : m + 92 ≤ x) (h1 : x < m + 92 + 1) : x < m + 83 ∨ m + 83 + 9 ≤ x := by omega
theorem zx_X16_change_72 {GZ9_26_0 m x : Nat} (h0 : m + 92 ≤ x) (h1 : x < m + 92 + 1) (h2 : GZ9_26_0 = 0) : x < m + 596 + 130 * GZ9_26_0 ∨ m + 596 + 130 * GZ9_26_0 + 130 ≤ x := by omega
theorem zx_X16_change_73 {GZ9_26_1 m x : Nat} (h0 : m + 92 ≤ x) (h1 : x < m + 92 + 1) (h2 : GZ9_26_1 = 1) : x < m + 596 + 130 * GZ9_26_1 ∨ m + 596 + 130 * GZ9_26_1 + 130 ≤ x := by omega
theorem zx_X16_change_74 {GZ9_26_2 m x : Nat} (h0 : m + 92 ≤ x) (h1 : x < m + 92 + 1) (h2 : GZ9_26_2 = 2) : x < m + 596 + 130 * GZ9_26_2 ∨ m + 596 + 130 * GZ9_26_2 + 130 ≤ x := by omega
theorem zx_X16_change_75 {GZ9_26_3 m x : Nat} (h0 : m + 92 ≤ x) (h1 : x < m + 92 + 1) (h2 : GZ9_26_3 = 3) : x < m + 596 + 130 * GZ9_26_3 ∨ m + 596 + 130 * GZ9_26_3 + 130 ≤ x := by omega
theorem zx_X16_change_76 {GZ9_26_4 m x : Nat} (h0 : m + 92 ≤ x) (h1 : x < m + 92 + 1) (h2 : GZ9_26_4 = 4) : x < m + 596 + 130 * GZ9_26_4 ∨ m + 596 + 130 * GZ9_26_4 + 130 ≤ x := by omega
theorem zx_X16_change_77 {m x : Nat} (h0 : m + 92 ≤ x) (h1 : x < m + 92 + 1) : x < m + 276 ∨ m + 276 + 320 ≤ x := by omega
theorem zx_X16_change_78 {GZ9_26_2 m x : Nat} (h0 : m + 92 ≤ x) (h1 : x < m + 92 + 1) (h2 : GZ9_26_2 = 2) : x < m + 596 + 130 * GZ9_26_2 ∨ m + 596 + 130 * GZ9_26_2 + (5720 - 130 * GZ9_26_2) ≤ x := by omega
theorem zx_X16_change_79 {m x : Nat} (h0 : m + 92 ≤ x) (h1 : x < m + 92 + 1) : x < m + 3 ∨ m + 3 + 1 ≤ x := by omega
theorem zx_X16_change_80 {m x : Nat} (h0 : m + 92 ≤ x) (h1 : x < m + 92 + 1) : x < m + 5 ∨ m + 5 + 64 ≤ x := by omega
theorem zx_X16_change_81 {m x : Nat} (h0 : m + 92 ≤ x) (h1 : x < m + 92 + 1) : x ≠ m := by omega
theorem zx_X16_change_82 {m x : Nat} (h0 : m + 92 ≤ x) (h1 : x < m + 92 + 1) : x < m + 83 + 1 ∨ m + 83 + 1 + 2 ≤ x := by omega
theorem zx_X16_change_83 {m x : Nat} (h0 : m + 93 ≤ x) (h1 : x < m + 93 + 1) : x < m + 83 ∨ m + 83 + 9 ≤ x := by omega
theorem zx_X16_change_84 {GZ9_26_0 m x : Nat} (h0 : m + 93 ≤ x) (h1 : x < m + 93 + 1) (h2 : GZ9_26_0 = 0) : x < m + 596 + 130 * GZ9_26_0 ∨ m + 596 + 130 * GZ9_26_0 + 130 ≤ x := by omega
theorem zx_X16_change_85 {GZ9_26_1 m x : Nat} (h0 : m + 93 ≤ x) (h1 : x < m + 93 + 1) (h2 : GZ9_26_1 = 1) : x < m + 596 + 130 * GZ9_26_1 ∨ m + 596 + 130 * GZ9_26_1 + 130 ≤ x := by omega
theorem zx_X16_change_86 {GZ9_26_2 m x : Nat} (h0 : m + 93 ≤ x) (h1 : x < m + 93 + 1) (h2 : GZ9_26_2 = 2) : x < m + 596 + 130 * GZ9_26_2 ∨ m + 596 + 130 * GZ9_26_2 + 130 ≤ x := by omega
theorem zx_X16_change_87 {GZ9_26_3 m x : Nat} (h0 : m + 93 ≤ x) (h1 : x < m + 93 + 1) (h2 : GZ9_26_3 = 3) : x < m + 596 + 130 * GZ9_26_3 ∨ m + 596 + 130 * GZ9_26_3 + 130 ≤ x := by omega
theorem zx_X16_change_88 {GZ9_26_4 m x : Nat} (h0 : m + 93 ≤ x) (h1 : x < m + 93 + 1) (h2 : GZ9_26_4 = 4) : x < m + 596 + 130 * GZ9_26_4 ∨ m + 596 + 130 * GZ9_26_4 + 130 ≤ x := by omega
theorem zx_X16_change_89 {m x : Nat} (h0 : m + 93 ≤ x) (h1 : x < m + 93 + 1) : x < m + 276 ∨ m + 276 + 320 ≤ x := by omega
theorem zx_X16_change_90 {GZ9_26_2 m x : Nat} (h0 : m + 93 ≤ x) (h1 : x < m + 93 + 1) (h2 : GZ9_26_2 = 2) : x < m + 596 + 130 * GZ9_26_2 ∨ m + 596 + 130 * GZ9_26_2 + (5720 - 130 * GZ9_26_2) ≤ x := by omega
theorem zx_X16_change_91 {m x : Nat} (h0 : m + 93 ≤ x) (h1 : x < m + 93 + 1) : x < m + 3 ∨ m + 3 + 1 ≤ x := by omega
theorem zx_X16_change_92 {m x : Nat} (h0 : m + 93 ≤ x) (h1 : x < m + 93 + 1) : x < m + 5 ∨ m + 5 + 64 ≤ x := by omega
theorem zx_X16_change_93 {m x : Nat} (h0 : m + 93 ≤ x) (h1 : x < m + 93 + 1) : x ≠ m := by omega
theorem zx_X16_change_94 {m x : Nat} (h0 : m + 93 ≤ x) (h1 : x < m + 93 + 1) : x < m + 83 + 1 ∨ m + 83 + 1 + 2 ≤ x := by omega
theorem zx_X16_change_95 {m x : Nat} (h0 : m + 100 ≤ x) (h1 : x < m + 100 + 49) : x < m + 83 ∨ m + 83 + 9 ≤ x := by omega
theorem zx_X16_change_96 {GZ9_26_0 m x : Nat} (h0 : m + 100 ≤ x) (h1 : x < m + 100 + 49) (h2 : GZ9_26_0 = 0) : x < m + 596 + 130 * GZ9_26_0 ∨ m + 596 + 130 * GZ9_26_0 + 130 ≤ x := by omega
theorem zx_X16_change_97 {GZ9_26_1 m x : Nat} (h0 : m + 100 ≤ x) (h1 : x < m + 100 + 49) (h2 : GZ9_26_1 = 1) : x < m + 596 + 130 * GZ9_26_1 ∨ m + 596 + 130 * GZ9_26_1 + 130 ≤ x := by omega
theorem zx_X16_change_98 {GZ9_26_2 m x : Nat} (h0 : m + 100 ≤ x) (h1 : x < m + 100 + 49) (h2 : GZ9_26_2 = 2) : x < m + 596 + 130 * GZ9_26_2 ∨ m + 596 + 130 * GZ9_26_2 + 130 ≤ x := by omega
theorem zx_X16_change_99 {GZ9_26_3 m x : Nat} (h0 : m + 100 ≤ x) (h1 : x < m + 100 + 49) (h2 : GZ9_26_3 = 3) : x < m + 596 + 130 * GZ9_26_3 ∨ m + 596 + 130 * GZ9_26_3 + 130 ≤ x := by omega
theorem zx_X16_change_100 {GZ9_26_4 m x : Nat} (h0 : m + 100 ≤ x) (h1 : x < m + 100 + 49) (h2 : GZ9_26_4 = 4) : x < m + 596 + 130 * GZ9_26_4 ∨ m + 596 + 130 * GZ9_26_4 + 130 ≤ x := by omega
theorem zx_X16_change_101 {m x : Nat} (h0 : m + 100 ≤ x) (h1 : x < m + 100 + 49) : x < m + 276 ∨ m + 276 + 320 ≤ x := by omega
theorem zx_X16_change_102 {GZ9_26_2 m x : Nat} (h0 : m + 100 ≤ x) (h1 : x < m + 100 + 49) (h2 : GZ9_26_2 = 2) : x < m + 596 + 130 * GZ9_26_2 ∨ m + 596 + 130 * GZ9_26_2 + (5720 - 130 * GZ9_26_2) ≤ x := by omega
theorem zx_X16_change_103 {m x : Nat} (h0 : m + 100 ≤ x) (h1 : x < m + 100 + 49) : x < m + 3 ∨ m + 3 + 1 ≤ x := by omega
theorem zx_X16_change_104 {m x : Nat} (h0 : m + 100 ≤ x) (h1 : x < m + 100 + 49) : x < m + 5 ∨ m + 5 + 64 ≤ x := by omega
theorem zx_X16_change_105 {m x : Nat} (h0 : m + 100 ≤ x) (h1 : x < m + 100 + 49) : x ≠ m := by omega
theorem zx_X16_change_106 {m x : Nat} (h0 : m + 100 ≤ x) (h1 : x < m + 100 + 49) : x < m + 83 + 1 ∨ m + 83 + 1 + 2 ≤ x := by omega
theorem zx_X16_change_107 {m x : Nat} (h0 : m + 212 ≤ x) (h1 : x < m + 212 + 61) : x < m + 83 ∨ m + 83 + 9 ≤ x := by omega
theorem zx_X16_change_108 {GZ9_26_0 m x : Nat} (h0 : m + 212 ≤ x) (h1 : x < m + 212 + 61) (h2 : GZ9_26_0 = 0) : x < m + 596 + 130 * GZ9_26_0 ∨ m + 596 + 130 * GZ9_26_0 + 130 ≤ x := by omega
theorem zx_X16_change_109 {GZ9_26_1 m x : Nat} (h0 : m + 212 ≤ x) (h1 : x < m + 212 + 61) (h2 : GZ9_26_1 = 1) : x < m + 596 + 130 * GZ9_26_1 ∨ m + 596 + 130 * GZ9_26_1 + 130 ≤ x := by omega
theorem zx_X16_change_110 {GZ9_26_2 m x : Nat} (h0 : m + 212 ≤ x) (h1 : x < m + 212 + 61) (h2 : GZ9_26_2 = 2) : x < m + 596 + 130 * GZ9_26_2 ∨ m + 596 + 130 * GZ9_26_2 + 130 ≤ x := by omega
theorem zx_X16_change_111 {GZ9_26_3 m x : Nat} (h0 : m + 212 ≤ x) (h1 : x < m + 212 + 61) (h2 : GZ9_26_3 = 3) : x < m + 596 + 130 * GZ9_26_3 ∨ m + 596 + 130 * GZ9_26_3 + 130 ≤ x := by omega
theorem zx_X16_change_112 {GZ9_26_4 m x : Nat} (h0 : m + 212 ≤ x) (h1 : x < m + 212 + 61) (h2 : GZ9_26_4 = 4) : x < m + 596 + 130 * GZ9_26_4 ∨ m + 596 + 130 * GZ9_26_4 + 130 ≤ x := by omega
theorem zx_X16_change_113 {m x : Nat} (h0 : m + 212 ≤ x) (h1 : x < m + 212 + 61) : x < m + 276 ∨ m + 276 + 320 ≤ x := by omega
theorem zx_X16_change_114 {GZ9_26_2 m x : Nat} (h0 : m + 212 ≤ x) (h1 : x < m + 212 + 61) (h2 : GZ9_26_2 = 2) : x < m + 596 + 130 * GZ9_26_2 ∨ m + 596 + 130 * GZ9_26_2 + (5720 - 130 * GZ9_26_2) ≤ x := by omega
theorem zx_X16_change_115 {m x : Nat} (h0 : m + 212 ≤ x) (h1 : x < m + 212 + 61) : x < m + 3 ∨ m + 3 + 1 ≤ x := by omega
theorem zx_X16_change_116 {m x : Nat} (h0 : m + 212 ≤ x) (h1 : x < m + 212 + 61) : x < m + 5 ∨ m + 5 + 64 ≤ x := by omega
theorem zx_X16_change_117 {m x : Nat} (h0 : m + 212 ≤ x) (h1 : x < m + 212 + 61) : x ≠ m := by omega
theorem zx_X16_change_118 {m x : Nat} (h0 : m + 212 ≤ x) (h1 : x < m + 212 + 61) : x < m + 83 + 1 ∨ m + 83 + 1 + 2 ≤ x := by omega
theorem zx_X16_change_119 {m x : Nat} (h0 : m + 149 ≤ x) (h1 : x < m + 149 + 27) : x < m + 83 ∨ m + 83 + 9 ≤ x := by omega
theorem zx_X16_change_120 {GZ9_26_0 m x : Nat} (h0 : m + 149 ≤ x) (h1 : x < m + 149 + 27) (h2 : GZ9_26_0 = 0) : x < m + 596 + 130 * GZ9_26_0 ∨ m + 596 + 130 * GZ9_26_0 + 130 ≤ x := by omega
theorem zx_X16_change_121 {GZ9_26_1 m x : Nat} (h0 : m + 149 ≤ x) (h1 : x < m + 149 + 27) (h2 : GZ9_26_1 = 1) : x < m + 596 + 130 * GZ9_26_1 ∨ m + 596 + 130 * GZ9_26_1 + 130 ≤ x := by omega
theorem zx_X16_change_122 {GZ9_26_2 m x : Nat} (h0 : m + 149 ≤ x) (h1 : x < m + 149 + 27) (h2 : GZ9_26_2 = 2) : x < m + 596 + 130 * GZ9_26_2 ∨ m + 596 + 130 * GZ9_26_2 + 130 ≤ x := by omega
theorem zx_X16_change_123 {GZ9_26_3 m x : Nat} (h0 : m + 149 ≤ x) (h1 : x < m + 149 + 27) (h2 : GZ9_26_3 = 3) : x < m + 596 + 130 * GZ9_26_3 ∨ m + 596 + 130 * GZ9_26_3 + 130 ≤ x := by omega
theorem zx_X16_change_124 {GZ9_26_4 m x : Nat} (h0 : m + 149 ≤ x) (h1 : x < m + 149 + 27) (h2 : GZ9_26_4 = 4) : x < m + 596 + 130 * GZ9_26_4 ∨ m + 596 + 130 * GZ9_26_4 + 130 ≤ x := by omega
theorem zx_X16_change_125 {m x : Nat} (h0 : m + 149 ≤ x) (h1 : x < m + 149 + 27) : x < m + 276 ∨ m + 276 + 320 ≤ x := by omega
theorem zx_X16_change_126 {GZ9_26_2 m x : Nat} (h0 : m + 149 ≤ x) (h1 : x < m + 149 + 27) (h2 : GZ9_26_2 = 2) : x < m + 596 + 130 * GZ9_26_2 ∨ m + 596 + 130 * GZ9_26_2 + (5720 - 130 * GZ9_26_2) ≤ x := by omega
theorem zx_X16_change_127 {m x : Nat} (h0 : m + 149 ≤ x) (h1 : x < m + 149 + 27) : x < m + 3 ∨ m + 3 + 1 ≤ x := by omega
theorem zx_X16_change_128 {m x : Nat} (h0 : m + 149 ≤ x) (h1 : x < m + 149 + 27) : x < m + 5 ∨ m + 5 + 64 ≤ x := by omega
theorem zx_X16_change_129 {m x : Nat} (h0 : m + 149 ≤ x) (h1 : x < m + 149 + 27) : x ≠ m := by omega
theorem zx_X16_change_130 {m x : Nat} (h0 : m + 149 ≤ x) (h1 : x < m + 149 + 27) : x < m + 83 + 1 ∨ m + 83 + 1 + 2 ≤ x := by omega
theorem zx_X16_change_131 {m : Nat}  : (m + 94) < m + 83 ∨ m + 83 + 9 ≤ (m + 94) := by omega
theorem zx_X16_change_132 {GZ9_26_0 m : Nat} (h0 : GZ9_26_0 = 0) : (m + 94) < m + 596 + 130 * GZ9_26_0 ∨ m + 596 + 130 * GZ9_26_0 + 130 ≤ (m + 94) := by omega
theorem zx_X16_change_133 {GZ9_26_1 m : Nat} (h0 : GZ9_26_1 = 1) : (m + 94) < m + 596 + 130 * GZ9_26_1 ∨ m + 596 + 130 * GZ9_26_1 + 130 ≤ (m + 94) := by omega
theorem zx_X16_change_134 {GZ9_26_2 m : Nat} (h0 : GZ9_26_2 = 2) : (m + 94) < m + 596 + 130 * GZ9_26_2 ∨ m + 596 + 130 * GZ9_26_2 + 130 ≤ (m + 94) := by omega
theorem zx_X16_change_135 {GZ9_26_3 m : Nat} (h0 : GZ9_26_3 = 3) : (m + 94) < m + 596 + 130 * GZ9_26_3 ∨ m + 596 + 130 * GZ9_26_3 + 130 ≤ (m + 94) := by omega
theorem zx_X16_change_136 {GZ9_26_4 m : Nat} (h0 : GZ9_26_4 = 4) : (m + 94) < m + 596 + 130 * GZ9_26_4 ∨ m + 596 + 130 * GZ9_26_4 + 130 ≤ (m + 94) := by omega
theorem zx_X16_change_137 {m : Nat}  : (m + 94) < m + 276 ∨ m + 276 + 320 ≤ (m + 94) := by omega
theorem zx_X16_change_138 {GZ9_26_2 m : Nat} (h0 : GZ9_26_2 = 2) : (m + 94) < m + 596 + 130 * GZ9_26_2 ∨ m + 596 + 130 * GZ9_26_2 + (5720 - 130 * GZ9_26_2) ≤ (m + 94) := by omega
theorem zx_X16_change_139 {m : Nat}  : (m + 94) < m + 3 ∨ m + 3 + 1 ≤ (m + 94) := by omega
theorem zx_X16_change_140 {m : Nat}  : (m + 94) < m + 5 ∨ m + 5 + 64 ≤ (m + 94) := by omega
theorem zx_X16_change_141 {m : Nat}  : (m + 94) ≠ m := by omega
theorem zx_X16_change_142 {m : Nat}  : (m + 94) < m + 83 + 1 ∨ m + 83 + 1 + 2 ≤ (m + 94) := by omega
theorem zx_X16_change_143 {GZ9_26_2 m x : Nat} (h0 : m + 596 + 130 * GZ9_26_2 ≤ x) (h1 : x < m + 596 + 130 * GZ9_26_2 + 130) (h2 : GZ9_26_2 = 2) : x < m ∨ m + 1 ≤ x := by omega
theorem zx_X16_change_144 {GZ9_26_2 GZ9_26_3 m x : Nat} (h0 : m + 596 + 130 * GZ9_26_2 ≤ x) (h1 : x < m + 596 + 130 * GZ9_26_2 + 130) (h2 : GZ9_26_2 = 2) (h3 : GZ9_26_3 = 3) : x < m + 596 + 130 * GZ9_26_3 ∨ m + 596 + 130 * GZ9_26_3 + 130 ≤ x := by omega
theorem zx_X16_change_145 {GZ9_26_2 GZ9_26_4 m x : Nat} (h0 : m + 596 + 130 * GZ9_26_2 ≤ x) (h1 : x < m + 596 + 130 * GZ9_26_2 + 130) (h2 : GZ9_26_2 = 2) (h3 : GZ9_26_4 = 4) : x < m + 596 + 130 * GZ9_26_4 ∨ m + 596 + 130 * GZ9_26_4 + 130 ≤ x := by omega
theorem zx_X16_change_146 {GZ9_26_3 m x : Nat} (h0 : m + 596 + 130 * GZ9_26_3 ≤ x) (h1 : x < m + 596 + 130 * GZ9_26_3 + 130) (h2 : GZ9_26_3 = 3) : x < m ∨ m + 1 ≤ x := by omega
theorem zx_X16_change_147 {GZ9_26_3 GZ9_26_4 m x : Nat} (h0 : m + 596 + 130 * GZ9_26_3 ≤ x) (h1 : x < m + 596 + 130 * GZ9_26_3 + 130) (h2 : GZ9_26_3 = 3) (h3 : GZ9_26_4 = 4) : x < m + 596 + 130 * GZ9_26_4 ∨ m + 596 + 130 * GZ9_26_4 + 130 ≤ x := by omega
theorem zx_X16_change_148 {GZ9_26_0 GZ9_26_2 m x : Nat} (h0 : m + 596 + 130 * GZ9_26_0 ≤ x) (h1 : x < m + 596 + 130 * GZ9_26_0 + 130) (h2 : GZ9_26_0 = 0) (h3 : GZ9_26_2 = 2) : x < m + 596 + 130 * GZ9_26_2 ∨ m + 596 + 130 * GZ9_26_2 + 130 ≤ x := by omega
theorem zx_X16_change_149 {GZ9_26_0 GZ9_26_3 m x : Nat} (h0 : m + 596 + 130 * GZ9_26_0 ≤ x) (h1 : x < m + 596 + 130 * GZ9_26_0 + 130) (h2 : GZ9_26_0 = 0) (h3 : GZ9_26_3 = 3) : x < m + 596 + 130 * GZ9_26_3 ∨ m + 596 + 130 * GZ9_26_3 + 130 ≤ x := by omega
theorem zx_X16_change_150 {GZ9_26_0 GZ9_26_4 m x : Nat} (h0 : m + 596 + 130 * GZ9_26_0 ≤ x) (h1 : x < m + 596 + 130 * GZ9_26_0 + 130) (h2 : GZ9_26_0 = 0) (h3 : GZ9_26_4 = 4) : x < m + 596 + 130 * GZ9_26_4 ∨ m + 596 + 130 * GZ9_26_4 + 130 ≤ x := by omega
theorem zx_X16_change_151 {GZ9_26_1 m x : Nat} (h0 : m + 596 + 130 * GZ9_26_1 ≤ x) (h1 : x < m + 596 + 130 * GZ9_26_1 + 130) (h2 : GZ9_26_1 = 1) : x < m ∨ m + 1 ≤ x := by omega
theorem zx_X16_change_152 {GZ9_26_1 GZ9_26_2 m x : Nat} (h0 : m + 596 + 130 * GZ9_26_1 ≤ x) (h1 : x < m + 596 + 130 * GZ9_26_1 + 130) (h2 : GZ9_26_1 = 1) (h3 : GZ9_26_2 = 2) : x < m + 596 + 130 * GZ9_26_2 ∨ m + 596 + 130 * GZ9_26_2 + 130 ≤ x := by omega
theorem zx_X16_change_153 {GZ9_26_1 GZ9_26_3 m x : Nat} (h0 : m + 596 + 130 * GZ9_26_1 ≤ x) (h1 : x < m + 596 + 130 * GZ9_26_1 + 130) (h2 : GZ9_26_1 = 1) (h3 : GZ9_26_3 = 3) : x < m + 596 + 130 * GZ9_26_3 ∨ m + 596 + 130 * GZ9_26_3 + 130 ≤ x := by omega
theorem zx_X16_change_154 {GZ9_26_1 GZ9_26_4 m x : Nat} (h0 : m + 596 + 130 * GZ9_26_1 ≤ x) (h1 : x < m + 596 + 130 * GZ9_26_1 + 130) (h2 : GZ9_26_1 = 1) (h3 : GZ9_26_4 = 4) : x < m + 596 + 130 * GZ9_26_4 ∨ m + 596 + 130 * GZ9_26_4 + 130 ≤ x := by omega
theorem zx_X16_change_155 {GZ9_26_2 m x : Nat} (h0 : x < m + 596 + 130 * GZ9_26_2 ∨ m + 596 + 130 * GZ9_26_2 + (5720 - 130 * GZ9_26_2) ≤ x) (h1 : GZ9_26_2 = 2) : x < m + 596 + 130 * GZ9_26_2 ∨ m + 596 + 130 * GZ9_26_2 + 130 ≤ x := by omega
theorem zx_X16_change_156 {GZ9_26_2 GZ9_26_3 m x : Nat} (h0 : x < m + 596 + 130 * GZ9_26_2 ∨ m + 596 + 130 * GZ9_26_2 + (5720 - 130 * GZ9_26_2) ≤ x) (h1 : GZ9_26_2 = 2) (h2 : GZ9_26_3 = 3) : x < m + 596 + 130 * GZ9_26_3 ∨ m + 596 + 130 * GZ9_26_3 + 130 ≤ x := by omega
theorem zx_X16_change_157 {GZ9_26_0 m x : Nat} (h0 : x < m + 276 ∨ m + 276 + 320 ≤ x) (h1 : GZ9_26_0 = 0) : x < m + 276 + 2 * GZ9_26_0 ∨ m + 276 + 2 * GZ9_26_0 + (320 - 2 * GZ9_26_0) ≤ x := by omega
theorem zx_X16_change_158 {GZ9_26_2 GZ9_26_5 m x : Nat} (h0 : x < m + 596 + 130 * GZ9_26_2 ∨ m + 596 + 130 * GZ9_26_2 + (5720 - 130 * GZ9_26_2) ≤ x) (h1 : GZ9_26_2 = 2) (h2 : GZ9_26_5 = 5) : x < m + 596 + 130 * GZ9_26_5 ∨ m + 596 + 130 * GZ9_26_5 + (5720 - 130 * GZ9_26_5) ≤ x := by omega
theorem zx_X16_change_159 {GZ9_26_2 m : Nat} (h0 : GZ9_26_2 = 2) : m < m + 596 + 130 * GZ9_26_2 ∨ m + 596 + 130 * GZ9_26_2 + 130 ≤ m := by omega
theorem zx_X16_change_160 {GZ9_26_3 m : Nat} (h0 : GZ9_26_3 = 3) : m < m + 596 + 130 * GZ9_26_3 ∨ m + 596 + 130 * GZ9_26_3 + 130 ≤ m := by omega
theorem zx_X16_change_161 {GZ9_26_0 m : Nat} (h0 : GZ9_26_0 = 0) : m < m + 276 + 2 * GZ9_26_0 ∨ m + 276 + 2 * GZ9_26_0 + (320 - 2 * GZ9_26_0) ≤ m := by omega
theorem zx_X16_change_162 {GZ9_26_5 m : Nat} (h0 : GZ9_26_5 = 5) : m < m + 596 + 130 * GZ9_26_5 ∨ m + 596 + 130 * GZ9_26_5 + (5720 - 130 * GZ9_26_5) ≤ m := by omega
theorem zx_X16_change_163 {m : Nat}  : m < m + 3 ∨ m + 3 + 1 ≤ m := by omega
theorem zx_X16_change_164 {m : Nat}  : m < m + 5 ∨ m + 5 + 64 ≤ m := by omega
theorem zx_X16_change_165 {GZ9_26_2 GZ9_26_3 m x : Nat} (h0 : m + 596 + 130 * GZ9_26_3 ≤ x) (h1 : x < m + 596 + 130 * GZ9_26_3 + 130) (h2 : GZ9_26_2 = 2) (h3 : GZ9_26_3 = 3) : x < m + 596 + 130 * GZ9_26_2 ∨ m + 596 + 130 * GZ9_26_2 + 130 ≤ x := by omega
theorem zx_X16_change_166 {GZ9_26_0 GZ9_26_3 m x : Nat} (h0 : m + 596 + 130 * GZ9_26_3 ≤ x) (h1 : x < m + 596 + 130 * GZ9_26_3 + 130) (h2 : GZ9_26_0 = 0) (h3 : GZ9_26_3 = 3) : x < m + 276 + 2 * GZ9_26_0 ∨ m + 276 + 2 * GZ9_26_0 + (320 - 2 * GZ9_26_0) ≤ x := by omega
theorem zx_X16_change_167 {GZ9_26_0 GZ9_26_1 m x : Nat} (h0 : m + 596 + 130 * GZ9_26_1 ≤ x) (h1 : x < m + 596 + 130 * GZ9_26_1 + 130) (h2 : GZ9_26_0 = 0) (h3 : GZ9_26_1 = 1) : x < m + 276 + 2 * GZ9_26_0 ∨ m + 276 + 2 * GZ9_26_0 + (320 - 2 * GZ9_26_0) ≤ x := by omega
theorem zx_X16_change_168 {GZ9_26_0 GZ9_26_2 m x : Nat} (h0 : m + 596 + 130 * GZ9_26_2 ≤ x) (h1 : x < m + 596 + 130 * GZ9_26_2 + 130) (h2 : GZ9_26_0 = 0) (h3 : GZ9_26_2 = 2) : x < m + 276 + 2 * GZ9_26_0 ∨ m + 276 + 2 * GZ9_26_0 + (320 - 2 * GZ9_26_0) ≤ x := by omega
theorem zx_X16_change_169 {GZ9_26_0 m x : Nat} (h0 : x < m + 0 ∨ m + 0 + 8322 ≤ x) (h1 : GZ9_26_0 = 0) : x < m + 276 + 2 * GZ9_26_0 ∨ m + 276 + 2 * GZ9_26_0 + (320 - 2 * GZ9_26_0) ≤ x := by omega
theorem zx_X16_change_170 {GZ9_26_0 m x : Nat} (h0 : m + 7486 ≤ x) (h1 : x < m + 7486 + 108) (h2 : GZ9_26_0 = 0) : x < m + 276 + 2 * GZ9_26_0 ∨ m + 276 + 2 * GZ9_26_0 + (320 - 2 * GZ9_26_0) ≤ x := by omega
theorem zx_X16_change_171 {GZ9_26_0 m x : Nat} (h0 : m + 83 ≤ x) (h1 : x < m + 83 + 9) (h2 : GZ9_26_0 = 0) : x < m + 276 + 2 * GZ9_26_0 ∨ m + 276 + 2 * GZ9_26_0 + (320 - 2 * GZ9_26_0) ≤ x := by omega
theorem zx_X16_change_172 {GZ9_26_0 m x : Nat} (h0 : m + 6316 ≤ x) (h1 : x < m + 6316 + 1170) (h2 : GZ9_26_0 = 0) : x < m + 276 + 2 * GZ9_26_0 ∨ m + 276 + 2 * GZ9_26_0 + (320 - 2 * GZ9_26_0) ≤ x := by omega
theorem zx_X16_change_173 {GZ9_26_0 m x : Nat} (h0 : m + 92 ≤ x) (h1 : x < m + 92 + 1) (h2 : GZ9_26_0 = 0) : x < m + 276 + 2 * GZ9_26_0 ∨ m + 276 + 2 * GZ9_26_0 + (320 - 2 * GZ9_26_0) ≤ x := by omega
theorem zx_X16_change_174 {GZ9_26_0 m x : Nat} (h0 : m + 93 ≤ x) (h1 : x < m + 93 + 1) (h2 : GZ9_26_0 = 0) : x < m + 276 + 2 * GZ9_26_0 ∨ m + 276 + 2 * GZ9_26_0 + (320 - 2 * GZ9_26_0) ≤ x := by omega
theorem zx_X16_change_175 {GZ9_26_0 m x : Nat} (h0 : m + 100 ≤ x) (h1 : x < m + 100 + 49) (h2 : GZ9_26_0 = 0) : x < m + 276 + 2 * GZ9_26_0 ∨ m + 276 + 2 * GZ9_26_0 + (320 - 2 * GZ9_26_0) ≤ x := by omega
theorem zx_X16_change_176 {GZ9_26_0 m x : Nat} (h0 : m + 212 ≤ x) (h1 : x < m + 212 + 61) (h2 : GZ9_26_0 = 0) : x < m + 276 + 2 * GZ9_26_0 ∨ m + 276 + 2 * GZ9_26_0 + (320 - 2 * GZ9_26_0) ≤ x := by omega
theorem zx_X16_change_177 {GZ9_26_0 m x : Nat} (h0 : m + 149 ≤ x) (h1 : x < m + 149 + 27) (h2 : GZ9_26_0 = 0) : x < m + 276 + 2 * GZ9_26_0 ∨ m + 276 + 2 * GZ9_26_0 + (320 - 2 * GZ9_26_0) ≤ x := by omega
theorem zx_X16_change_178 {GZ9_26_0 m : Nat} (h0 : GZ9_26_0 = 0) : (m + 94) < m + 276 + 2 * GZ9_26_0 ∨ m + 276 + 2 * GZ9_26_0 + (320 - 2 * GZ9_26_0) ≤ (m + 94) := by omega
theorem zx_X16_change_179 {GZ9_26_2 GZ9_26_4 m x : Nat} (h0 : m + 596 + 130 * GZ9_26_4 ≤ x) (h1 : x < m + 596 + 130 * GZ9_26_4 + 130) (h2 : GZ9_26_2 = 2) (h3 : GZ9_26_4 = 4) : x < m + 596 + 130 * GZ9_26_2 ∨ m + 596 + 130 * GZ9_26_2 + 130 ≤ x := by omega
theorem zx_X16_change_180 {m : Nat}  : (m + 83 + 1) < m + 83 ∨ m + 83 + 1 ≤ (m + 83 + 1) := by omega
theorem zx_X16_change_181 {m : Nat}  : (m + 83 + 2) < m + 83 ∨ m + 83 + 1 ≤ (m + 83 + 2) := by omega
theorem zx_X16_change_182 {m : Nat}  : (m + 83 + 3) < m + 83 ∨ m + 83 + 1 ≤ (m + 83 + 3) := by omega
theorem zx_X16_change_183 {m : Nat}  : (m + 83 + 4) < m + 83 ∨ m + 83 + 1 ≤ (m + 83 + 4) := by omega
theorem zx_X16_change_184 {m : Nat}  : (m + 83 + 5) < m + 83 ∨ m + 83 + 1 ≤ (m + 83 + 5) := by omega
theorem zx_X16_change_185 {m : Nat}  : (m + 83 + 6) < m + 83 ∨ m + 83 + 1 ≤ (m + 83 + 6) := by omega
theorem zx_X16_change_186 {m : Nat}  : (m + 83 + 7) < m + 83 ∨ m + 83 + 1 ≤ (m + 83 + 7) := by omega
theorem zx_X16_change_187 {m : Nat}  : (m + 83 + 8) < m + 83 ∨ m + 83 + 1 ≤ (m + 83 + 8) := by omega
theorem zx_X16_change_188 {m x : Nat} (h0 : m + 7486 ≤ x) (h1 : x < m + 7486 + 108) : x < m + 83 ∨ m + 83 + 1 ≤ x := by omega
theorem zx_X16_change_189 {m : Nat}  : m < m + 83 ∨ m + 83 + 1 ≤ m := by omega
theorem zx_X16_change_190 {m x : Nat} (h0 : x < m + 0 ∨ m + 0 + 8322 ≤ x) : x < m + 83 ∨ m + 83 + 1 ≤ x := by omega
theorem zx_X16_change_191 {m x : Nat} (h0 : m + 6316 ≤ x) (h1 : x < m + 6316 + 1170) : x < m + 83 ∨ m + 83 + 1 ≤ x := by omega
theorem zx_X16_change_192 {m x : Nat} (h0 : m + 92 ≤ x) (h1 : x < m + 92 + 1) : x < m + 83 ∨ m + 83 + 1 ≤ x := by omega
theorem zx_X16_change_193 {m x : Nat} (h0 : m + 93 ≤ x) (h1 : x < m + 93 + 1) : x < m + 83 ∨ m + 83 + 1 ≤ x := by omega
theorem zx_X16_change_194 {m x : Nat} (h0 : m + 100 ≤ x) (h1 : x < m + 100 + 49) : x < m + 83 ∨ m + 83 + 1 ≤ x := by omega
theorem zx_X16_change_195 {m x : Nat} (h0 : m + 212 ≤ x) (h1 : x < m + 212 + 61) : x < m + 83 ∨ m + 83 + 1 ≤ x := by omega
theorem zx_X16_change_196 {m x : Nat} (h0 : m + 149 ≤ x) (h1 : x < m + 149 + 27) : x < m + 83 ∨ m + 83 + 1 ≤ x := by omega
theorem zx_X16_change_197 {m : Nat}  : (m + 94) < m + 83 ∨ m + 83 + 1 ≤ (m + 94) := by omega
theorem zx_X16_change_198 {GZ9_26_0 m : Nat} (h0 : GZ9_26_0 = 0) : m < m + 596 + 130 * GZ9_26_0 ∨ m + 596 + 130 * GZ9_26_0 + (5720 - 130 * GZ9_26_0) ≤ m := by omega
theorem zx_X16_change_199 {GZ9_26_0 m x : Nat} (h0 : x < m + 0 ∨ m + 0 + 8322 ≤ x) (h1 : GZ9_26_0 = 0) : x < m + 596 + 130 * GZ9_26_0 ∨ m + 596 + 130 * GZ9_26_0 + (5720 - 130 * GZ9_26_0) ≤ x := by omega
theorem zx_X16_change_200 {GZ9_26_0 m x : Nat} (h0 : m + 7486 ≤ x) (h1 : x < m + 7486 + 108) (h2 : GZ9_26_0 = 0) : x < m + 596 + 130 * GZ9_26_0 ∨ m + 596 + 130 * GZ9_26_0 + (5720 - 130 * GZ9_26_0) ≤ x := by omega
theorem zx_X16_change_201 {GZ9_26_0 m x : Nat} (h0 : m + 6316 ≤ x) (h1 : x < m + 6316 + 1170) (h2 : GZ9_26_0 = 0) : x < m + 596 + 130 * GZ9_26_0 ∨ m + 596 + 130 * GZ9_26_0 + (5720 - 130 * GZ9_26_0) ≤ x := by omega
theorem zx_X16_change_202 {GZ9_26_0 m x : Nat} (h0 : m + 92 ≤ x) (h1 : x < m + 92 + 1) (h2 : GZ9_26_0 = 0) : x < m + 596 + 130 * GZ9_26_0 ∨ m + 596 + 130 * GZ9_26_0 + (5720 - 130 * GZ9_26_0) ≤ x := by omega
theorem zx_X16_change_203 {GZ9_26_0 m x : Nat} (h0 : m + 93 ≤ x) (h1 : x < m + 93 + 1) (h2 : GZ9_26_0 = 0) : x < m + 596 + 130 * GZ9_26_0 ∨ m + 596 + 130 * GZ9_26_0 + (5720 - 130 * GZ9_26_0) ≤ x := by omega
theorem zx_X16_change_204 {GZ9_26_0 m x : Nat} (h0 : m + 100 ≤ x) (h1 : x < m + 100 + 49) (h2 : GZ9_26_0 = 0) : x < m + 596 + 130 * GZ9_26_0 ∨ m + 596 + 130 * GZ9_26_0 + (5720 - 130 * GZ9_26_0) ≤ x := by omega
theorem zx_X16_change_205 {GZ9_26_0 m x : Nat} (h0 : m + 212 ≤ x) (h1 : x < m + 212 + 61) (h2 : GZ9_26_0 = 0) : x < m + 596 + 130 * GZ9_26_0 ∨ m + 596 + 130 * GZ9_26_0 + (5720 - 130 * GZ9_26_0) ≤ x := by omega
theorem zx_X16_change_206 {GZ9_26_0 m x : Nat} (h0 : m + 149 ≤ x) (h1 : x < m + 149 + 27) (h2 : GZ9_26_0 = 0) : x < m + 596 + 130 * GZ9_26_0 ∨ m + 596 + 130 * GZ9_26_0 + (5720 - 130 * GZ9_26_0) ≤ x := by omega
theorem zx_X16_change_207 {GZ9_26_0 m : Nat} (h0 : GZ9_26_0 = 0) : (m + 94) < m + 596 + 130 * GZ9_26_0 ∨ m + 596 + 130 * GZ9_26_0 + (5720 - 130 * GZ9_26_0) ≤ (m + 94) := by omega
set_option maxHeartbeats 8000000 in
set_option maxRecDepth 100000 in
theorem c_X16_change {w : zM} {n9 : Int32} (m : Nat) (op : Int32) (s9 : Int32) (v : Int32) (to : Int32) (hI : zInv w m n9) : zCon 11 zq_X16_change [.ref m, .int op, .int s9, .int v, .int to] w (fun v9 w9' => zSI w w9' ∧ (∀ x, (x < m + 0 ∨ m + 0 + 8322 ≤ x) → w9' x = w x) ∧ zInv w9' m n9 ∧ ∃ r9 : Int32, v9 = some (.int r9) ∧ True) := by
  intro d sz hd
  obtain ⟨d, rfl⟩ : ∃ d9, d = d9 + 1 := ⟨d - 1, by omega⟩
  generalize hPost : (fun (r9' : Option (Option Value)) (w9' : zM) (z9 : Nat) => z9 = sz ∧ ∃ v9, r9' = some v9 ∧ (zSI w w9' ∧ (∀ x, (x < m + 0 ∨ m + 0 + 8322 ≤ x) → w9' x = w x) ∧ zInv w9' m n9 ∧ ∃ r9 : Int32, v9 = some (.int r9) ∧ True)) = Post
  show zP (d + 1) zq_X16_change 0 [(0, .ref m), (1, .int op), (2, .int s9), (3, .int v), (4, .int to)] [] w sz 0 0 Post
  have k1 := zrng op
  have k2 := zrng s9
  have k3 := zrng v
  have k4 := zrng to
  obtain ⟨g, r, hm, hR_m, hSl0, hMd0, hPl0, ⟨ff, hAf0, hff⟩, hBo0, hBl0, hGa0, hGb0, hBd0, hI12, hI24, hI29, hI31, hIn⟩ := hI
  have k5 := zrng (g 12)
  have hz6 : ((g 12).toNatClampNeg : Int) = (g 12).toInt := znat (by first | omega | decide)
  have k7 := zrng (g 24)
  have hz8 : ((g 24).toNatClampNeg : Int) = (g 24).toInt := znat (by first | omega | decide)
  have k9 := zrng (g 29)
  have hz10 : ((g 29).toNatClampNeg : Int) = (g 29).toInt := znat (by first | omega | decide)
  have k11 := zrng (g 31)
  have hz12 : ((g 31).toNatClampNeg : Int) = (g 31).toInt := znat (by first | omega | decide)
  refine zp_seg (pc' := 1) (lv' := [(0, .ref m), (1, .int op), (2, .int s9), (3, .int v), (4, .int to)]) (st' := [.int s9]) [(0, .iload_n 2)] (by decide +kernel) rfl ?_
  refine zr_callS (idx := 551) (j := 336) (by decide +kernel) (by decide +kernel) (by decide) (show zMe 336 = some zq_X16_isSlot from rfl) rfl rfl (Nat.le_of_ble_eq_true rfl) rfl rfl (Nat.le_of_ble_eq_true rfl) (Nat.le_of_ble_eq_true rfl) (c_X16_isSlot (w := w) s9 ) (by omega) (fun v1 w1 hp1 => ?_)
  obtain ⟨hpw1, r1, rfl, hrb1, hr1⟩ := hp1
  replace hpw1 := hpw1.symm
  subst hpw1
  have kr1 := zrng r1
  show zP _ _ _ _ [.int r1] _ _ _ _ _
  refine zp_if (i := .ifCond .eq 11) (c := r1 = 0) (t := 15) (e := 7) (lv' := [(0, .ref m), (1, .int op), (2, .int s9), (3, .int v), (4, .int to)]) (st' := []) (by decide +kernel) rfl (fun cc4 => ?_) (fun cc4 => ?_)
  ·
    have f14 := zeqI cc4
    rw [show (0 : Int32).toInt = 0 from by decide] at f14
    refine zp_seg (pc' := 16) (lv' := [(0, .ref m), (1, .int op), (2, .int s9), (3, .int v), (4, .int to)]) (st' := [.int (Int32.ofInt (-1))]) [(15, .iconst (-1))] (by decide +kernel) rfl ?_
    have hoffend : ∀ x, (x < m + 0 ∨ m + 0 + 8322 ≤ x) → w x = w x := fun x hx => rfl
    refine zr_retI (by decide +kernel) rfl ?_
    rw [← hPost]; exact ⟨rfl, _, rfl, zSI.rf, hoffend, ⟨_, _, hm, hR_m, hSl0, hMd0, hPl0, ⟨_, hAf0, hff⟩, hBo0, hBl0, hGa0, hGb0, hBd0, hI12, hI24, hI29, hI31, hIn⟩, _, rfl, trivial⟩
  ·
    have f17 := zneI cc4
    rw [show (0 : Int32).toInt = 0 from by decide] at f17
    refine zp_seg (pc' := 9) (lv' := [(0, .ref m), (1, .int op), (2, .int s9), (3, .int v), (4, .int to)]) (st' := [.int to]) [(7, .iload 4)] (by decide +kernel) rfl ?_
    refine zr_callS (idx := 551) (j := 336) (by decide +kernel) (by decide +kernel) (by decide) (show zMe 336 = some zq_X16_isSlot from rfl) rfl rfl (Nat.le_of_ble_eq_true rfl) rfl rfl (Nat.le_of_ble_eq_true rfl) (Nat.le_of_ble_eq_true rfl) (c_X16_isSlot (w := w) to ) (by omega) (fun v9 w9 hp9 => ?_)
    obtain ⟨hpw9, r9, rfl, hrb9, hr9⟩ := hp9
    replace hpw9 := hpw9.symm
    subst hpw9
    have kr9 := zrng r9
    show zP _ _ _ _ [.int r9] _ _ _ _ _
    refine zp_if (i := .ifCond .ne 5) (c := ¬ r9 = 0) (t := 17) (e := 15) (lv' := [(0, .ref m), (1, .int op), (2, .int s9), (3, .int v), (4, .int to)]) (st' := []) (by decide +kernel) rfl (fun cc12 => ?_) (fun cc12 => ?_)
    ·
      have f18 := zneI cc12
      rw [show (0 : Int32).toInt = 0 from by decide] at f18
      have his1 := hr1 (hrb1.resolve_left cc4)
      have his2 := hr9 (hrb9.resolve_left cc12)
      have hz19 : (to.toNatClampNeg : Int) = to.toInt := znat (by first | omega | decide)
      refine zp_seg (pc' := 18) (lv' := [(0, .ref m), (1, .int op), (2, .int s9), (3, .int v), (4, .int to)]) (st' := [.ref m]) [(17, .aload_n 0)] (by decide +kernel) rfl ?_
      refine zr_get (idx := 450) (k := 20) (v := .ref (m + 82)) (by decide +kernel) (by decide +kernel) hm rfl ?_
      refine zp_seg (pc' := 22) (lv' := [(0, .ref m), (1, .int op), (2, .int s9), (3, .int v), (4, .int to)]) (st' := [.int s9, .ref (m + 82)]) [(21, .iload_n 2)] (by decide +kernel) rfl ?_
      have hb21 := hR_m.slots
      have hz22 : (s9.toNatClampNeg : Int) = s9.toInt := znat (by first | omega | decide)
      refine zr_aald (v := .ref (m + 7486 + 9 * s9.toNatClampNeg)) (by decide +kernel) hb21 (by decide) (zin (by first | omega | decide) (by first | omega | decide)) (zsl_at (by omega)) ?_
      obtain ⟨kS1, hkS1⟩ := hSl0 s9.toNatClampNeg (by omega)
      obtain ⟨g1, fn1, fd1, fa1, fb1, fc1, fe1, fr1, fu1, hT1, hAn1, hAd1, hAa1, hAb1, hAc1, hAe1, hAr1, hAu1, hK1⟩ := id hkS1
      obtain ⟨hK10, hKn1, hKd1, hKx1, hKm1, hKl1, hKr1, hKu1, hKk1⟩ := id hK1
      refine zp_seg (pc' := 26) (lv' := [(5, .ref (m + 7486 + 9 * s9.toNatClampNeg)), (0, .ref m), (1, .int op), (2, .int s9), (3, .int v), (4, .int to)]) (st' := [.ref m]) [(23, .astore 5), (25, .aload_n 0)] (by decide +kernel) rfl ?_
      refine zr_callV (idx := 555) (j := 337) (by decide +kernel) (by decide +kernel) (show zMe 337 = some zq_X16_begin from rfl) rfl rfl (Nat.le_of_ble_eq_true rfl) rfl rfl hm (Nat.le_of_ble_eq_true rfl) (Nat.le_of_ble_eq_true rfl) (c_X16_beginZ (w := w) m hm hR_m) (by omega) (fun v26 w26 hp26 => ?_)
      obtain ⟨Z9_26, hsi26, heq26, hp26_0, hp26_1, rfl⟩ := hp26
      have hM26 : w26 m = some (.inl (15, zMo m (zs (zs (zs g 1 Z9_26) 3 Z9_26) 16 Z9_26) r)) := hp26_0
      show zP _ _ _ _ [] _ _ _ _ _
      have k23 := zrng Z9_26
      have hz24 : (Z9_26.toNatClampNeg : Int) = Z9_26.toInt := znat (by first | omega | decide)
      have hgzZ9_26_0 : Z9_26.toNatClampNeg = 0 := by omega
      refine zp_seg (pc' := 32) (lv' := [(5, .ref (m + 7486 + 9 * s9.toNatClampNeg)), (0, .ref m), (1, .int op), (2, .int s9), (3, .int v), (4, .int to)]) (st' := [.int 10, .int op]) [(29, .iload_n 1), (30, .bipush 10)] (by decide +kernel) rfl ?_
      refine zp_if (i := .if_icmp .ne 22) (c := ¬ op = 10) (t := 54) (e := 35) (lv' := [(5, .ref (m + 7486 + 9 * s9.toNatClampNeg)), (0, .ref m), (1, .int op), (2, .int s9), (3, .int v), (4, .int to)]) (st' := []) (by decide +kernel) rfl (fun cc32 => ?_) (fun cc32 => ?_)
      ·
        have f26 := zneI cc32
        rw [show (10 : Int32).toInt = 10 from by decide] at f26
        refine zp_seg (pc' := 56) (lv' := [(5, .ref (m + 7486 + 9 * s9.toNatClampNeg)), (0, .ref m), (1, .int op), (2, .int s9), (3, .int v), (4, .int to)]) (st' := [.ref (m + 7486 + 9 * s9.toNatClampNeg)]) [(54, .aload 5)] (by decide +kernel) rfl ?_
        have hb27 : w26 (m + 7486 + 9 * s9.toNatClampNeg) = some (.inl (13, zTo (m + 7486 + 9 * s9.toNatClampNeg) g1)) := (heq26 (m + 7486 + 9 * s9.toNatClampNeg) (by omega)).trans hT1
        refine zr_get (idx := 202) (k := 0) (v := .int (g1 0)) (by decide +kernel) (by decide +kernel) hb27 rfl ?_
        refine zp_seg (pc' := 60) (lv' := [(5, .ref (m + 7486 + 9 * s9.toNatClampNeg)), (0, .ref m), (1, .int op), (2, .int s9), (3, .int v), (4, .int to)]) (st' := [.int 1, .int (g1 0)]) [(59, .iconst 1)] (by decide +kernel) rfl ?_
        have hJ75 : ∀ (_ : True), (kS1 = 1 ∨ kS1 = 2) → zP (d + 1) zq_X16_change 75 [(0, .ref m), (1, .int op), (3, .int v), (4, .int to), (5, .ref (m + 7486 + 9 * s9.toNatClampNeg))] [] w26 sz 0 0 Post := by
          intro _ hkk9
          refine zp_seg (pc' := 76) (lv' := [(0, .ref m), (1, .int op), (3, .int v), (4, .int to), (5, .ref (m + 7486 + 9 * s9.toNatClampNeg))]) (st' := [.int op]) [(75, .iload_n 1)] (by decide +kernel) rfl ?_
          refine zp_if (i := .ifCond .lt 9) (c := op < 0) (t := 85) (e := 79) (lv' := [(0, .ref m), (1, .int op), (3, .int v), (4, .int to), (5, .ref (m + 7486 + 9 * s9.toNatClampNeg))]) (st' := []) (by decide +kernel) rfl (fun cc76 => ?_) (fun cc76 => ?_)
          ·
            have f28 := zltI cc76
            rw [show (0 : Int32).toInt = 0 from by decide] at f28
            refine zp_seg (pc' := 86) (lv' := [(0, .ref m), (1, .int op), (3, .int v), (4, .int to), (5, .ref (m + 7486 + 9 * s9.toNatClampNeg))]) (st' := [.int (Int32.ofInt (-1))]) [(85, .iconst (-1))] (by decide +kernel) rfl ?_
            have hoffend : ∀ x, (x < m + 0 ∨ m + 0 + 8322 ≤ x) → w26 x = w x := fun x hx => (heq26 x (zx_X16_change_0 hx))
            have hb29 := hR_m.si hsi26
            have hb30 : zSlo w26 (m + 7486) := hSl0.ag (fun x hx1 hx2 => (heq26 x (zx_X16_change_1 hx1 hx2)))
            have hb31 : zTm w26 (m + 83) := hMd0.ag (fun x hx1 hx2 => (heq26 x (zx_X16_change_2 hx1 hx2)))
            have hb32 : zPil w26 (m + 6316) := hPl0.ag (fun x hx1 hx2 => (heq26 x (zx_X16_change_3 hx1 hx2)))
            have hb33 : zBya w26 (m + 92) 4000 := hBo0.ag (fun x hx1 hx2 => (heq26 x (zx_X16_change_4 hx1 hx2)))
            have hb34 : zBya w26 (m + 93) 4000 := hBl0.ag (fun x hx1 hx2 => (heq26 x (zx_X16_change_5 hx1 hx2)))
            have hb35 : zGr w26 (m + 100) 48 48 := hGa0.ag (fun x hx1 hx2 => (heq26 x (zx_X16_change_6 hx1 hx2)))
            have hb36 : zGr w26 (m + 212) 60 46 := hGb0.ag (fun x hx1 hx2 => (heq26 x (zx_X16_change_7 hx1 hx2)))
            have hb37 : zBd w26 (m + 149) := hBd0.ag (fun x hx1 hx2 => (heq26 x (zx_X16_change_8 hx1 hx2)))
            have hb38 : w26 (m + 94) = some (.inr (0, 60, .inl ff)) := (heq26 (m + 94) (zx_X16_change_9)).trans hAf0
            refine zr_retI (by decide +kernel) rfl ?_
            rw [← hPost]; exact ⟨rfl, _, rfl, hsi26, hoffend, ⟨_, _, hM26, hb29, hb30, hb31, hb32, ⟨_, hb38, hff⟩, hb33, hb34, hb35, hb36, hb37, hI12, hI24, hI29, hI31, hIn⟩, _, rfl, trivial⟩
          ·
            have f40 := znltI cc76
            rw [show (0 : Int32).toInt = 0 from by decide] at f40
            refine zp_seg (pc' := 82) (lv' := [(0, .ref m), (1, .int op), (3, .int v), (4, .int to), (5, .ref (m + 7486 + 9 * s9.toNatClampNeg))]) (st' := [.int 11, .int op]) [(79, .iload_n 1), (80, .bipush 11)] (by decide +kernel) rfl ?_
            refine zp_if (i := .if_icmp .le 5) (c := op ≤ 11) (t := 87) (e := 85) (lv' := [(0, .ref m), (1, .int op), (3, .int v), (4, .int to), (5, .ref (m + 7486 + 9 * s9.toNatClampNeg))]) (st' := []) (by decide +kernel) rfl (fun cc82 => ?_) (fun cc82 => ?_)
            ·
              have f42 := zleI cc82
              rw [show (11 : Int32).toInt = 11 from by decide] at f42
              refine zp_seg (pc' := 89) (lv' := [(0, .ref m), (1, .int op), (3, .int v), (4, .int to), (5, .ref (m + 7486 + 9 * s9.toNatClampNeg))]) (st' := [.ref (m + 7486 + 9 * s9.toNatClampNeg)]) [(87, .aload 5)] (by decide +kernel) rfl ?_
              refine zr_get (idx := 202) (k := 0) (v := .int (g1 0)) (by decide +kernel) (by decide +kernel) hb27 rfl ?_
              refine zp_seg (pc' := 93) (lv' := [(0, .ref m), (1, .int op), (3, .int v), (4, .int to), (5, .ref (m + 7486 + 9 * s9.toNatClampNeg))]) (st' := [.int 2, .int (g1 0)]) [(92, .iconst 2)] (by decide +kernel) rfl ?_
              have hJ125 : ∀ (_ : True), (kS1 = 2 → op.toInt ≤ 1 ∨ op.toInt = 9 ∨ op.toInt = 11) → zP (d + 1) zq_X16_change 125 [(0, .ref m), (1, .int op), (3, .int v), (4, .int to), (5, .ref (m + 7486 + 9 * s9.toNatClampNeg))] [] w26 sz 0 0 Post := by
                intro _ hop9
                refine zp_seg (pc' := 126) (lv' := [(0, .ref m), (1, .int op), (3, .int v), (4, .int to), (5, .ref (m + 7486 + 9 * s9.toNatClampNeg))]) (st' := [.ref m]) [(125, .aload_n 0)] (by decide +kernel) rfl ?_
                refine zr_get (idx := 453) (k := 21) (v := .ref (m + 83)) (by decide +kernel) (by decide +kernel) hM26 rfl ?_
                refine zp_seg (pc' := 131) (lv' := [(0, .ref m), (1, .int op), (3, .int v), (4, .int to), (5, .ref (m + 7486 + 9 * s9.toNatClampNeg))]) (st' := [.ref (m + 7486 + 9 * s9.toNatClampNeg), .ref (m + 83)]) [(129, .aload 5)] (by decide +kernel) rfl ?_
                have hb43 : zTm w26 (m + 83) := hMd0.ag (fun x hx1 hx2 => (heq26 x (zx_X16_change_2 hx1 hx2)))
                have hb44 : zTi w26 (m + 7486 + 9 * s9.toNatClampNeg) kS1 := hkS1.ag (fun x hx1 hx2 => (heq26 x (by omega)))
                refine zr_callS (idx := 547) (j := 298) (by decide +kernel) (by decide +kernel) (by decide) (show zMe 298 = some zq_X16_copy from rfl) rfl rfl (Nat.le_of_ble_eq_true rfl) rfl rfl (Nat.le_of_ble_eq_true rfl) (Nat.le_of_ble_eq_true rfl) (c_X16_copyM (w := w26) (m + 83) (m + 7486 + 9 * s9.toNatClampNeg) hb43 hb44 (by first | omega | decide | assumption | exact zr1_1 | exact zr1_0 | fail "num")) (by omega) (fun v131 w131 hp131 => ?_)
                obtain ⟨hsi131, heq131, hp131_0, rfl⟩ := hp131
                show zP _ _ _ _ [] _ _ _ _ _
                refine zp_seg (pc' := 137) (lv' := [(0, .ref m), (1, .int op), (3, .int v), (4, .int to), (5, .ref (m + 7486 + 9 * s9.toNatClampNeg))]) (st' := [.int 9, .int op]) [(134, .iload_n 1), (135, .bipush 9)] (by decide +kernel) rfl ?_
                refine zp_if (i := .if_icmp .ne 53) (c := ¬ op = 9) (t := 190) (e := 140) (lv' := [(0, .ref m), (1, .int op), (3, .int v), (4, .int to), (5, .ref (m + 7486 + 9 * s9.toNatClampNeg))]) (st' := []) (by decide +kernel) rfl (fun cc137 => ?_) (fun cc137 => ?_)
                ·
                  have f46 := zneI cc137
                  rw [show (9 : Int32).toInt = 9 from by decide] at f46
                  refine zp_seg (pc' := 193) (lv' := [(0, .ref m), (1, .int op), (3, .int v), (4, .int to), (5, .ref (m + 7486 + 9 * s9.toNatClampNeg))]) (st' := [.int 11, .int op]) [(190, .iload_n 1), (191, .bipush 11)] (by decide +kernel) rfl ?_
                  refine zp_if (i := .if_icmp .ne 17) (c := ¬ op = 11) (t := 210) (e := 196) (lv' := [(0, .ref m), (1, .int op), (3, .int v), (4, .int to), (5, .ref (m + 7486 + 9 * s9.toNatClampNeg))]) (st' := []) (by decide +kernel) rfl (fun cc193 => ?_) (fun cc193 => ?_)
                  ·
                    have f47 := zneI cc193
                    rw [show (11 : Int32).toInt = 11 from by decide] at f47
                    refine zp_seg (pc' := 211) (lv' := [(0, .ref m), (1, .int op), (3, .int v), (4, .int to), (5, .ref (m + 7486 + 9 * s9.toNatClampNeg))]) (st' := [.ref m]) [(210, .aload_n 0)] (by decide +kernel) rfl ?_
                    have hb48 : w131 m = some (.inl (15, zMo m (zs (zs (zs g 1 Z9_26) 3 Z9_26) 16 Z9_26) r)) := (heq131 m (zx_X16_change_10)).trans hM26
                    have hb49 := hR_m.si (hsi26.tr hsi131)
                    refine zr_callV (idx := 140) (j := 274) (by decide +kernel) (by decide +kernel) (show zMe 274 = some zq_X16_newB from rfl) rfl rfl (Nat.le_of_ble_eq_true rfl) rfl rfl hb48 (Nat.le_of_ble_eq_true rfl) (Nat.le_of_ble_eq_true rfl) (c_X16_newB (w := w131) (g3 := Z9_26) m hb48 hb49 (by first | omega | decide | assumption | exact zr1_1 | exact zr1_0 | fail "num") rfl) (by omega) (fun v211 w211 hp211 => ?_)
                    obtain ⟨hsi211, heq211, hp211_0, hp211_1, rfl⟩ := hp211
                    have hM211 : w211 m = some (.inl (15, zMo m (zs (zs (zs g 1 Z9_26) 3 (Z9_26 + 1)) 16 Z9_26) r)) := hp211_0
                    show zP _ _ _ _ [.ref (m + 596 + 130 * Z9_26.toNatClampNeg)] _ _ _ _ _
                    refine zp_seg (pc' := 217) (lv' := [(6, .ref (m + 596 + 130 * Z9_26.toNatClampNeg)), (0, .ref m), (1, .int op), (3, .int v), (4, .int to), (5, .ref (m + 7486 + 9 * s9.toNatClampNeg))]) (st' := [.ref m]) [(214, .astore 6), (216, .aload_n 0)] (by decide +kernel) rfl ?_
                    have k51 := zaddC Z9_26 1 (n := 1) (by decide) (by omega) (by omega)
                    have hz52 : ((Z9_26 + 1).toNatClampNeg : Int) = (Z9_26 + 1).toInt := znat (by first | omega | decide)
                    have hgzZ9_26_1 : (Z9_26 + 1).toNatClampNeg = 1 := by omega
                    have hb53 := hb49.si hsi211
                    refine zr_callV (idx := 140) (j := 274) (by decide +kernel) (by decide +kernel) (show zMe 274 = some zq_X16_newB from rfl) rfl rfl (Nat.le_of_ble_eq_true rfl) rfl rfl hM211 (Nat.le_of_ble_eq_true rfl) (Nat.le_of_ble_eq_true rfl) (c_X16_newB (w := w211) (g3 := (Z9_26 + 1)) m hM211 hb53 (by first | omega | decide | assumption | exact zr1_1 | exact zr1_0 | fail "num") rfl) (by omega) (fun v217 w217 hp217 => ?_)
                    obtain ⟨hsi217, heq217, hp217_0, hp217_1, rfl⟩ := hp217
                    have hM217 : w217 m = some (.inl (15, zMo m (zs (zs (zs g 1 Z9_26) 3 (Z9_26 + 1 + 1)) 16 Z9_26) r)) := hp217_0
                    show zP _ _ _ _ [.ref (m + 596 + 130 * (Z9_26 + 1).toNatClampNeg)] _ _ _ _ _
                    refine zp_seg (pc' := 226) (lv' := [(7, .ref (m + 596 + 130 * (Z9_26 + 1).toNatClampNeg)), (6, .ref (m + 596 + 130 * Z9_26.toNatClampNeg)), (0, .ref m), (1, .int op), (3, .int v), (4, .int to), (5, .ref (m + 7486 + 9 * s9.toNatClampNeg))]) (st' := [.ref (m + 7486 + 9 * s9.toNatClampNeg), .ref (m + 596 + 130 * Z9_26.toNatClampNeg)]) [(220, .astore 7), (222, .aload 6), (224, .aload 5)] (by decide +kernel) rfl ?_
                    have hb54 : w217 (m + 7486 + 9 * s9.toNatClampNeg) = some (.inl (13, zTo (m + 7486 + 9 * s9.toNatClampNeg) g1)) := ((heq217 (m + 7486 + 9 * s9.toNatClampNeg) (by omega)).trans ((heq211 (m + 7486 + 9 * s9.toNatClampNeg) (by omega)).trans (heq131 (m + 7486 + 9 * s9.toNatClampNeg) (by omega)))).trans hb27
                    refine zr_get (idx := 207) (k := 1) (v := .ref (m + 7486 + 9 * s9.toNatClampNeg + 1)) (by decide +kernel) (by decide +kernel) hb54 rfl ?_
                    have hb55 : zB w217 (m + 596 + 130 * Z9_26.toNatClampNeg) zbZ := hp211_1.ag (fun x hx1 hx2 => (heq217 x ⟨(zx_X16_change_11 hx1 hx2 hgzZ9_26_0), (zx_X16_change_12 hx1 hx2 hgzZ9_26_0 hgzZ9_26_1)⟩))
                    have ho229_b := zB.o hb55
                    have hb56 : w217 (m + 7486 + 9 * s9.toNatClampNeg + 1) = some (.inr (0, 325, .inl fn1)) := ((heq217 (m + 7486 + 9 * s9.toNatClampNeg + 1) (by omega)).trans ((heq211 (m + 7486 + 9 * s9.toNatClampNeg + 1) (by omega)).trans ((heq131 (m + 7486 + 9 * s9.toNatClampNeg + 1) (by omega)).trans (heq26 (m + 7486 + 9 * s9.toNatClampNeg + 1) (by omega))))).trans hAn1
                    refine zr_callS (idx := 295) (j := 299) (by decide +kernel) (by decide +kernel) (by decide) (show zMe 299 = some zq_X16_load from rfl) rfl rfl (Nat.le_of_ble_eq_true rfl) rfl rfl (Nat.le_of_ble_eq_true rfl) (Nat.le_of_ble_eq_true rfl) (c_X16_load (w := w217) (m + 596 + 130 * Z9_26.toNatClampNeg) (m + 7486 + 9 * s9.toNatClampNeg + 1) ho229_b hb56 (by exact hKn1) (by first | omega | decide | assumption | exact zr1_1 | exact zr1_0 | fail "num")) (by omega) (fun v229 w229 hp229 => ?_)
                    obtain ⟨hsi229, heq229, hp229_0, rfl⟩ := hp229
                    show zP _ _ _ _ [] _ _ _ _ _
                    refine zp_seg (pc' := 236) (lv' := [(7, .ref (m + 596 + 130 * (Z9_26 + 1).toNatClampNeg)), (6, .ref (m + 596 + 130 * Z9_26.toNatClampNeg)), (0, .ref m), (1, .int op), (3, .int v), (4, .int to), (5, .ref (m + 7486 + 9 * s9.toNatClampNeg))]) (st' := [.ref (m + 7486 + 9 * s9.toNatClampNeg), .ref (m + 596 + 130 * (Z9_26 + 1).toNatClampNeg)]) [(232, .aload 7), (234, .aload 5)] (by decide +kernel) rfl ?_
                    have hb57 : w229 (m + 7486 + 9 * s9.toNatClampNeg) = some (.inl (13, zTo (m + 7486 + 9 * s9.toNatClampNeg) g1)) := (heq229 (m + 7486 + 9 * s9.toNatClampNeg) (by omega)).trans hb54
                    refine zr_get (idx := 210) (k := 2) (v := .ref (m + 7486 + 9 * s9.toNatClampNeg + 2)) (by decide +kernel) (by decide +kernel) hb57 rfl ?_
                    have hb58 : zB w229 (m + 596 + 130 * (Z9_26 + 1).toNatClampNeg) zbZ := hp217_1.ag (fun x hx1 hx2 => (heq229 x (zx_X16_change_13 hx1 hx2 hgzZ9_26_0 hgzZ9_26_1)))
                    have ho239_b := zB.o hb58
                    have hb59 : w229 (m + 7486 + 9 * s9.toNatClampNeg + 2) = some (.inr (0, 325, .inl fd1)) := ((heq229 (m + 7486 + 9 * s9.toNatClampNeg + 2) (by omega)).trans ((heq217 (m + 7486 + 9 * s9.toNatClampNeg + 2) (by omega)).trans ((heq211 (m + 7486 + 9 * s9.toNatClampNeg + 2) (by omega)).trans ((heq131 (m + 7486 + 9 * s9.toNatClampNeg + 2) (by omega)).trans (heq26 (m + 7486 + 9 * s9.toNatClampNeg + 2) (by omega)))))).trans hAd1
                    refine zr_callS (idx := 295) (j := 299) (by decide +kernel) (by decide +kernel) (by decide) (show zMe 299 = some zq_X16_load from rfl) rfl rfl (Nat.le_of_ble_eq_true rfl) rfl rfl (Nat.le_of_ble_eq_true rfl) (Nat.le_of_ble_eq_true rfl) (c_X16_load (w := w229) (m + 596 + 130 * (Z9_26 + 1).toNatClampNeg) (m + 7486 + 9 * s9.toNatClampNeg + 2) ho239_b hb59 (by exact hKd1) (by first | omega | decide | assumption | exact zr1_1 | exact zr1_0 | fail "num")) (by omega) (fun v239 w239 hp239 => ?_)
                    obtain ⟨hsi239, heq239, hp239_0, rfl⟩ := hp239
                    show zP _ _ _ _ [] _ _ _ _ _
                    refine zp_seg (pc' := 243) (lv' := [(7, .ref (m + 596 + 130 * (Z9_26 + 1).toNatClampNeg)), (6, .ref (m + 596 + 130 * Z9_26.toNatClampNeg)), (0, .ref m), (1, .int op), (3, .int v), (4, .int to), (5, .ref (m + 7486 + 9 * s9.toNatClampNeg))]) (st' := [.int v]) [(242, .iload_n 3)] (by decide +kernel) rfl ?_
                    refine zr_callS (idx := 600) (j := 260) (by decide +kernel) (by decide +kernel) (by decide) (show zMe 260 = some zq_X16_rest from rfl) rfl rfl (Nat.le_of_ble_eq_true rfl) rfl rfl (Nat.le_of_ble_eq_true rfl) (Nat.le_of_ble_eq_true rfl) (c_X16_rest (w := w239) v ) (by omega) (fun v243 w243 hp243 => ?_)
                    obtain ⟨hpw243, r243, rfl, hr243⟩ := hp243
                    replace hpw243 := hpw243.symm
                    subst hpw243
                    have kr243 := zrng r243
                    show zP _ _ _ _ [.int r243] _ _ _ _ _
                    refine zp_seg (pc' := 248) (lv' := [(8, .int r243), (7, .ref (m + 596 + 130 * (Z9_26 + 1).toNatClampNeg)), (6, .ref (m + 596 + 130 * Z9_26.toNatClampNeg)), (0, .ref m), (1, .int op), (3, .int v), (4, .int to), (5, .ref (m + 7486 + 9 * s9.toNatClampNeg))]) (st' := []) [(246, .istore 8)] (by decide +kernel) rfl ?_
                    have hdn1 := zbT_dn fn1
                    have hdd1 := zbT_dn fd1
                    have hrn1 := zbT_rw fn1
                    have hrd1 := zbT_rw fd1
                    have hd0 := hKk1.2.1 (hkk9.elim Or.inl (fun e => Or.inr (Or.inl e)))
                    refine zp_seg (pc' := 250) (lv' := [(8, .int r243), (7, .ref (m + 596 + 130 * (Z9_26 + 1).toNatClampNeg)), (6, .ref (m + 596 + 130 * Z9_26.toNatClampNeg)), (0, .ref m), (1, .int op), (3, .int v), (4, .int to), (5, .ref (m + 7486 + 9 * s9.toNatClampNeg))]) (st' := [.int 2, .int op]) [(248, .iload_n 1), (249, .iconst 2)] (by decide +kernel) rfl ?_
                    refine zp_if (i := .if_icmp .ge 17) (c := 2 ≤ op) (t := 267) (e := 253) (lv' := [(8, .int r243), (7, .ref (m + 596 + 130 * (Z9_26 + 1).toNatClampNeg)), (6, .ref (m + 596 + 130 * Z9_26.toNatClampNeg)), (0, .ref m), (1, .int op), (3, .int v), (4, .int to), (5, .ref (m + 7486 + 9 * s9.toNatClampNeg))]) (st' := []) (by decide +kernel) rfl (fun cc250 => ?_) (fun cc250 => ?_)
                    ·
                      have f61 := zleI cc250
                      rw [show (2 : Int32).toInt = 2 from by decide] at f61
                      have hk19 : kS1 = 1 := hkk9.resolve_right (fun e => by have := hop9 e; omega)
                      refine zp_seg (pc' := 268) (lv' := [(8, .int r243), (7, .ref (m + 596 + 130 * (Z9_26 + 1).toNatClampNeg)), (6, .ref (m + 596 + 130 * Z9_26.toNatClampNeg)), (0, .ref m), (1, .int op), (3, .int v), (4, .int to), (5, .ref (m + 7486 + 9 * s9.toNatClampNeg))]) (st' := [.ref m]) [(267, .aload_n 0)] (by decide +kernel) rfl ?_
                      have hb62 : w239 m = some (.inl (15, zMo m (zs (zs (zs g 1 Z9_26) 3 (Z9_26 + 1 + 1)) 16 Z9_26) r)) := ((heq239 m (zx_X16_change_15 hgzZ9_26_1)).trans (heq229 m (zx_X16_change_14 hgzZ9_26_0))).trans hM217
                      have k63 := zaddC (Z9_26 + 1) 1 (n := 1) (by decide) (by omega) (by omega)
                      have hz64 : ((Z9_26 + 1 + 1).toNatClampNeg : Int) = (Z9_26 + 1 + 1).toInt := znat (by first | omega | decide)
                      have hgzZ9_26_2 : (Z9_26 + 1 + 1).toNatClampNeg = 2 := by omega
                      have hb65 := hb53.si ((hsi217.tr hsi229).tr hsi239)
                      refine zr_callV (idx := 140) (j := 274) (by decide +kernel) (by decide +kernel) (show zMe 274 = some zq_X16_newB from rfl) rfl rfl (Nat.le_of_ble_eq_true rfl) rfl rfl hb62 (Nat.le_of_ble_eq_true rfl) (Nat.le_of_ble_eq_true rfl) (c_X16_newB (w := w239) (g3 := (Z9_26 + 1 + 1)) m hb62 hb65 (by first | omega | decide | assumption | exact zr1_1 | exact zr1_0 | fail "num") rfl) (by omega) (fun v268 w268 hp268 => ?_)
                      obtain ⟨hsi268, heq268, hp268_0, hp268_1, rfl⟩ := hp268
                      have hM268 : w268 m = some (.inl (15, zMo m (zs (zs (zs g 1 Z9_26) 3 (Z9_26 + 1 + 1 + 1)) 16 Z9_26) r)) := hp268_0
                      show zP _ _ _ _ [.ref (m + 596 + 130 * (Z9_26 + 1 + 1).toNatClampNeg)] _ _ _ _ _
                      refine zp_seg (pc' := 274) (lv' := [(9, .ref (m + 596 + 130 * (Z9_26 + 1 + 1).toNatClampNeg)), (8, .int r243), (7, .ref (m + 596 + 130 * (Z9_26 + 1).toNatClampNeg)), (6, .ref (m + 596 + 130 * Z9_26.toNatClampNeg)), (0, .ref m), (1, .int op), (3, .int v), (4, .int to), (5, .ref (m + 7486 + 9 * s9.toNatClampNeg))]) (st' := [.ref m]) [(271, .astore 9), (273, .aload_n 0)] (by decide +kernel) rfl ?_
                      have k66 := zaddC (Z9_26 + 1 + 1) 1 (n := 1) (by decide) (by omega) (by omega)
                      have hz67 : ((Z9_26 + 1 + 1 + 1).toNatClampNeg : Int) = (Z9_26 + 1 + 1 + 1).toInt := znat (by first | omega | decide)
                      have hgzZ9_26_3 : (Z9_26 + 1 + 1 + 1).toNatClampNeg = 3 := by omega
                      have hb68 := hb65.si hsi268
                      refine zr_callV (idx := 140) (j := 274) (by decide +kernel) (by decide +kernel) (show zMe 274 = some zq_X16_newB from rfl) rfl rfl (Nat.le_of_ble_eq_true rfl) rfl rfl hM268 (Nat.le_of_ble_eq_true rfl) (Nat.le_of_ble_eq_true rfl) (c_X16_newB (w := w268) (g3 := (Z9_26 + 1 + 1 + 1)) m hM268 hb68 (by first | omega | decide | assumption | exact zr1_1 | exact zr1_0 | fail "num") rfl) (by omega) (fun v274 w274 hp274 => ?_)
                      obtain ⟨hsi274, heq274, hp274_0, hp274_1, rfl⟩ := hp274
                      have hM274 : w274 m = some (.inl (15, zMo m (zs (zs (zs g 1 Z9_26) 3 (Z9_26 + 1 + 1 + 1 + 1)) 16 Z9_26) r)) := hp274_0
                      show zP _ _ _ _ [.ref (m + 596 + 130 * (Z9_26 + 1 + 1 + 1).toNatClampNeg)] _ _ _ _ _
                      refine zp_seg (pc' := 280) (lv' := [(10, .ref (m + 596 + 130 * (Z9_26 + 1 + 1 + 1).toNatClampNeg)), (9, .ref (m + 596 + 130 * (Z9_26 + 1 + 1).toNatClampNeg)), (8, .int r243), (7, .ref (m + 596 + 130 * (Z9_26 + 1).toNatClampNeg)), (6, .ref (m + 596 + 130 * Z9_26.toNatClampNeg)), (0, .ref m), (1, .int op), (3, .int v), (4, .int to), (5, .ref (m + 7486 + 9 * s9.toNatClampNeg))]) (st' := [.ref m]) [(277, .astore 10), (279, .aload_n 0)] (by decide +kernel) rfl ?_
                      have k69 := zaddC (Z9_26 + 1 + 1 + 1) 1 (n := 1) (by decide) (by omega) (by omega)
                      have hz70 : ((Z9_26 + 1 + 1 + 1 + 1).toNatClampNeg : Int) = (Z9_26 + 1 + 1 + 1 + 1).toInt := znat (by first | omega | decide)
                      have hgzZ9_26_4 : (Z9_26 + 1 + 1 + 1 + 1).toNatClampNeg = 4 := by omega
                      have hb71 := hb68.si hsi274
                      refine zr_callV (idx := 140) (j := 274) (by decide +kernel) (by decide +kernel) (show zMe 274 = some zq_X16_newB from rfl) rfl rfl (Nat.le_of_ble_eq_true rfl) rfl rfl hM274 (Nat.le_of_ble_eq_true rfl) (Nat.le_of_ble_eq_true rfl) (c_X16_newB (w := w274) (g3 := (Z9_26 + 1 + 1 + 1 + 1)) m hM274 hb71 (by first | omega | decide | assumption | exact zr1_1 | exact zr1_0 | fail "num") rfl) (by omega) (fun v280 w280 hp280 => ?_)
                      obtain ⟨hsi280, heq280, hp280_0, hp280_1, rfl⟩ := hp280
                      have hM280 : w280 m = some (.inl (15, zMo m (zs (zs (zs g 1 Z9_26) 3 (Z9_26 + 1 + 1 + 1 + 1 + 1)) 16 Z9_26) r)) := hp280_0
                      show zP _ _ _ _ [.ref (m + 596 + 130 * (Z9_26 + 1 + 1 + 1 + 1).toNatClampNeg)] _ _ _ _ _
                      refine zp_seg (pc' := 288) (lv' := [(11, .ref (m + 596 + 130 * (Z9_26 + 1 + 1 + 1 + 1).toNatClampNeg)), (10, .ref (m + 596 + 130 * (Z9_26 + 1 + 1 + 1).toNatClampNeg)), (9, .ref (m + 596 + 130 * (Z9_26 + 1 + 1).toNatClampNeg)), (8, .int r243), (7, .ref (m + 596 + 130 * (Z9_26 + 1).toNatClampNeg)), (6, .ref (m + 596 + 130 * Z9_26.toNatClampNeg)), (0, .ref m), (1, .int op), (3, .int v), (4, .int to), (5, .ref (m + 7486 + 9 * s9.toNatClampNeg))]) (st' := [.int 1, .ref (m + 596 + 130 * (Z9_26 + 1 + 1 + 1 + 1).toNatClampNeg)]) [(283, .astore 11), (285, .aload 11), (287, .iconst 1)] (by decide +kernel) rfl ?_
                      have ho288_b := zB.o hp280_1
                      obtain ⟨n72, hb73, hb74, hb75, hb76, -⟩ := id hp280_1
                      have kn72 := zrng n72
                      refine zr_callV (idx := 158) (j := 245) (by decide +kernel) (by decide +kernel) (show zMe 245 = some zq_X12_number from rfl) rfl rfl (Nat.le_of_ble_eq_true rfl) rfl rfl hb73 (Nat.le_of_ble_eq_true rfl) (Nat.le_of_ble_eq_true rfl) (c_X12_number (w := w280) (m + 596 + 130 * (Z9_26 + 1 + 1 + 1 + 1).toNatClampNeg) 1 ho288_b (by exact zr1_1)) (by omega) (fun v288 w288 hp288 => ?_)
                      obtain ⟨hsi288, heq288, hp288_0, rfl⟩ := hp288
                      show zP _ _ _ _ [] _ _ _ _ _
                      refine zp_seg (pc' := 292) (lv' := [(11, .ref (m + 596 + 130 * (Z9_26 + 1 + 1 + 1 + 1).toNatClampNeg)), (10, .ref (m + 596 + 130 * (Z9_26 + 1 + 1 + 1).toNatClampNeg)), (9, .ref (m + 596 + 130 * (Z9_26 + 1 + 1).toNatClampNeg)), (8, .int r243), (7, .ref (m + 596 + 130 * (Z9_26 + 1).toNatClampNeg)), (6, .ref (m + 596 + 130 * Z9_26.toNatClampNeg)), (0, .ref m), (1, .int op), (3, .int v), (4, .int to), (5, .ref (m + 7486 + 9 * s9.toNatClampNeg))]) (st' := [.int op]) [(291, .iload_n 1)] (by decide +kernel) rfl ?_
                      have hb77 : w288 m = some (.inl (15, zMo m (zs (zs (zs g 1 Z9_26) 3 (Z9_26 + 1 + 1 + 1 + 1 + 1)) 16 Z9_26) r)) := (heq288 m (zx_X16_change_16 hgzZ9_26_4)).trans hM280
                      have hJ473 : ∀ (wL473 : zM) (X : zA2) (Y : zA2), (zSI w288 wL473) → (∀ x, ((x < m + 276 ∨ m + 276 + 320 ≤ x) ∧ (x < m + 596 + 130 * (Z9_26 + 1 + 1).toNatClampNeg ∨ m + 596 + 130 * (Z9_26 + 1 + 1).toNatClampNeg + (5720 - 130 * (Z9_26 + 1 + 1).toNatClampNeg) ≤ x) ∧ (x < m + 3 ∨ m + 3 + 1 ≤ x) ∧ (x < m + 5 ∨ m + 5 + 64 ≤ x)) ∧ x ≠ m → wL473 x = w288 x) → (zB wL473 (m + 596 + 130 * (Z9_26 + 1 + 1).toNatClampNeg) X) → (zB wL473 (m + 596 + 130 * (Z9_26 + 1 + 1 + 1).toNatClampNeg) Y) → (wL473 m = some (.inl (15, zMo m (zs (zs (zs g 1 Z9_26) 3 (Z9_26 + 1 + 1 + 1 + 1 + 1)) 16 Z9_26) r))) → (0 < zrw Y) → zP (d + 1) zq_X16_change 473 [(0, .ref m), (4, .int to), (9, .ref (m + 596 + 130 * (Z9_26 + 1 + 1).toNatClampNeg)), (10, .ref (m + 596 + 130 * (Z9_26 + 1 + 1 + 1).toNatClampNeg))] [] wL473 sz 0 0 Post := by
                        intro wL473 X Y hsiL473 heqL473 hBX hBY hmL473 hYn
                        have hb78 : zTi wL473 (m + 83) kS1 := hp131_0.ag (fun x hx1 hx2 => ((heqL473 x ⟨⟨(zx_X16_change_22 hx1 hx2), (zx_X16_change_23 hx1 hx2 hgzZ9_26_2), (zx_X16_change_24 hx1 hx2), (zx_X16_change_25 hx1 hx2)⟩, (zx_X16_change_26 hx1 hx2)⟩).trans ((heq288 x (zx_X16_change_21 hx1 hx2 hgzZ9_26_4)).trans ((heq280 x ⟨(zx_X16_change_2 hx1 hx2), (zx_X16_change_21 hx1 hx2 hgzZ9_26_4)⟩).trans ((heq274 x ⟨(zx_X16_change_2 hx1 hx2), (zx_X16_change_20 hx1 hx2 hgzZ9_26_3)⟩).trans ((heq268 x ⟨(zx_X16_change_2 hx1 hx2), (zx_X16_change_19 hx1 hx2 hgzZ9_26_2)⟩).trans ((heq239 x (zx_X16_change_18 hx1 hx2 hgzZ9_26_1)).trans ((heq229 x (zx_X16_change_17 hx1 hx2 hgzZ9_26_0)).trans ((heq217 x ⟨(zx_X16_change_2 hx1 hx2), (zx_X16_change_18 hx1 hx2 hgzZ9_26_1)⟩).trans (heq211 x ⟨(zx_X16_change_2 hx1 hx2), (zx_X16_change_17 hx1 hx2 hgzZ9_26_0)⟩))))))))))
                        obtain ⟨g3, fn3, fd3, fa3, fb3, fc3, fe3, fr3, fu3, hT3, hAn3, hAd3, hAa3, hAb3, hAc3, hAe3, hAr3, hAu3, hK3⟩ := id hb78
                        obtain ⟨hK30, hKn3, hKd3, hKx3, hKm3, hKl3, hKr3, hKu3, hKk3⟩ := id hK3
                        refine zp_seg (pc' := 474) (lv' := [(0, .ref m), (4, .int to), (9, .ref (m + 596 + 130 * (Z9_26 + 1 + 1).toNatClampNeg)), (10, .ref (m + 596 + 130 * (Z9_26 + 1 + 1 + 1).toNatClampNeg))]) (st' := [.ref m]) [(473, .aload_n 0)] (by decide +kernel) rfl ?_
                        refine zr_get (idx := 453) (k := 21) (v := .ref (m + 83)) (by decide +kernel) (by decide +kernel) hmL473 rfl ?_
                        refine zp_seg (pc' := 481) (lv' := [(0, .ref m), (4, .int to), (9, .ref (m + 596 + 130 * (Z9_26 + 1 + 1).toNatClampNeg)), (10, .ref (m + 596 + 130 * (Z9_26 + 1 + 1 + 1).toNatClampNeg))]) (st' := [.ref (m + 596 + 130 * (Z9_26 + 1 + 1 + 1).toNatClampNeg), .ref (m + 596 + 130 * (Z9_26 + 1 + 1).toNatClampNeg), .ref (m + 83)]) [(477, .aload 9), (479, .aload 10)] (by decide +kernel) rfl ?_
                        refine zr_callS (idx := 261) (j := 303) (by decide +kernel) (by decide +kernel) (by decide) (show zMe 303 = some zq_X16_put from rfl) rfl rfl (Nat.le_of_ble_eq_true rfl) rfl rfl (Nat.le_of_ble_eq_true rfl) (Nat.le_of_ble_eq_true rfl) (c_X16_put (w := wL473) (m + 83) (m + 596 + 130 * (Z9_26 + 1 + 1).toNatClampNeg) (m + 596 + 130 * (Z9_26 + 1 + 1 + 1).toNatClampNeg) hT3 hAn3 hAd3 hBX hBY (by first | omega | decide | assumption | exact zr1_1 | exact zr1_0 | fail "num") (by first | omega | decide | assumption | exact zr1_1 | exact zr1_0 | fail "num")) (by omega) (fun v481 w481 hp481 => ?_)
                        obtain ⟨Fn_481, Fd_481, hsi481, heq481, hp481_0, hp481_1, r481, rfl, hrb481, hr481⟩ := hp481
                        have kr481 := zrng r481
                        show zP _ _ _ _ [.int r481] _ _ _ _ _
                        have hpp9 : (zCr Fn_481 ∧ zCr Fd_481) ∧ 0 < zrw (zbT Fd_481) := by
                          rcases hrb481 with e | e
                          · have h9 := hr481.1 e
                            rw [h9.1, h9.2]
                            exact ⟨⟨hKn3, hKd3⟩, hKk3.2.1 (Or.inl hk19)⟩
                          · have h9 := hr481.2.1 e
                            rw [h9.2.2.2]
                            exact ⟨⟨h9.1, h9.2.1⟩, hYn⟩
                        have hb79 : w481 (m + 83) = some (.inl (13, zTo (m + 83) g3)) := (heq481 (m + 83) (zx_X16_change_27)).trans hT3
                        have hb80 : w481 (m + 83 + 3) = some (.inr (0, 13, .inl fa3)) := (heq481 (m + 83 + 3) (zx_X16_change_28)).trans hAa3
                        have hb81 : w481 (m + 83 + 4) = some (.inr (0, 13, .inl fb3)) := (heq481 (m + 83 + 4) (zx_X16_change_29)).trans hAb3
                        have hb82 : w481 (m + 83 + 5) = some (.inr (0, 13, .inl fc3)) := (heq481 (m + 83 + 5) (zx_X16_change_30)).trans hAc3
                        have hb83 : w481 (m + 83 + 6) = some (.inr (0, 13, .inl fe3)) := (heq481 (m + 83 + 6) (zx_X16_change_31)).trans hAe3
                        have hb84 : w481 (m + 83 + 7) = some (.inr (0, 175, .inl fr3)) := (heq481 (m + 83 + 7) (zx_X16_change_32)).trans hAr3
                        have hb85 : w481 (m + 83 + 8) = some (.inr (0, 361, .inl fu3)) := (heq481 (m + 83 + 8) (zx_X16_change_33)).trans hAu3
                        have hTi9 : zTi w481 (m + 83) 1 := ⟨_, _, _, _, _, _, _, _, _, hb79, hp481_0, hp481_1, hb80, hb81, hb82, hb83, hb84, hb85, ⟨hK30.trans hk19, hpp9.1.1, hpp9.1.2, hKx3, hKm3, hKl3, hKr3, hKu3, zKk_12 (Or.inl rfl) hpp9.2 (fun k9 => absurd k9 (by decide)) (hKk3.2.2.2.1 (Or.inl hk19))⟩⟩
                        refine zp_if (i := .ifCond .eq 12) (c := r481 = 0) (t := 496) (e := 487) (lv' := [(0, .ref m), (4, .int to), (9, .ref (m + 596 + 130 * (Z9_26 + 1 + 1).toNatClampNeg)), (10, .ref (m + 596 + 130 * (Z9_26 + 1 + 1 + 1).toNatClampNeg))]) (st' := []) (by decide +kernel) rfl (fun cc484 => ?_) (fun cc484 => ?_)
                        ·
                          have f86 := zeqI cc484
                          rw [show (0 : Int32).toInt = 0 from by decide] at f86
                          refine zp_seg (pc' := 498) (lv' := [(0, .ref m), (4, .int to), (9, .ref (m + 596 + 130 * (Z9_26 + 1 + 1).toNatClampNeg)), (10, .ref (m + 596 + 130 * (Z9_26 + 1 + 1 + 1).toNatClampNeg))]) (st' := [.int (Int32.ofInt (-2))]) [(496, .bipush (-2))] (by decide +kernel) rfl ?_
                          have hb87 : w481 m = some (.inl (15, zMo m (zs (zs (zs g 1 Z9_26) 3 (Z9_26 + 1 + 1 + 1 + 1 + 1)) 16 Z9_26) r)) := (heq481 m (zx_X16_change_34)).trans hmL473
                          have hoffend : ∀ x, (x < m + 0 ∨ m + 0 + 8322 ≤ x) → w481 x = w x := fun x hx => ((heq481 x (zx_X16_change_46 hx)).trans ((heqL473 x ⟨⟨(zx_X16_change_41 hx), (zx_X16_change_42 hx hgzZ9_26_2), (zx_X16_change_43 hx), (zx_X16_change_44 hx)⟩, (zx_X16_change_45 hx)⟩).trans ((heq288 x (zx_X16_change_40 hx hgzZ9_26_4)).trans ((heq280 x ⟨(zx_X16_change_0 hx), (zx_X16_change_40 hx hgzZ9_26_4)⟩).trans ((heq274 x ⟨(zx_X16_change_0 hx), (zx_X16_change_39 hx hgzZ9_26_3)⟩).trans ((heq268 x ⟨(zx_X16_change_0 hx), (zx_X16_change_38 hx hgzZ9_26_2)⟩).trans ((heq239 x (zx_X16_change_37 hx hgzZ9_26_1)).trans ((heq229 x (zx_X16_change_36 hx hgzZ9_26_0)).trans ((heq217 x ⟨(zx_X16_change_0 hx), (zx_X16_change_37 hx hgzZ9_26_1)⟩).trans ((heq211 x ⟨(zx_X16_change_0 hx), (zx_X16_change_36 hx hgzZ9_26_0)⟩).trans ((heq131 x (zx_X16_change_35 hx)).trans (heq26 x (zx_X16_change_0 hx)))))))))))))
                          have hb88 := hb71.si (((hsi280.tr hsi288).tr hsiL473).tr hsi481)
                          have hb89 : zSlo w481 (m + 7486) := hSl0.ag (fun x hx1 hx2 => ((heq481 x (zx_X16_change_58 hx1 hx2)).trans ((heqL473 x ⟨⟨(zx_X16_change_53 hx1 hx2), (zx_X16_change_54 hx1 hx2 hgzZ9_26_2), (zx_X16_change_55 hx1 hx2), (zx_X16_change_56 hx1 hx2)⟩, (zx_X16_change_57 hx1 hx2)⟩).trans ((heq288 x (zx_X16_change_52 hx1 hx2 hgzZ9_26_4)).trans ((heq280 x ⟨(zx_X16_change_1 hx1 hx2), (zx_X16_change_52 hx1 hx2 hgzZ9_26_4)⟩).trans ((heq274 x ⟨(zx_X16_change_1 hx1 hx2), (zx_X16_change_51 hx1 hx2 hgzZ9_26_3)⟩).trans ((heq268 x ⟨(zx_X16_change_1 hx1 hx2), (zx_X16_change_50 hx1 hx2 hgzZ9_26_2)⟩).trans ((heq239 x (zx_X16_change_49 hx1 hx2 hgzZ9_26_1)).trans ((heq229 x (zx_X16_change_48 hx1 hx2 hgzZ9_26_0)).trans ((heq217 x ⟨(zx_X16_change_1 hx1 hx2), (zx_X16_change_49 hx1 hx2 hgzZ9_26_1)⟩).trans ((heq211 x ⟨(zx_X16_change_1 hx1 hx2), (zx_X16_change_48 hx1 hx2 hgzZ9_26_0)⟩).trans ((heq131 x (zx_X16_change_47 hx1 hx2)).trans (heq26 x (zx_X16_change_1 hx1 hx2))))))))))))))
                          have hb90 : zPil w481 (m + 6316) := hPl0.ag (fun x hx1 hx2 => ((heq481 x (zx_X16_change_70 hx1 hx2)).trans ((heqL473 x ⟨⟨(zx_X16_change_65 hx1 hx2), (zx_X16_change_66 hx1 hx2 hgzZ9_26_2), (zx_X16_change_67 hx1 hx2), (zx_X16_change_68 hx1 hx2)⟩, (zx_X16_change_69 hx1 hx2)⟩).trans ((heq288 x (zx_X16_change_64 hx1 hx2 hgzZ9_26_4)).trans ((heq280 x ⟨(zx_X16_change_3 hx1 hx2), (zx_X16_change_64 hx1 hx2 hgzZ9_26_4)⟩).trans ((heq274 x ⟨(zx_X16_change_3 hx1 hx2), (zx_X16_change_63 hx1 hx2 hgzZ9_26_3)⟩).trans ((heq268 x ⟨(zx_X16_change_3 hx1 hx2), (zx_X16_change_62 hx1 hx2 hgzZ9_26_2)⟩).trans ((heq239 x (zx_X16_change_61 hx1 hx2 hgzZ9_26_1)).trans ((heq229 x (zx_X16_change_60 hx1 hx2 hgzZ9_26_0)).trans ((heq217 x ⟨(zx_X16_change_3 hx1 hx2), (zx_X16_change_61 hx1 hx2 hgzZ9_26_1)⟩).trans ((heq211 x ⟨(zx_X16_change_3 hx1 hx2), (zx_X16_change_60 hx1 hx2 hgzZ9_26_0)⟩).trans ((heq131 x (zx_X16_change_59 hx1 hx2)).trans (heq26 x (zx_X16_change_3 hx1 hx2))))))))))))))
                          have hb91 : zBya w481 (m + 92) 4000 := hBo0.ag (fun x hx1 hx2 => ((heq481 x (zx_X16_change_82 hx1 hx2)).trans ((heqL473 x ⟨⟨(zx_X16_change_77 hx1 hx2), (zx_X16_change_78 hx1 hx2 hgzZ9_26_2), (zx_X16_change_79 hx1 hx2), (zx_X16_change_80 hx1 hx2)⟩, (zx_X16_change_81 hx1 hx2)⟩).trans ((heq288 x (zx_X16_change_76 hx1 hx2 hgzZ9_26_4)).trans ((heq280 x ⟨(zx_X16_change_4 hx1 hx2), (zx_X16_change_76 hx1 hx2 hgzZ9_26_4)⟩).trans ((heq274 x ⟨(zx_X16_change_4 hx1 hx2), (zx_X16_change_75 hx1 hx2 hgzZ9_26_3)⟩).trans ((heq268 x ⟨(zx_X16_change_4 hx1 hx2), (zx_X16_change_74 hx1 hx2 hgzZ9_26_2)⟩).trans ((heq239 x (zx_X16_change_73 hx1 hx2 hgzZ9_26_1)).trans ((heq229 x (zx_X16_change_72 hx1 hx2 hgzZ9_26_0)).trans ((heq217 x ⟨(zx_X16_change_4 hx1 hx2), (zx_X16_change_73 hx1 hx2 hgzZ9_26_1)⟩).trans ((heq211 x ⟨(zx_X16_change_4 hx1 hx2), (zx_X16_change_72 hx1 hx2 hgzZ9_26_0)⟩).trans ((heq131 x (zx_X16_change_71 hx1 hx2)).trans (heq26 x (zx_X16_change_4 hx1 hx2))))))))))))))
                          have hb92 : zBya w481 (m + 93) 4000 := hBl0.ag (fun x hx1 hx2 => ((heq481 x (zx_X16_change_94 hx1 hx2)).trans ((heqL473 x ⟨⟨(zx_X16_change_89 hx1 hx2), (zx_X16_change_90 hx1 hx2 hgzZ9_26_2), (zx_X16_change_91 hx1 hx2), (zx_X16_change_92 hx1 hx2)⟩, (zx_X16_change_93 hx1 hx2)⟩).trans ((heq288 x (zx_X16_change_88 hx1 hx2 hgzZ9_26_4)).trans ((heq280 x ⟨(zx_X16_change_5 hx1 hx2), (zx_X16_change_88 hx1 hx2 hgzZ9_26_4)⟩).trans ((heq274 x ⟨(zx_X16_change_5 hx1 hx2), (zx_X16_change_87 hx1 hx2 hgzZ9_26_3)⟩).trans ((heq268 x ⟨(zx_X16_change_5 hx1 hx2), (zx_X16_change_86 hx1 hx2 hgzZ9_26_2)⟩).trans ((heq239 x (zx_X16_change_85 hx1 hx2 hgzZ9_26_1)).trans ((heq229 x (zx_X16_change_84 hx1 hx2 hgzZ9_26_0)).trans ((heq217 x ⟨(zx_X16_change_5 hx1 hx2), (zx_X16_change_85 hx1 hx2 hgzZ9_26_1)⟩).trans ((heq211 x ⟨(zx_X16_change_5 hx1 hx2), (zx_X16_change_84 hx1 hx2 hgzZ9_26_0)⟩).trans ((heq131 x (zx_X16_change_83 hx1 hx2)).trans (heq26 x (zx_X16_change_5 hx1 hx2))))))))))))))
                          have hb93 : zGr w481 (m + 100) 48 48 := hGa0.ag (fun x hx1 hx2 => ((heq481 x (zx_X16_change_106 hx1 hx2)).trans ((heqL473 x ⟨⟨(zx_X16_change_101 hx1 hx2), (zx_X16_change_102 hx1 hx2 hgzZ9_26_2), (zx_X16_change_103 hx1 hx2), (zx_X16_change_104 hx1 hx2)⟩, (zx_X16_change_105 hx1 hx2)⟩).trans ((heq288 x (zx_X16_change_100 hx1 hx2 hgzZ9_26_4)).trans ((heq280 x ⟨(zx_X16_change_6 hx1 hx2), (zx_X16_change_100 hx1 hx2 hgzZ9_26_4)⟩).trans ((heq274 x ⟨(zx_X16_change_6 hx1 hx2), (zx_X16_change_99 hx1 hx2 hgzZ9_26_3)⟩).trans ((heq268 x ⟨(zx_X16_change_6 hx1 hx2), (zx_X16_change_98 hx1 hx2 hgzZ9_26_2)⟩).trans ((heq239 x (zx_X16_change_97 hx1 hx2 hgzZ9_26_1)).trans ((heq229 x (zx_X16_change_96 hx1 hx2 hgzZ9_26_0)).trans ((heq217 x ⟨(zx_X16_change_6 hx1 hx2), (zx_X16_change_97 hx1 hx2 hgzZ9_26_1)⟩).trans ((heq211 x ⟨(zx_X16_change_6 hx1 hx2), (zx_X16_change_96 hx1 hx2 hgzZ9_26_0)⟩).trans ((heq131 x (zx_X16_change_95 hx1 hx2)).trans (heq26 x (zx_X16_change_6 hx1 hx2))))))))))))))
                          have hb94 : zGr w481 (m + 212) 60 46 := hGb0.ag (fun x hx1 hx2 => ((heq481 x (zx_X16_change_118 hx1 hx2)).trans ((heqL473 x ⟨⟨(zx_X16_change_113 hx1 hx2), (zx_X16_change_114 hx1 hx2 hgzZ9_26_2), (zx_X16_change_115 hx1 hx2), (zx_X16_change_116 hx1 hx2)⟩, (zx_X16_change_117 hx1 hx2)⟩).trans ((heq288 x (zx_X16_change_112 hx1 hx2 hgzZ9_26_4)).trans ((heq280 x ⟨(zx_X16_change_7 hx1 hx2), (zx_X16_change_112 hx1 hx2 hgzZ9_26_4)⟩).trans ((heq274 x ⟨(zx_X16_change_7 hx1 hx2), (zx_X16_change_111 hx1 hx2 hgzZ9_26_3)⟩).trans ((heq268 x ⟨(zx_X16_change_7 hx1 hx2), (zx_X16_change_110 hx1 hx2 hgzZ9_26_2)⟩).trans ((heq239 x (zx_X16_change_109 hx1 hx2 hgzZ9_26_1)).trans ((heq229 x (zx_X16_change_108 hx1 hx2 hgzZ9_26_0)).trans ((heq217 x ⟨(zx_X16_change_7 hx1 hx2), (zx_X16_change_109 hx1 hx2 hgzZ9_26_1)⟩).trans ((heq211 x ⟨(zx_X16_change_7 hx1 hx2), (zx_X16_change_108 hx1 hx2 hgzZ9_26_0)⟩).trans ((heq131 x (zx_X16_change_107 hx1 hx2)).trans (heq26 x (zx_X16_change_7 hx1 hx2))))))))))))))
                          have hb95 : zBd w481 (m + 149) := hBd0.ag (fun x hx1 hx2 => ((heq481 x (zx_X16_change_130 hx1 hx2)).trans ((heqL473 x ⟨⟨(zx_X16_change_125 hx1 hx2), (zx_X16_change_126 hx1 hx2 hgzZ9_26_2), (zx_X16_change_127 hx1 hx2), (zx_X16_change_128 hx1 hx2)⟩, (zx_X16_change_129 hx1 hx2)⟩).trans ((heq288 x (zx_X16_change_124 hx1 hx2 hgzZ9_26_4)).trans ((heq280 x ⟨(zx_X16_change_8 hx1 hx2), (zx_X16_change_124 hx1 hx2 hgzZ9_26_4)⟩).trans ((heq274 x ⟨(zx_X16_change_8 hx1 hx2), (zx_X16_change_123 hx1 hx2 hgzZ9_26_3)⟩).trans ((heq268 x ⟨(zx_X16_change_8 hx1 hx2), (zx_X16_change_122 hx1 hx2 hgzZ9_26_2)⟩).trans ((heq239 x (zx_X16_change_121 hx1 hx2 hgzZ9_26_1)).trans ((heq229 x (zx_X16_change_120 hx1 hx2 hgzZ9_26_0)).trans ((heq217 x ⟨(zx_X16_change_8 hx1 hx2), (zx_X16_change_121 hx1 hx2 hgzZ9_26_1)⟩).trans ((heq211 x ⟨(zx_X16_change_8 hx1 hx2), (zx_X16_change_120 hx1 hx2 hgzZ9_26_0)⟩).trans ((heq131 x (zx_X16_change_119 hx1 hx2)).trans (heq26 x (zx_X16_change_8 hx1 hx2))))))))))))))
                          have hb96 : w481 (m + 94) = some (.inr (0, 60, .inl ff)) := ((heq481 (m + 94) (zx_X16_change_142)).trans ((heqL473 (m + 94) ⟨⟨(zx_X16_change_137), (zx_X16_change_138 hgzZ9_26_2), (zx_X16_change_139), (zx_X16_change_140)⟩, (zx_X16_change_141)⟩).trans ((heq288 (m + 94) (zx_X16_change_136 hgzZ9_26_4)).trans ((heq280 (m + 94) ⟨(zx_X16_change_9), (zx_X16_change_136 hgzZ9_26_4)⟩).trans ((heq274 (m + 94) ⟨(zx_X16_change_9), (zx_X16_change_135 hgzZ9_26_3)⟩).trans ((heq268 (m + 94) ⟨(zx_X16_change_9), (zx_X16_change_134 hgzZ9_26_2)⟩).trans ((heq239 (m + 94) (zx_X16_change_133 hgzZ9_26_1)).trans ((heq229 (m + 94) (zx_X16_change_132 hgzZ9_26_0)).trans ((heq217 (m + 94) ⟨(zx_X16_change_9), (zx_X16_change_133 hgzZ9_26_1)⟩).trans ((heq211 (m + 94) ⟨(zx_X16_change_9), (zx_X16_change_132 hgzZ9_26_0)⟩).trans ((heq131 (m + 94) (zx_X16_change_131)).trans (heq26 (m + 94) (zx_X16_change_9))))))))))))).trans hAf0
                          refine zr_retI (by decide +kernel) rfl ?_
                          rw [← hPost]; exact ⟨rfl, _, rfl, (((((((((((hsi26.tr hsi131).tr hsi211).tr hsi217).tr hsi229).tr hsi239).tr hsi268).tr hsi274).tr hsi280).tr hsi288).tr hsiL473).tr hsi481), hoffend, ⟨_, _, hb87, hb88, hb89, (zTi.m hTi9), hb90, ⟨_, hb96, hff⟩, hb91, hb92, hb93, hb94, hb95, hI12, hI24, hI29, hI31, hIn⟩, _, rfl, trivial⟩
                        ·
                          have f98 := zneI cc484
                          rw [show (0 : Int32).toInt = 0 from by decide] at f98
                          have hb99 : zSlo w481 (m + 7486) := hSl0.ag (fun x hx1 hx2 => ((heq481 x (zx_X16_change_58 hx1 hx2)).trans ((heqL473 x ⟨⟨(zx_X16_change_53 hx1 hx2), (zx_X16_change_54 hx1 hx2 hgzZ9_26_2), (zx_X16_change_55 hx1 hx2), (zx_X16_change_56 hx1 hx2)⟩, (zx_X16_change_57 hx1 hx2)⟩).trans ((heq288 x (zx_X16_change_52 hx1 hx2 hgzZ9_26_4)).trans ((heq280 x ⟨(zx_X16_change_1 hx1 hx2), (zx_X16_change_52 hx1 hx2 hgzZ9_26_4)⟩).trans ((heq274 x ⟨(zx_X16_change_1 hx1 hx2), (zx_X16_change_51 hx1 hx2 hgzZ9_26_3)⟩).trans ((heq268 x ⟨(zx_X16_change_1 hx1 hx2), (zx_X16_change_50 hx1 hx2 hgzZ9_26_2)⟩).trans ((heq239 x (zx_X16_change_49 hx1 hx2 hgzZ9_26_1)).trans ((heq229 x (zx_X16_change_48 hx1 hx2 hgzZ9_26_0)).trans ((heq217 x ⟨(zx_X16_change_1 hx1 hx2), (zx_X16_change_49 hx1 hx2 hgzZ9_26_1)⟩).trans ((heq211 x ⟨(zx_X16_change_1 hx1 hx2), (zx_X16_change_48 hx1 hx2 hgzZ9_26_0)⟩).trans ((heq131 x (zx_X16_change_47 hx1 hx2)).trans (heq26 x (zx_X16_change_1 hx1 hx2))))))))))))))
                          obtain ⟨kX, hkX⟩ := hb99 to.toNatClampNeg (by omega)
                          refine zp_seg (pc' := 490) (lv' := [(0, .ref m), (4, .int to), (9, .ref (m + 596 + 130 * (Z9_26 + 1 + 1).toNatClampNeg)), (10, .ref (m + 596 + 130 * (Z9_26 + 1 + 1 + 1).toNatClampNeg))]) (st' := [.int to, .ref m]) [(487, .aload_n 0), (488, .iload 4)] (by decide +kernel) rfl ?_
                          have hb100 : w481 m = some (.inl (15, zMo m (zs (zs (zs g 1 Z9_26) 3 (Z9_26 + 1 + 1 + 1 + 1 + 1)) 16 Z9_26) r)) := (heq481 m (zx_X16_change_34)).trans hmL473
                          have hb101 := hb71.si (((hsi280.tr hsi288).tr hsiL473).tr hsi481)
                          refine zr_callV (idx := 558) (j := 338) (by decide +kernel) (by decide +kernel) (show zMe 338 = some zq_X16_keep from rfl) rfl rfl (Nat.le_of_ble_eq_true rfl) rfl rfl hb100 (Nat.le_of_ble_eq_true rfl) (Nat.le_of_ble_eq_true rfl) (c_X16_keep (w := w481) m to hb100 hb101 hTi9 hkX (by first | omega | decide | assumption | exact zr1_1 | exact zr1_0 | fail "num")) (by omega) (fun v490 w490 hp490 => ?_)
                          obtain ⟨hsi490, heq490, hp490_0, r490, rfl, hr490⟩ := hp490
                          have kr490 := zrng r490
                          show zP _ _ _ _ [.int r490] _ _ _ _ _
                          refine zp_seg (pc' := 498) (lv' := [(0, .ref m), (4, .int to), (9, .ref (m + 596 + 130 * (Z9_26 + 1 + 1).toNatClampNeg)), (10, .ref (m + 596 + 130 * (Z9_26 + 1 + 1 + 1).toNatClampNeg))]) (st' := [.int r490]) [(493, .goto 5)] (by decide +kernel) rfl ?_
                          have hSl498 := hSl0.up (w' := w490) to.toNatClampNeg hp490_0 (fun x h1 h2 h3 => ((heq490 x (by omega)).trans ((heq481 x (by omega)).trans ((heqL473 x (by omega)).trans ((heq288 x (by omega)).trans ((heq280 x (by omega)).trans ((heq274 x (by omega)).trans ((heq268 x (by omega)).trans ((heq239 x (by omega)).trans ((heq229 x (by omega)).trans ((heq217 x (by omega)).trans ((heq211 x (by omega)).trans ((heq131 x (by omega)).trans (heq26 x (by omega)))))))))))))))
                          have hb102 : w490 m = some (.inl (15, zMo m (zs (zs (zs g 1 Z9_26) 3 (Z9_26 + 1 + 1 + 1 + 1 + 1)) 16 Z9_26) r)) := (heq490 m (by omega)).trans hb100
                          have hoffend : ∀ x, (x < m + 0 ∨ m + 0 + 8322 ≤ x) → w490 x = w x := fun x hx => ((heq490 x (by omega)).trans ((heq481 x (zx_X16_change_46 hx)).trans ((heqL473 x ⟨⟨(zx_X16_change_41 hx), (zx_X16_change_42 hx hgzZ9_26_2), (zx_X16_change_43 hx), (zx_X16_change_44 hx)⟩, (zx_X16_change_45 hx)⟩).trans ((heq288 x (zx_X16_change_40 hx hgzZ9_26_4)).trans ((heq280 x ⟨(zx_X16_change_0 hx), (zx_X16_change_40 hx hgzZ9_26_4)⟩).trans ((heq274 x ⟨(zx_X16_change_0 hx), (zx_X16_change_39 hx hgzZ9_26_3)⟩).trans ((heq268 x ⟨(zx_X16_change_0 hx), (zx_X16_change_38 hx hgzZ9_26_2)⟩).trans ((heq239 x (zx_X16_change_37 hx hgzZ9_26_1)).trans ((heq229 x (zx_X16_change_36 hx hgzZ9_26_0)).trans ((heq217 x ⟨(zx_X16_change_0 hx), (zx_X16_change_37 hx hgzZ9_26_1)⟩).trans ((heq211 x ⟨(zx_X16_change_0 hx), (zx_X16_change_36 hx hgzZ9_26_0)⟩).trans ((heq131 x (zx_X16_change_35 hx)).trans (heq26 x (zx_X16_change_0 hx))))))))))))))
                          have hb103 := hb101.si hsi490
                          have hb104 : zTi w490 (m + 83) 1 := hTi9.ag (fun x hx1 hx2 => (heq490 x (by omega)))
                          have hb105 : zPil w490 (m + 6316) := hPl0.ag (fun x hx1 hx2 => ((heq490 x (by omega)).trans ((heq481 x (zx_X16_change_70 hx1 hx2)).trans ((heqL473 x ⟨⟨(zx_X16_change_65 hx1 hx2), (zx_X16_change_66 hx1 hx2 hgzZ9_26_2), (zx_X16_change_67 hx1 hx2), (zx_X16_change_68 hx1 hx2)⟩, (zx_X16_change_69 hx1 hx2)⟩).trans ((heq288 x (zx_X16_change_64 hx1 hx2 hgzZ9_26_4)).trans ((heq280 x ⟨(zx_X16_change_3 hx1 hx2), (zx_X16_change_64 hx1 hx2 hgzZ9_26_4)⟩).trans ((heq274 x ⟨(zx_X16_change_3 hx1 hx2), (zx_X16_change_63 hx1 hx2 hgzZ9_26_3)⟩).trans ((heq268 x ⟨(zx_X16_change_3 hx1 hx2), (zx_X16_change_62 hx1 hx2 hgzZ9_26_2)⟩).trans ((heq239 x (zx_X16_change_61 hx1 hx2 hgzZ9_26_1)).trans ((heq229 x (zx_X16_change_60 hx1 hx2 hgzZ9_26_0)).trans ((heq217 x ⟨(zx_X16_change_3 hx1 hx2), (zx_X16_change_61 hx1 hx2 hgzZ9_26_1)⟩).trans ((heq211 x ⟨(zx_X16_change_3 hx1 hx2), (zx_X16_change_60 hx1 hx2 hgzZ9_26_0)⟩).trans ((heq131 x (zx_X16_change_59 hx1 hx2)).trans (heq26 x (zx_X16_change_3 hx1 hx2)))))))))))))))
                          have hb106 : zBya w490 (m + 92) 4000 := hBo0.ag (fun x hx1 hx2 => ((heq490 x (by omega)).trans ((heq481 x (zx_X16_change_82 hx1 hx2)).trans ((heqL473 x ⟨⟨(zx_X16_change_77 hx1 hx2), (zx_X16_change_78 hx1 hx2 hgzZ9_26_2), (zx_X16_change_79 hx1 hx2), (zx_X16_change_80 hx1 hx2)⟩, (zx_X16_change_81 hx1 hx2)⟩).trans ((heq288 x (zx_X16_change_76 hx1 hx2 hgzZ9_26_4)).trans ((heq280 x ⟨(zx_X16_change_4 hx1 hx2), (zx_X16_change_76 hx1 hx2 hgzZ9_26_4)⟩).trans ((heq274 x ⟨(zx_X16_change_4 hx1 hx2), (zx_X16_change_75 hx1 hx2 hgzZ9_26_3)⟩).trans ((heq268 x ⟨(zx_X16_change_4 hx1 hx2), (zx_X16_change_74 hx1 hx2 hgzZ9_26_2)⟩).trans ((heq239 x (zx_X16_change_73 hx1 hx2 hgzZ9_26_1)).trans ((heq229 x (zx_X16_change_72 hx1 hx2 hgzZ9_26_0)).trans ((heq217 x ⟨(zx_X16_change_4 hx1 hx2), (zx_X16_change_73 hx1 hx2 hgzZ9_26_1)⟩).trans ((heq211 x ⟨(zx_X16_change_4 hx1 hx2), (zx_X16_change_72 hx1 hx2 hgzZ9_26_0)⟩).trans ((heq131 x (zx_X16_change_71 hx1 hx2)).trans (heq26 x (zx_X16_change_4 hx1 hx2)))))))))))))))
                          have hb107 : zBya w490 (m + 93) 4000 := hBl0.ag (fun x hx1 hx2 => ((heq490 x (by omega)).trans ((heq481 x (zx_X16_change_94 hx1 hx2)).trans ((heqL473 x ⟨⟨(zx_X16_change_89 hx1 hx2), (zx_X16_change_90 hx1 hx2 hgzZ9_26_2), (zx_X16_change_91 hx1 hx2), (zx_X16_change_92 hx1 hx2)⟩, (zx_X16_change_93 hx1 hx2)⟩).trans ((heq288 x (zx_X16_change_88 hx1 hx2 hgzZ9_26_4)).trans ((heq280 x ⟨(zx_X16_change_5 hx1 hx2), (zx_X16_change_88 hx1 hx2 hgzZ9_26_4)⟩).trans ((heq274 x ⟨(zx_X16_change_5 hx1 hx2), (zx_X16_change_87 hx1 hx2 hgzZ9_26_3)⟩).trans ((heq268 x ⟨(zx_X16_change_5 hx1 hx2), (zx_X16_change_86 hx1 hx2 hgzZ9_26_2)⟩).trans ((heq239 x (zx_X16_change_85 hx1 hx2 hgzZ9_26_1)).trans ((heq229 x (zx_X16_change_84 hx1 hx2 hgzZ9_26_0)).trans ((heq217 x ⟨(zx_X16_change_5 hx1 hx2), (zx_X16_change_85 hx1 hx2 hgzZ9_26_1)⟩).trans ((heq211 x ⟨(zx_X16_change_5 hx1 hx2), (zx_X16_change_84 hx1 hx2 hgzZ9_26_0)⟩).trans ((heq131 x (zx_X16_change_83 hx1 hx2)).trans (heq26 x (zx_X16_change_5 hx1 hx2)))))))))))))))
                          have hb108 : zGr w490 (m + 100) 48 48 := hGa0.ag (fun x hx1 hx2 => ((heq490 x (by omega)).trans ((heq481 x (zx_X16_change_106 hx1 hx2)).trans ((heqL473 x ⟨⟨(zx_X16_change_101 hx1 hx2), (zx_X16_change_102 hx1 hx2 hgzZ9_26_2), (zx_X16_change_103 hx1 hx2), (zx_X16_change_104 hx1 hx2)⟩, (zx_X16_change_105 hx1 hx2)⟩).trans ((heq288 x (zx_X16_change_100 hx1 hx2 hgzZ9_26_4)).trans ((heq280 x ⟨(zx_X16_change_6 hx1 hx2), (zx_X16_change_100 hx1 hx2 hgzZ9_26_4)⟩).trans ((heq274 x ⟨(zx_X16_change_6 hx1 hx2), (zx_X16_change_99 hx1 hx2 hgzZ9_26_3)⟩).trans ((heq268 x ⟨(zx_X16_change_6 hx1 hx2), (zx_X16_change_98 hx1 hx2 hgzZ9_26_2)⟩).trans ((heq239 x (zx_X16_change_97 hx1 hx2 hgzZ9_26_1)).trans ((heq229 x (zx_X16_change_96 hx1 hx2 hgzZ9_26_0)).trans ((heq217 x ⟨(zx_X16_change_6 hx1 hx2), (zx_X16_change_97 hx1 hx2 hgzZ9_26_1)⟩).trans ((heq211 x ⟨(zx_X16_change_6 hx1 hx2), (zx_X16_change_96 hx1 hx2 hgzZ9_26_0)⟩).trans ((heq131 x (zx_X16_change_95 hx1 hx2)).trans (heq26 x (zx_X16_change_6 hx1 hx2)))))))))))))))
                          have hb109 : zGr w490 (m + 212) 60 46 := hGb0.ag (fun x hx1 hx2 => ((heq490 x (by omega)).trans ((heq481 x (zx_X16_change_118 hx1 hx2)).trans ((heqL473 x ⟨⟨(zx_X16_change_113 hx1 hx2), (zx_X16_change_114 hx1 hx2 hgzZ9_26_2), (zx_X16_change_115 hx1 hx2), (zx_X16_change_116 hx1 hx2)⟩, (zx_X16_change_117 hx1 hx2)⟩).trans ((heq288 x (zx_X16_change_112 hx1 hx2 hgzZ9_26_4)).trans ((heq280 x ⟨(zx_X16_change_7 hx1 hx2), (zx_X16_change_112 hx1 hx2 hgzZ9_26_4)⟩).trans ((heq274 x ⟨(zx_X16_change_7 hx1 hx2), (zx_X16_change_111 hx1 hx2 hgzZ9_26_3)⟩).trans ((heq268 x ⟨(zx_X16_change_7 hx1 hx2), (zx_X16_change_110 hx1 hx2 hgzZ9_26_2)⟩).trans ((heq239 x (zx_X16_change_109 hx1 hx2 hgzZ9_26_1)).trans ((heq229 x (zx_X16_change_108 hx1 hx2 hgzZ9_26_0)).trans ((heq217 x ⟨(zx_X16_change_7 hx1 hx2), (zx_X16_change_109 hx1 hx2 hgzZ9_26_1)⟩).trans ((heq211 x ⟨(zx_X16_change_7 hx1 hx2), (zx_X16_change_108 hx1 hx2 hgzZ9_26_0)⟩).trans ((heq131 x (zx_X16_change_107 hx1 hx2)).trans (heq26 x (zx_X16_change_7 hx1 hx2)))))))))))))))
                          have hb110 : zBd w490 (m + 149) := hBd0.ag (fun x hx1 hx2 => ((heq490 x (by omega)).trans ((heq481 x (zx_X16_change_130 hx1 hx2)).trans ((heqL473 x ⟨⟨(zx_X16_change_125 hx1 hx2), (zx_X16_change_126 hx1 hx2 hgzZ9_26_2), (zx_X16_change_127 hx1 hx2), (zx_X16_change_128 hx1 hx2)⟩, (zx_X16_change_129 hx1 hx2)⟩).trans ((heq288 x (zx_X16_change_124 hx1 hx2 hgzZ9_26_4)).trans ((heq280 x ⟨(zx_X16_change_8 hx1 hx2), (zx_X16_change_124 hx1 hx2 hgzZ9_26_4)⟩).trans ((heq274 x ⟨(zx_X16_change_8 hx1 hx2), (zx_X16_change_123 hx1 hx2 hgzZ9_26_3)⟩).trans ((heq268 x ⟨(zx_X16_change_8 hx1 hx2), (zx_X16_change_122 hx1 hx2 hgzZ9_26_2)⟩).trans ((heq239 x (zx_X16_change_121 hx1 hx2 hgzZ9_26_1)).trans ((heq229 x (zx_X16_change_120 hx1 hx2 hgzZ9_26_0)).trans ((heq217 x ⟨(zx_X16_change_8 hx1 hx2), (zx_X16_change_121 hx1 hx2 hgzZ9_26_1)⟩).trans ((heq211 x ⟨(zx_X16_change_8 hx1 hx2), (zx_X16_change_120 hx1 hx2 hgzZ9_26_0)⟩).trans ((heq131 x (zx_X16_change_119 hx1 hx2)).trans (heq26 x (zx_X16_change_8 hx1 hx2)))))))))))))))
                          have hb111 : w490 (m + 94) = some (.inr (0, 60, .inl ff)) := ((heq490 (m + 94) (by omega)).trans ((heq481 (m + 94) (zx_X16_change_142)).trans ((heqL473 (m + 94) ⟨⟨(zx_X16_change_137), (zx_X16_change_138 hgzZ9_26_2), (zx_X16_change_139), (zx_X16_change_140)⟩, (zx_X16_change_141)⟩).trans ((heq288 (m + 94) (zx_X16_change_136 hgzZ9_26_4)).trans ((heq280 (m + 94) ⟨(zx_X16_change_9), (zx_X16_change_136 hgzZ9_26_4)⟩).trans ((heq274 (m + 94) ⟨(zx_X16_change_9), (zx_X16_change_135 hgzZ9_26_3)⟩).trans ((heq268 (m + 94) ⟨(zx_X16_change_9), (zx_X16_change_134 hgzZ9_26_2)⟩).trans ((heq239 (m + 94) (zx_X16_change_133 hgzZ9_26_1)).trans ((heq229 (m + 94) (zx_X16_change_132 hgzZ9_26_0)).trans ((heq217 (m + 94) ⟨(zx_X16_change_9), (zx_X16_change_133 hgzZ9_26_1)⟩).trans ((heq211 (m + 94) ⟨(zx_X16_change_9), (zx_X16_change_132 hgzZ9_26_0)⟩).trans ((heq131 (m + 94) (zx_X16_change_131)).trans (heq26 (m + 94) (zx_X16_change_9)))))))))))))).trans hAf0
                          refine zr_retI (by decide +kernel) rfl ?_
                          rw [← hPost]; exact ⟨rfl, _, rfl, ((((((((((((hsi26.tr hsi131).tr hsi211).tr hsi217).tr hsi229).tr hsi239).tr hsi268).tr hsi274).tr hsi280).tr hsi288).tr hsiL473).tr hsi481).tr hsi490), hoffend, ⟨_, _, hb102, hb103, hSl498, (zTi.m hb104), hb105, ⟨_, hb111, hff⟩, hb106, hb107, hb108, hb109, hb110, hI12, hI24, hI29, hI31, hIn⟩, _, rfl, trivial⟩
                      have hJ393 : ∀ (_ : True), zP (d + 1) zq_X16_change 393 [(0, .ref m), (1, .int op), (4, .int to), (6, .ref (m + 596 + 130 * Z9_26.toNatClampNeg)), (7, .ref (m + 596 + 130 * (Z9_26 + 1).toNatClampNeg)), (9, .ref (m + 596 + 130 * (Z9_26 + 1 + 1).toNatClampNeg)), (10, .ref (m + 596 + 130 * (Z9_26 + 1 + 1 + 1).toNatClampNeg))] [] w288 sz 0 0 Post := by
                        intro _
                        refine zp_seg (pc' := 404) (lv' := [(0, .ref m), (1, .int op), (4, .int to), (6, .ref (m + 596 + 130 * Z9_26.toNatClampNeg)), (7, .ref (m + 596 + 130 * (Z9_26 + 1).toNatClampNeg)), (9, .ref (m + 596 + 130 * (Z9_26 + 1 + 1).toNatClampNeg)), (10, .ref (m + 596 + 130 * (Z9_26 + 1 + 1 + 1).toNatClampNeg))]) (st' := [.int 4, .int op, .ref (m + 596 + 130 * (Z9_26 + 1).toNatClampNeg), .ref (m + 596 + 130 * Z9_26.toNatClampNeg), .ref (m + 596 + 130 * (Z9_26 + 1 + 1 + 1).toNatClampNeg), .ref (m + 596 + 130 * (Z9_26 + 1 + 1).toNatClampNeg), .ref m]) [(393, .aload_n 0), (394, .aload 9), (396, .aload 10), (398, .aload 6), (400, .aload 7), (402, .iload_n 1), (403, .iconst 4)] (by decide +kernel) rfl ?_
                        have hJ412 : ∀ (z0_412 : Int32), ((z0_412 = 0 ∨ z0_412 = 1)) → zP (d + 1) zq_X16_change 412 [(0, .ref m), (4, .int to), (9, .ref (m + 596 + 130 * (Z9_26 + 1 + 1).toNatClampNeg)), (10, .ref (m + 596 + 130 * (Z9_26 + 1 + 1 + 1).toNatClampNeg))] [.int z0_412, .ref (m + 596 + 130 * (Z9_26 + 1).toNatClampNeg), .ref (m + 596 + 130 * Z9_26.toNatClampNeg), .ref (m + 596 + 130 * (Z9_26 + 1 + 1 + 1).toNatClampNeg), .ref (m + 596 + 130 * (Z9_26 + 1 + 1).toNatClampNeg), .ref m] w288 sz 0 0 Post := by
                          intro z0_412 hi412_0
                          have kz0_412 := zrng z0_412
                          have k112 := zaddC (Z9_26 + 1 + 1 + 1 + 1) 1 (n := 1) (by decide) (by omega) (by omega)
                          have hz113 : ((Z9_26 + 1 + 1 + 1 + 1 + 1).toNatClampNeg : Int) = (Z9_26 + 1 + 1 + 1 + 1 + 1).toInt := znat (by first | omega | decide)
                          have hgzZ9_26_5 : (Z9_26 + 1 + 1 + 1 + 1 + 1).toNatClampNeg = 5 := by omega
                          have hb114 := hb71.si (hsi280.tr hsi288)
                          have hb115 : zB w288 (m + 596 + 130 * (Z9_26 + 1 + 1).toNatClampNeg) zbZ := hp268_1.ag (fun x hx1 hx2 => ((heq288 x (zx_X16_change_145 hx1 hx2 hgzZ9_26_2 hgzZ9_26_4)).trans ((heq280 x ⟨(zx_X16_change_143 hx1 hx2 hgzZ9_26_2), (zx_X16_change_145 hx1 hx2 hgzZ9_26_2 hgzZ9_26_4)⟩).trans (heq274 x ⟨(zx_X16_change_143 hx1 hx2 hgzZ9_26_2), (zx_X16_change_144 hx1 hx2 hgzZ9_26_2 hgzZ9_26_3)⟩))))
                          have ho412_u := zB.o hb115
                          have hb116 : zB w288 (m + 596 + 130 * (Z9_26 + 1 + 1 + 1).toNatClampNeg) zbZ := hp274_1.ag (fun x hx1 hx2 => ((heq288 x (zx_X16_change_147 hx1 hx2 hgzZ9_26_3 hgzZ9_26_4)).trans (heq280 x ⟨(zx_X16_change_146 hx1 hx2 hgzZ9_26_3), (zx_X16_change_147 hx1 hx2 hgzZ9_26_3 hgzZ9_26_4)⟩)))
                          have ho412_v := zB.o hb116
                          have hb117 : zB w288 (m + 596 + 130 * Z9_26.toNatClampNeg) (zbT fn1) := hp229_0.ag (fun x hx1 hx2 => ((heq288 x (zx_X16_change_150 hx1 hx2 hgzZ9_26_0 hgzZ9_26_4)).trans ((heq280 x ⟨(zx_X16_change_11 hx1 hx2 hgzZ9_26_0), (zx_X16_change_150 hx1 hx2 hgzZ9_26_0 hgzZ9_26_4)⟩).trans ((heq274 x ⟨(zx_X16_change_11 hx1 hx2 hgzZ9_26_0), (zx_X16_change_149 hx1 hx2 hgzZ9_26_0 hgzZ9_26_3)⟩).trans ((heq268 x ⟨(zx_X16_change_11 hx1 hx2 hgzZ9_26_0), (zx_X16_change_148 hx1 hx2 hgzZ9_26_0 hgzZ9_26_2)⟩).trans (heq239 x (zx_X16_change_12 hx1 hx2 hgzZ9_26_0 hgzZ9_26_1)))))))
                          have hb118 : zB w288 (m + 596 + 130 * (Z9_26 + 1).toNatClampNeg) (zbT fd1) := hp239_0.ag (fun x hx1 hx2 => ((heq288 x (zx_X16_change_154 hx1 hx2 hgzZ9_26_1 hgzZ9_26_4)).trans ((heq280 x ⟨(zx_X16_change_151 hx1 hx2 hgzZ9_26_1), (zx_X16_change_154 hx1 hx2 hgzZ9_26_1 hgzZ9_26_4)⟩).trans ((heq274 x ⟨(zx_X16_change_151 hx1 hx2 hgzZ9_26_1), (zx_X16_change_153 hx1 hx2 hgzZ9_26_1 hgzZ9_26_3)⟩).trans (heq268 x ⟨(zx_X16_change_151 hx1 hx2 hgzZ9_26_1), (zx_X16_change_152 hx1 hx2 hgzZ9_26_1 hgzZ9_26_2)⟩)))))
                          refine zr_callV (idx := 662) (j := 372) (by decide +kernel) (by decide +kernel) (show zMe 372 = some zq_X16_derivative from rfl) rfl rfl (Nat.le_of_ble_eq_true rfl) rfl rfl hb77 (Nat.le_of_ble_eq_true rfl) (Nat.le_of_ble_eq_true rfl) (c_X16_derivative (w := w288) (g1 := Z9_26) (g3 := (Z9_26 + 1 + 1 + 1 + 1 + 1)) m (m + 596 + 130 * (Z9_26 + 1 + 1).toNatClampNeg) (m + 596 + 130 * (Z9_26 + 1 + 1 + 1).toNatClampNeg) (m + 596 + 130 * Z9_26.toNatClampNeg) (m + 596 + 130 * (Z9_26 + 1).toNatClampNeg) z0_412 hb77 hb114 ho412_u ho412_v hb117 hb118 (by first | omega | decide | assumption | exact zr1_1 | exact zr1_0 | fail "num") (by first | omega | decide | assumption | exact zr1_1 | exact zr1_0 | fail "num") (by first | omega | decide | assumption | exact zr1_1 | exact zr1_0 | fail "num") (by first | omega | decide | assumption | exact zr1_1 | exact zr1_0 | fail "num") (by first | omega | decide | assumption | exact zr1_1 | exact zr1_0 | fail "num") (by first | omega | decide | assumption | exact zr1_1 | exact zr1_0 | fail "num") (by first | omega | decide | assumption | exact zr1_1 | exact zr1_0 | fail "num") (by first | omega | decide | assumption | exact zr1_1 | exact zr1_0 | fail "num") (by first | omega | decide | assumption | exact zr1_1 | exact zr1_0 | fail "num") (by first | omega | decide | assumption | exact zr1_1 | exact zr1_0 | fail "num") (by first | omega | decide | assumption | exact zr1_1 | exact zr1_0 | fail "num") (by first | omega | decide | assumption | exact zr1_1 | exact zr1_0 | fail "num") (by exact hd0) (by first | omega | decide | assumption | exact zr1_1 | exact zr1_0 | fail "num") rfl rfl) (by omega) (fun v412 w412 hp412 => ?_)
                          obtain ⟨P9_412, Q9_412, hsi412, heq412, hp412_0, hp412_1, hp412_2, rfl⟩ := hp412
                          show zP _ _ _ _ [] _ _ _ _ _
                          have hde9 := hp412_2
                          refine zp_seg (pc' := 473) (lv' := [(0, .ref m), (4, .int to), (9, .ref (m + 596 + 130 * (Z9_26 + 1 + 1).toNatClampNeg)), (10, .ref (m + 596 + 130 * (Z9_26 + 1 + 1 + 1).toNatClampNeg))]) (st' := []) [(415, .goto 58)] (by decide +kernel) rfl ?_
                          have hb119 : w412 m = some (.inl (15, zMo m (zs (zs (zs g 1 Z9_26) 3 (Z9_26 + 1 + 1 + 1 + 1 + 1)) 16 Z9_26) r)) := (heq412 m ⟨(zx_X16_change_159 hgzZ9_26_2), (zx_X16_change_160 hgzZ9_26_3), (zx_X16_change_161 hgzZ9_26_0), (zx_X16_change_162 hgzZ9_26_5), (zx_X16_change_163), (zx_X16_change_164)⟩).trans hb77
                          exact (hJ473 w412 (P9_412) (Q9_412) hsi412 (fun x hx => (heq412 x ⟨(zx_X16_change_155 hx.1.2.1 hgzZ9_26_2), (zx_X16_change_156 hx.1.2.1 hgzZ9_26_2 hgzZ9_26_3), (zx_X16_change_157 hx.1.1 hgzZ9_26_0), (zx_X16_change_158 hx.1.2.1 hgzZ9_26_2 hgzZ9_26_5), hx.1.2.2.1, hx.1.2.2.2⟩)) hp412_0 hp412_1 hb119 (by
                                first | exact hre9.2.2.2 hyn9 | exact hde9.2.2.1 | exact hp436_2.2.2.2 htn9 | (rw [zf_1, zC1_rw]; decide))).more (zfa1 rfl (zfa1 rfl (zfa1 rfl (zfa1 rfl (zfa0)))))
                        refine zp_if (i := .if_icmp .ne 7) (c := ¬ op = 4) (t := 411) (e := 407) (lv' := [(0, .ref m), (1, .int op), (4, .int to), (6, .ref (m + 596 + 130 * Z9_26.toNatClampNeg)), (7, .ref (m + 596 + 130 * (Z9_26 + 1).toNatClampNeg)), (9, .ref (m + 596 + 130 * (Z9_26 + 1 + 1).toNatClampNeg)), (10, .ref (m + 596 + 130 * (Z9_26 + 1 + 1 + 1).toNatClampNeg))]) (st' := [.ref (m + 596 + 130 * (Z9_26 + 1).toNatClampNeg), .ref (m + 596 + 130 * Z9_26.toNatClampNeg), .ref (m + 596 + 130 * (Z9_26 + 1 + 1 + 1).toNatClampNeg), .ref (m + 596 + 130 * (Z9_26 + 1 + 1).toNatClampNeg), .ref m]) (by decide +kernel) rfl (fun cc404 => ?_) (fun cc404 => ?_)
                        ·
                          have f121 := zneI cc404
                          rw [show (4 : Int32).toInt = 4 from by decide] at f121
                          refine zp_seg (pc' := 412) (lv' := [(0, .ref m), (1, .int op), (4, .int to), (6, .ref (m + 596 + 130 * Z9_26.toNatClampNeg)), (7, .ref (m + 596 + 130 * (Z9_26 + 1).toNatClampNeg)), (9, .ref (m + 596 + 130 * (Z9_26 + 1 + 1).toNatClampNeg)), (10, .ref (m + 596 + 130 * (Z9_26 + 1 + 1 + 1).toNatClampNeg))]) (st' := [.int 0, .ref (m + 596 + 130 * (Z9_26 + 1).toNatClampNeg), .ref (m + 596 + 130 * Z9_26.toNatClampNeg), .ref (m + 596 + 130 * (Z9_26 + 1 + 1 + 1).toNatClampNeg), .ref (m + 596 + 130 * (Z9_26 + 1 + 1).toNatClampNeg), .ref m]) [(411, .iconst 0)] (by decide +kernel) rfl ?_
                          have hl122 : (0 : Int32).toInt = 0 := by decide
                          exact (hJ412 0 (by first | assumption | omega | decide)).more (zfa1 rfl (zfa1 rfl (zfa1 rfl (zfa1 rfl (zfa0)))))
                        ·
                          replace cc404 := Classical.not_not.mp cc404
                          have f124 := zeqI cc404
                          rw [show (4 : Int32).toInt = 4 from by decide] at f124
                          refine zp_seg (pc' := 412) (lv' := [(0, .ref m), (1, .int op), (4, .int to), (6, .ref (m + 596 + 130 * Z9_26.toNatClampNeg)), (7, .ref (m + 596 + 130 * (Z9_26 + 1).toNatClampNeg)), (9, .ref (m + 596 + 130 * (Z9_26 + 1 + 1).toNatClampNeg)), (10, .ref (m + 596 + 130 * (Z9_26 + 1 + 1 + 1).toNatClampNeg))]) (st' := [.int 1, .ref (m + 596 + 130 * (Z9_26 + 1).toNatClampNeg), .ref (m + 596 + 130 * Z9_26.toNatClampNeg), .ref (m + 596 + 130 * (Z9_26 + 1 + 1 + 1).toNatClampNeg), .ref (m + 596 + 130 * (Z9_26 + 1 + 1).toNatClampNeg), .ref m]) [(407, .iconst 1), (408, .goto 4)] (by decide +kernel) rfl ?_
                          have hl125 : (1 : Int32).toInt = 1 := by decide
                          exact (hJ412 1 (by first | assumption | omega | decide)).more (zfa1 rfl (zfa1 rfl (zfa1 rfl (zfa1 rfl (zfa0)))))
                      have hJ332 : ∀ (_ : True), zP (d + 1) zq_X16_change 332 [(0, .ref m), (1, .int op), (4, .int to), (6, .ref (m + 596 + 130 * Z9_26.toNatClampNeg)), (7, .ref (m + 596 + 130 * (Z9_26 + 1).toNatClampNeg)), (8, .int r243), (9, .ref (m + 596 + 130 * (Z9_26 + 1 + 1).toNatClampNeg)), (10, .ref (m + 596 + 130 * (Z9_26 + 1 + 1 + 1).toNatClampNeg))] [] w288 sz 0 0 Post := by
                        intro _
                        refine zp_seg (pc' := 341) (lv' := [(0, .ref m), (1, .int op), (4, .int to), (6, .ref (m + 596 + 130 * Z9_26.toNatClampNeg)), (7, .ref (m + 596 + 130 * (Z9_26 + 1).toNatClampNeg)), (8, .int r243), (9, .ref (m + 596 + 130 * (Z9_26 + 1 + 1).toNatClampNeg)), (10, .ref (m + 596 + 130 * (Z9_26 + 1 + 1 + 1).toNatClampNeg))]) (st' := [.int 2, .int op, .int r243, .ref (m + 596 + 130 * Z9_26.toNatClampNeg), .ref (m + 596 + 130 * (Z9_26 + 1 + 1).toNatClampNeg), .ref m]) [(332, .aload_n 0), (333, .aload 9), (335, .aload 6), (337, .iload 8), (339, .iload_n 1), (340, .iconst 2)] (by decide +kernel) rfl ?_
                        have hJ349 : ∀ (z0_349 : Int32), ((z0_349 = 0 ∨ z0_349 = 1)) → zP (d + 1) zq_X16_change 349 [(0, .ref m), (1, .int op), (4, .int to), (7, .ref (m + 596 + 130 * (Z9_26 + 1).toNatClampNeg)), (8, .int r243), (9, .ref (m + 596 + 130 * (Z9_26 + 1 + 1).toNatClampNeg)), (10, .ref (m + 596 + 130 * (Z9_26 + 1 + 1 + 1).toNatClampNeg))] [.int z0_349, .int r243, .ref (m + 596 + 130 * Z9_26.toNatClampNeg), .ref (m + 596 + 130 * (Z9_26 + 1 + 1).toNatClampNeg), .ref m] w288 sz 0 0 Post := by
                          intro z0_349 hi349_0
                          have kz0_349 := zrng z0_349
                          have hb126 := hb71.si (hsi280.tr hsi288)
                          have hb127 : zB w288 (m + 596 + 130 * (Z9_26 + 1 + 1).toNatClampNeg) zbZ := hp268_1.ag (fun x hx1 hx2 => ((heq288 x (zx_X16_change_145 hx1 hx2 hgzZ9_26_2 hgzZ9_26_4)).trans ((heq280 x ⟨(zx_X16_change_143 hx1 hx2 hgzZ9_26_2), (zx_X16_change_145 hx1 hx2 hgzZ9_26_2 hgzZ9_26_4)⟩).trans (heq274 x ⟨(zx_X16_change_143 hx1 hx2 hgzZ9_26_2), (zx_X16_change_144 hx1 hx2 hgzZ9_26_2 hgzZ9_26_3)⟩))))
                          have ho349_to := zB.o hb127
                          have hb128 : zB w288 (m + 596 + 130 * Z9_26.toNatClampNeg) (zbT fn1) := hp229_0.ag (fun x hx1 hx2 => ((heq288 x (zx_X16_change_150 hx1 hx2 hgzZ9_26_0 hgzZ9_26_4)).trans ((heq280 x ⟨(zx_X16_change_11 hx1 hx2 hgzZ9_26_0), (zx_X16_change_150 hx1 hx2 hgzZ9_26_0 hgzZ9_26_4)⟩).trans ((heq274 x ⟨(zx_X16_change_11 hx1 hx2 hgzZ9_26_0), (zx_X16_change_149 hx1 hx2 hgzZ9_26_0 hgzZ9_26_3)⟩).trans ((heq268 x ⟨(zx_X16_change_11 hx1 hx2 hgzZ9_26_0), (zx_X16_change_148 hx1 hx2 hgzZ9_26_0 hgzZ9_26_2)⟩).trans (heq239 x (zx_X16_change_12 hx1 hx2 hgzZ9_26_0 hgzZ9_26_1)))))))
                          refine zr_callV (idx := 655) (j := 370) (by decide +kernel) (by decide +kernel) (show zMe 370 = some zq_X16_fixed from rfl) rfl rfl (Nat.le_of_ble_eq_true rfl) rfl rfl hb77 (Nat.le_of_ble_eq_true rfl) (Nat.le_of_ble_eq_true rfl) (c_X16_fixed (w := w288) (g1 := Z9_26) m (m + 596 + 130 * (Z9_26 + 1 + 1).toNatClampNeg) (m + 596 + 130 * Z9_26.toNatClampNeg) r243 z0_349 hb77 hb126 ho349_to hb128 (by first | omega | decide | assumption | exact zr1_1 | exact zr1_0 | fail "num") (by first | omega | decide | assumption | exact zr1_1 | exact zr1_0 | fail "num") (by first | omega | decide | assumption | exact zr1_1 | exact zr1_0 | fail "num") (by first | omega | decide | assumption | exact zr1_1 | exact zr1_0 | fail "num") (by exact hr243.1) (by first | omega | decide | assumption | exact zr1_1 | exact zr1_0 | fail "num") rfl) (by omega) (fun v349 w349 hp349 => ?_)
                          obtain ⟨P9_349, hsi349, heq349, hp349_0, hp349_1, rfl⟩ := hp349
                          show zP _ _ _ _ [] _ _ _ _ _
                          have hf1 := hp349_1.1 13 (by decide) (by omega)
                          have hf2 := hp349_1.2
                          refine zp_seg (pc' := 361) (lv' := [(0, .ref m), (1, .int op), (4, .int to), (7, .ref (m + 596 + 130 * (Z9_26 + 1).toNatClampNeg)), (8, .int r243), (9, .ref (m + 596 + 130 * (Z9_26 + 1 + 1).toNatClampNeg)), (10, .ref (m + 596 + 130 * (Z9_26 + 1 + 1 + 1).toNatClampNeg))]) (st' := [.int 2, .int op, .int r243, .ref (m + 596 + 130 * (Z9_26 + 1).toNatClampNeg), .ref (m + 596 + 130 * (Z9_26 + 1 + 1 + 1).toNatClampNeg), .ref m]) [(352, .aload_n 0), (353, .aload 10), (355, .aload 7), (357, .iload 8), (359, .iload_n 1), (360, .iconst 2)] (by decide +kernel) rfl ?_
                          have hJ369 : ∀ (z0_369 : Int32), ((z0_369 = 0 ∨ z0_369 = 1)) → zP (d + 1) zq_X16_change 369 [(0, .ref m), (4, .int to), (9, .ref (m + 596 + 130 * (Z9_26 + 1 + 1).toNatClampNeg)), (10, .ref (m + 596 + 130 * (Z9_26 + 1 + 1 + 1).toNatClampNeg))] [.int z0_369, .int r243, .ref (m + 596 + 130 * (Z9_26 + 1).toNatClampNeg), .ref (m + 596 + 130 * (Z9_26 + 1 + 1 + 1).toNatClampNeg), .ref m] w349 sz 0 0 Post := by
                            intro z0_369 hi369_0
                            have kz0_369 := zrng z0_369
                            have hb129 : w349 m = some (.inl (15, zMo m (zs (zs (zs g 1 Z9_26) 3 (Z9_26 + 1 + 1 + 1 + 1 + 1)) 16 Z9_26) r)) := (heq349 m ⟨(zx_X16_change_159 hgzZ9_26_2), (zx_X16_change_161 hgzZ9_26_0)⟩).trans hb77
                            have hb130 := hb126.si hsi349
                            have hb131 : zB w349 (m + 596 + 130 * (Z9_26 + 1 + 1 + 1).toNatClampNeg) zbZ := hp274_1.ag (fun x hx1 hx2 => ((heq349 x ⟨(zx_X16_change_165 hx1 hx2 hgzZ9_26_2 hgzZ9_26_3), (zx_X16_change_166 hx1 hx2 hgzZ9_26_0 hgzZ9_26_3)⟩).trans ((heq288 x (zx_X16_change_147 hx1 hx2 hgzZ9_26_3 hgzZ9_26_4)).trans (heq280 x ⟨(zx_X16_change_146 hx1 hx2 hgzZ9_26_3), (zx_X16_change_147 hx1 hx2 hgzZ9_26_3 hgzZ9_26_4)⟩))))
                            have ho369_to := zB.o hb131
                            have hb132 : zB w349 (m + 596 + 130 * (Z9_26 + 1).toNatClampNeg) (zbT fd1) := hp239_0.ag (fun x hx1 hx2 => ((heq349 x ⟨(zx_X16_change_152 hx1 hx2 hgzZ9_26_1 hgzZ9_26_2), (zx_X16_change_167 hx1 hx2 hgzZ9_26_0 hgzZ9_26_1)⟩).trans ((heq288 x (zx_X16_change_154 hx1 hx2 hgzZ9_26_1 hgzZ9_26_4)).trans ((heq280 x ⟨(zx_X16_change_151 hx1 hx2 hgzZ9_26_1), (zx_X16_change_154 hx1 hx2 hgzZ9_26_1 hgzZ9_26_4)⟩).trans ((heq274 x ⟨(zx_X16_change_151 hx1 hx2 hgzZ9_26_1), (zx_X16_change_153 hx1 hx2 hgzZ9_26_1 hgzZ9_26_3)⟩).trans (heq268 x ⟨(zx_X16_change_151 hx1 hx2 hgzZ9_26_1), (zx_X16_change_152 hx1 hx2 hgzZ9_26_1 hgzZ9_26_2)⟩))))))
                            refine zr_callV (idx := 655) (j := 370) (by decide +kernel) (by decide +kernel) (show zMe 370 = some zq_X16_fixed from rfl) rfl rfl (Nat.le_of_ble_eq_true rfl) rfl rfl hb129 (Nat.le_of_ble_eq_true rfl) (Nat.le_of_ble_eq_true rfl) (c_X16_fixed (w := w349) (g1 := Z9_26) m (m + 596 + 130 * (Z9_26 + 1 + 1 + 1).toNatClampNeg) (m + 596 + 130 * (Z9_26 + 1).toNatClampNeg) r243 z0_369 hb129 hb130 ho369_to hb132 (by first | omega | decide | assumption | exact zr1_1 | exact zr1_0 | fail "num") (by first | omega | decide | assumption | exact zr1_1 | exact zr1_0 | fail "num") (by first | omega | decide | assumption | exact zr1_1 | exact zr1_0 | fail "num") (by first | omega | decide | assumption | exact zr1_1 | exact zr1_0 | fail "num") (by exact hr243.1) (by first | omega | decide | assumption | exact zr1_1 | exact zr1_0 | fail "num") rfl) (by omega) (fun v369 w369 hp369 => ?_)
                            obtain ⟨P9_369, hsi369, heq369, hp369_0, hp369_1, rfl⟩ := hp369
                            show zP _ _ _ _ [] _ _ _ _ _
                            have hf3 := hp369_1.1 13 (by decide) (by omega)
                            have hf4 := hp369_1.2
                            refine zp_seg (pc' := 374) (lv' := [(0, .ref m), (4, .int to), (9, .ref (m + 596 + 130 * (Z9_26 + 1 + 1).toNatClampNeg)), (10, .ref (m + 596 + 130 * (Z9_26 + 1 + 1 + 1).toNatClampNeg))]) (st' := [.ref (m + 596 + 130 * (Z9_26 + 1 + 1 + 1).toNatClampNeg)]) [(372, .aload 10)] (by decide +kernel) rfl ?_
                            obtain ⟨n133, hb134, hb135, hb136, hb137, -⟩ := id hp369_0
                            have kn133 := zrng n133
                            refine zr_get (idx := 93) (k := 1) (v := .int n133) (by decide +kernel) (by decide +kernel) hb134 rfl ?_
                            have hrz9 := hb136
                            refine zp_if (i := .ifCond .ne 5) (c := ¬ n133 = 0) (t := 382) (e := 380) (lv' := [(0, .ref m), (4, .int to), (9, .ref (m + 596 + 130 * (Z9_26 + 1 + 1).toNatClampNeg)), (10, .ref (m + 596 + 130 * (Z9_26 + 1 + 1 + 1).toNatClampNeg))]) (st' := []) (by decide +kernel) rfl (fun cc377 => ?_) (fun cc377 => ?_)
                            ·
                              have f138 := zneI cc377
                              rw [show (0 : Int32).toInt = 0 from by decide] at f138
                              have hyn9 : 0 < zrw P9_369 := by omega
                              refine zp_seg (pc' := 387) (lv' := [(0, .ref m), (4, .int to), (9, .ref (m + 596 + 130 * (Z9_26 + 1 + 1).toNatClampNeg)), (10, .ref (m + 596 + 130 * (Z9_26 + 1 + 1 + 1).toNatClampNeg))]) (st' := [.ref (m + 596 + 130 * (Z9_26 + 1 + 1 + 1).toNatClampNeg), .ref (m + 596 + 130 * (Z9_26 + 1 + 1).toNatClampNeg), .ref m]) [(382, .aload_n 0), (383, .aload 9), (385, .aload 10)] (by decide +kernel) rfl ?_
                              have hb139 : w369 m = some (.inl (15, zMo m (zs (zs (zs g 1 Z9_26) 3 (Z9_26 + 1 + 1 + 1 + 1 + 1)) 16 Z9_26) r)) := (heq369 m ⟨(zx_X16_change_160 hgzZ9_26_3), (zx_X16_change_161 hgzZ9_26_0)⟩).trans hb129
                              have k140 := zaddC (Z9_26 + 1 + 1 + 1 + 1) 1 (n := 1) (by decide) (by omega) (by omega)
                              have hz141 : ((Z9_26 + 1 + 1 + 1 + 1 + 1).toNatClampNeg : Int) = (Z9_26 + 1 + 1 + 1 + 1 + 1).toInt := znat (by first | omega | decide)
                              have hgzZ9_26_5 : (Z9_26 + 1 + 1 + 1 + 1 + 1).toNatClampNeg = 5 := by omega
                              have hb142 := hb130.si hsi369
                              have hb143 : zB w369 (m + 596 + 130 * (Z9_26 + 1 + 1).toNatClampNeg) P9_349 := hp349_0.ag (fun x hx1 hx2 => (heq369 x ⟨(zx_X16_change_144 hx1 hx2 hgzZ9_26_2 hgzZ9_26_3), (zx_X16_change_168 hx1 hx2 hgzZ9_26_0 hgzZ9_26_2)⟩))
                              refine zr_callV (idx := 659) (j := 294) (by decide +kernel) (by decide +kernel) (show zMe 294 = some zq_X16_reduce from rfl) rfl rfl (Nat.le_of_ble_eq_true rfl) rfl rfl hb139 (Nat.le_of_ble_eq_true rfl) (Nat.le_of_ble_eq_true rfl) (c_X16_reduce (w := w369) (g1 := Z9_26) (g3 := (Z9_26 + 1 + 1 + 1 + 1 + 1)) m (m + 596 + 130 * (Z9_26 + 1 + 1).toNatClampNeg) (m + 596 + 130 * (Z9_26 + 1 + 1 + 1).toNatClampNeg) hb139 hb142 hb143 hp369_0 (by first | omega | decide | assumption | exact zr1_1 | exact zr1_0 | fail "num") (by first | omega | decide | assumption | exact zr1_1 | exact zr1_0 | fail "num") (by first | omega | decide | assumption | exact zr1_1 | exact zr1_0 | fail "num") (by first | omega | decide | assumption | exact zr1_1 | exact zr1_0 | fail "num") (by first | omega | decide | assumption | exact zr1_1 | exact zr1_0 | fail "num") (by exact hyn9) (by first | omega | decide | assumption | exact zr1_1 | exact zr1_0 | fail "num") (by first | omega | decide | assumption | exact zr1_1 | exact zr1_0 | fail "num") (by first | omega | decide | assumption | exact zr1_1 | exact zr1_0 | fail "num") rfl rfl) (by omega) (fun v387 w387 hp387 => ?_)
                              obtain ⟨P9_387, Q9_387, hsi387, heq387, hp387_0, hp387_1, hp387_2, rfl⟩ := hp387
                              show zP _ _ _ _ [] _ _ _ _ _
                              have hre9 := hp387_2
                              refine zp_seg (pc' := 473) (lv' := [(0, .ref m), (4, .int to), (9, .ref (m + 596 + 130 * (Z9_26 + 1 + 1).toNatClampNeg)), (10, .ref (m + 596 + 130 * (Z9_26 + 1 + 1 + 1).toNatClampNeg))]) (st' := []) [(390, .goto 83)] (by decide +kernel) rfl ?_
                              have hb144 : w387 m = some (.inl (15, zMo m (zs (zs (zs g 1 Z9_26) 3 (Z9_26 + 1 + 1 + 1 + 1 + 1)) 16 Z9_26) r)) := (heq387 m ⟨(zx_X16_change_159 hgzZ9_26_2), (zx_X16_change_160 hgzZ9_26_3), (zx_X16_change_161 hgzZ9_26_0), (zx_X16_change_162 hgzZ9_26_5), (zx_X16_change_163), (zx_X16_change_164)⟩).trans hb139
                              exact (hJ473 w387 (P9_387) (Q9_387) ((hsi349.tr hsi369).tr hsi387) (fun x hx => ((heq387 x ⟨(zx_X16_change_155 hx.1.2.1 hgzZ9_26_2), (zx_X16_change_156 hx.1.2.1 hgzZ9_26_2 hgzZ9_26_3), (zx_X16_change_157 hx.1.1 hgzZ9_26_0), (zx_X16_change_158 hx.1.2.1 hgzZ9_26_2 hgzZ9_26_5), hx.1.2.2.1, hx.1.2.2.2⟩).trans ((heq369 x ⟨(zx_X16_change_156 hx.1.2.1 hgzZ9_26_2 hgzZ9_26_3), (zx_X16_change_157 hx.1.1 hgzZ9_26_0)⟩).trans (heq349 x ⟨(zx_X16_change_155 hx.1.2.1 hgzZ9_26_2), (zx_X16_change_157 hx.1.1 hgzZ9_26_0)⟩)))) hp387_0 hp387_1 hb144 (by
                                    first | exact hre9.2.2.2 hyn9 | exact hde9.2.2.1 | exact hp436_2.2.2.2 htn9 | (rw [zf_1, zC1_rw]; decide))).more (zfa1 rfl (zfa1 rfl (zfa1 rfl (zfa1 rfl (zfa0)))))
                            ·
                              replace cc377 := Classical.not_not.mp cc377
                              have f145 := zeqI cc377
                              rw [show (0 : Int32).toInt = 0 from by decide] at f145
                              refine zp_seg (pc' := 381) (lv' := [(0, .ref m), (4, .int to), (9, .ref (m + 596 + 130 * (Z9_26 + 1 + 1).toNatClampNeg)), (10, .ref (m + 596 + 130 * (Z9_26 + 1 + 1 + 1).toNatClampNeg))]) (st' := [.int (Int32.ofInt (-1))]) [(380, .iconst (-1))] (by decide +kernel) rfl ?_
                              have hb146 : w369 m = some (.inl (15, zMo m (zs (zs (zs g 1 Z9_26) 3 (Z9_26 + 1 + 1 + 1 + 1 + 1)) 16 Z9_26) r)) := (heq369 m ⟨(zx_X16_change_160 hgzZ9_26_3), (zx_X16_change_161 hgzZ9_26_0)⟩).trans hb129
                              have hoffend : ∀ x, (x < m + 0 ∨ m + 0 + 8322 ≤ x) → w369 x = w x := fun x hx => ((heq369 x ⟨(zx_X16_change_39 hx hgzZ9_26_3), (zx_X16_change_169 hx hgzZ9_26_0)⟩).trans ((heq349 x ⟨(zx_X16_change_38 hx hgzZ9_26_2), (zx_X16_change_169 hx hgzZ9_26_0)⟩).trans ((heq288 x (zx_X16_change_40 hx hgzZ9_26_4)).trans ((heq280 x ⟨(zx_X16_change_0 hx), (zx_X16_change_40 hx hgzZ9_26_4)⟩).trans ((heq274 x ⟨(zx_X16_change_0 hx), (zx_X16_change_39 hx hgzZ9_26_3)⟩).trans ((heq268 x ⟨(zx_X16_change_0 hx), (zx_X16_change_38 hx hgzZ9_26_2)⟩).trans ((heq239 x (zx_X16_change_37 hx hgzZ9_26_1)).trans ((heq229 x (zx_X16_change_36 hx hgzZ9_26_0)).trans ((heq217 x ⟨(zx_X16_change_0 hx), (zx_X16_change_37 hx hgzZ9_26_1)⟩).trans ((heq211 x ⟨(zx_X16_change_0 hx), (zx_X16_change_36 hx hgzZ9_26_0)⟩).trans ((heq131 x (zx_X16_change_35 hx)).trans (heq26 x (zx_X16_change_0 hx)))))))))))))
                              have hb147 := hb130.si hsi369
                              have hb148 : zSlo w369 (m + 7486) := hSl0.ag (fun x hx1 hx2 => ((heq369 x ⟨(zx_X16_change_51 hx1 hx2 hgzZ9_26_3), (zx_X16_change_170 hx1 hx2 hgzZ9_26_0)⟩).trans ((heq349 x ⟨(zx_X16_change_50 hx1 hx2 hgzZ9_26_2), (zx_X16_change_170 hx1 hx2 hgzZ9_26_0)⟩).trans ((heq288 x (zx_X16_change_52 hx1 hx2 hgzZ9_26_4)).trans ((heq280 x ⟨(zx_X16_change_1 hx1 hx2), (zx_X16_change_52 hx1 hx2 hgzZ9_26_4)⟩).trans ((heq274 x ⟨(zx_X16_change_1 hx1 hx2), (zx_X16_change_51 hx1 hx2 hgzZ9_26_3)⟩).trans ((heq268 x ⟨(zx_X16_change_1 hx1 hx2), (zx_X16_change_50 hx1 hx2 hgzZ9_26_2)⟩).trans ((heq239 x (zx_X16_change_49 hx1 hx2 hgzZ9_26_1)).trans ((heq229 x (zx_X16_change_48 hx1 hx2 hgzZ9_26_0)).trans ((heq217 x ⟨(zx_X16_change_1 hx1 hx2), (zx_X16_change_49 hx1 hx2 hgzZ9_26_1)⟩).trans ((heq211 x ⟨(zx_X16_change_1 hx1 hx2), (zx_X16_change_48 hx1 hx2 hgzZ9_26_0)⟩).trans ((heq131 x (zx_X16_change_47 hx1 hx2)).trans (heq26 x (zx_X16_change_1 hx1 hx2))))))))))))))
                              have hb149 : zTi w369 (m + 83) kS1 := hp131_0.ag (fun x hx1 hx2 => ((heq369 x ⟨(zx_X16_change_20 hx1 hx2 hgzZ9_26_3), (zx_X16_change_171 hx1 hx2 hgzZ9_26_0)⟩).trans ((heq349 x ⟨(zx_X16_change_19 hx1 hx2 hgzZ9_26_2), (zx_X16_change_171 hx1 hx2 hgzZ9_26_0)⟩).trans ((heq288 x (zx_X16_change_21 hx1 hx2 hgzZ9_26_4)).trans ((heq280 x ⟨(zx_X16_change_2 hx1 hx2), (zx_X16_change_21 hx1 hx2 hgzZ9_26_4)⟩).trans ((heq274 x ⟨(zx_X16_change_2 hx1 hx2), (zx_X16_change_20 hx1 hx2 hgzZ9_26_3)⟩).trans ((heq268 x ⟨(zx_X16_change_2 hx1 hx2), (zx_X16_change_19 hx1 hx2 hgzZ9_26_2)⟩).trans ((heq239 x (zx_X16_change_18 hx1 hx2 hgzZ9_26_1)).trans ((heq229 x (zx_X16_change_17 hx1 hx2 hgzZ9_26_0)).trans ((heq217 x ⟨(zx_X16_change_2 hx1 hx2), (zx_X16_change_18 hx1 hx2 hgzZ9_26_1)⟩).trans (heq211 x ⟨(zx_X16_change_2 hx1 hx2), (zx_X16_change_17 hx1 hx2 hgzZ9_26_0)⟩)))))))))))
                              have hb150 : zPil w369 (m + 6316) := hPl0.ag (fun x hx1 hx2 => ((heq369 x ⟨(zx_X16_change_63 hx1 hx2 hgzZ9_26_3), (zx_X16_change_172 hx1 hx2 hgzZ9_26_0)⟩).trans ((heq349 x ⟨(zx_X16_change_62 hx1 hx2 hgzZ9_26_2), (zx_X16_change_172 hx1 hx2 hgzZ9_26_0)⟩).trans ((heq288 x (zx_X16_change_64 hx1 hx2 hgzZ9_26_4)).trans ((heq280 x ⟨(zx_X16_change_3 hx1 hx2), (zx_X16_change_64 hx1 hx2 hgzZ9_26_4)⟩).trans ((heq274 x ⟨(zx_X16_change_3 hx1 hx2), (zx_X16_change_63 hx1 hx2 hgzZ9_26_3)⟩).trans ((heq268 x ⟨(zx_X16_change_3 hx1 hx2), (zx_X16_change_62 hx1 hx2 hgzZ9_26_2)⟩).trans ((heq239 x (zx_X16_change_61 hx1 hx2 hgzZ9_26_1)).trans ((heq229 x (zx_X16_change_60 hx1 hx2 hgzZ9_26_0)).trans ((heq217 x ⟨(zx_X16_change_3 hx1 hx2), (zx_X16_change_61 hx1 hx2 hgzZ9_26_1)⟩).trans ((heq211 x ⟨(zx_X16_change_3 hx1 hx2), (zx_X16_change_60 hx1 hx2 hgzZ9_26_0)⟩).trans ((heq131 x (zx_X16_change_59 hx1 hx2)).trans (heq26 x (zx_X16_change_3 hx1 hx2))))))))))))))
                              have hb151 : zBya w369 (m + 92) 4000 := hBo0.ag (fun x hx1 hx2 => ((heq369 x ⟨(zx_X16_change_75 hx1 hx2 hgzZ9_26_3), (zx_X16_change_173 hx1 hx2 hgzZ9_26_0)⟩).trans ((heq349 x ⟨(zx_X16_change_74 hx1 hx2 hgzZ9_26_2), (zx_X16_change_173 hx1 hx2 hgzZ9_26_0)⟩).trans ((heq288 x (zx_X16_change_76 hx1 hx2 hgzZ9_26_4)).trans ((heq280 x ⟨(zx_X16_change_4 hx1 hx2), (zx_X16_change_76 hx1 hx2 hgzZ9_26_4)⟩).trans ((heq274 x ⟨(zx_X16_change_4 hx1 hx2), (zx_X16_change_75 hx1 hx2 hgzZ9_26_3)⟩).trans ((heq268 x ⟨(zx_X16_change_4 hx1 hx2), (zx_X16_change_74 hx1 hx2 hgzZ9_26_2)⟩).trans ((heq239 x (zx_X16_change_73 hx1 hx2 hgzZ9_26_1)).trans ((heq229 x (zx_X16_change_72 hx1 hx2 hgzZ9_26_0)).trans ((heq217 x ⟨(zx_X16_change_4 hx1 hx2), (zx_X16_change_73 hx1 hx2 hgzZ9_26_1)⟩).trans ((heq211 x ⟨(zx_X16_change_4 hx1 hx2), (zx_X16_change_72 hx1 hx2 hgzZ9_26_0)⟩).trans ((heq131 x (zx_X16_change_71 hx1 hx2)).trans (heq26 x (zx_X16_change_4 hx1 hx2))))))))))))))
                              have hb152 : zBya w369 (m + 93) 4000 := hBl0.ag (fun x hx1 hx2 => ((heq369 x ⟨(zx_X16_change_87 hx1 hx2 hgzZ9_26_3), (zx_X16_change_174 hx1 hx2 hgzZ9_26_0)⟩).trans ((heq349 x ⟨(zx_X16_change_86 hx1 hx2 hgzZ9_26_2), (zx_X16_change_174 hx1 hx2 hgzZ9_26_0)⟩).trans ((heq288 x (zx_X16_change_88 hx1 hx2 hgzZ9_26_4)).trans ((heq280 x ⟨(zx_X16_change_5 hx1 hx2), (zx_X16_change_88 hx1 hx2 hgzZ9_26_4)⟩).trans ((heq274 x ⟨(zx_X16_change_5 hx1 hx2), (zx_X16_change_87 hx1 hx2 hgzZ9_26_3)⟩).trans ((heq268 x ⟨(zx_X16_change_5 hx1 hx2), (zx_X16_change_86 hx1 hx2 hgzZ9_26_2)⟩).trans ((heq239 x (zx_X16_change_85 hx1 hx2 hgzZ9_26_1)).trans ((heq229 x (zx_X16_change_84 hx1 hx2 hgzZ9_26_0)).trans ((heq217 x ⟨(zx_X16_change_5 hx1 hx2), (zx_X16_change_85 hx1 hx2 hgzZ9_26_1)⟩).trans ((heq211 x ⟨(zx_X16_change_5 hx1 hx2), (zx_X16_change_84 hx1 hx2 hgzZ9_26_0)⟩).trans ((heq131 x (zx_X16_change_83 hx1 hx2)).trans (heq26 x (zx_X16_change_5 hx1 hx2))))))))))))))
                              have hb153 : zGr w369 (m + 100) 48 48 := hGa0.ag (fun x hx1 hx2 => ((heq369 x ⟨(zx_X16_change_99 hx1 hx2 hgzZ9_26_3), (zx_X16_change_175 hx1 hx2 hgzZ9_26_0)⟩).trans ((heq349 x ⟨(zx_X16_change_98 hx1 hx2 hgzZ9_26_2), (zx_X16_change_175 hx1 hx2 hgzZ9_26_0)⟩).trans ((heq288 x (zx_X16_change_100 hx1 hx2 hgzZ9_26_4)).trans ((heq280 x ⟨(zx_X16_change_6 hx1 hx2), (zx_X16_change_100 hx1 hx2 hgzZ9_26_4)⟩).trans ((heq274 x ⟨(zx_X16_change_6 hx1 hx2), (zx_X16_change_99 hx1 hx2 hgzZ9_26_3)⟩).trans ((heq268 x ⟨(zx_X16_change_6 hx1 hx2), (zx_X16_change_98 hx1 hx2 hgzZ9_26_2)⟩).trans ((heq239 x (zx_X16_change_97 hx1 hx2 hgzZ9_26_1)).trans ((heq229 x (zx_X16_change_96 hx1 hx2 hgzZ9_26_0)).trans ((heq217 x ⟨(zx_X16_change_6 hx1 hx2), (zx_X16_change_97 hx1 hx2 hgzZ9_26_1)⟩).trans ((heq211 x ⟨(zx_X16_change_6 hx1 hx2), (zx_X16_change_96 hx1 hx2 hgzZ9_26_0)⟩).trans ((heq131 x (zx_X16_change_95 hx1 hx2)).trans (heq26 x (zx_X16_change_6 hx1 hx2))))))))))))))
                              have hb154 : zGr w369 (m + 212) 60 46 := hGb0.ag (fun x hx1 hx2 => ((heq369 x ⟨(zx_X16_change_111 hx1 hx2 hgzZ9_26_3), (zx_X16_change_176 hx1 hx2 hgzZ9_26_0)⟩).trans ((heq349 x ⟨(zx_X16_change_110 hx1 hx2 hgzZ9_26_2), (zx_X16_change_176 hx1 hx2 hgzZ9_26_0)⟩).trans ((heq288 x (zx_X16_change_112 hx1 hx2 hgzZ9_26_4)).trans ((heq280 x ⟨(zx_X16_change_7 hx1 hx2), (zx_X16_change_112 hx1 hx2 hgzZ9_26_4)⟩).trans ((heq274 x ⟨(zx_X16_change_7 hx1 hx2), (zx_X16_change_111 hx1 hx2 hgzZ9_26_3)⟩).trans ((heq268 x ⟨(zx_X16_change_7 hx1 hx2), (zx_X16_change_110 hx1 hx2 hgzZ9_26_2)⟩).trans ((heq239 x (zx_X16_change_109 hx1 hx2 hgzZ9_26_1)).trans ((heq229 x (zx_X16_change_108 hx1 hx2 hgzZ9_26_0)).trans ((heq217 x ⟨(zx_X16_change_7 hx1 hx2), (zx_X16_change_109 hx1 hx2 hgzZ9_26_1)⟩).trans ((heq211 x ⟨(zx_X16_change_7 hx1 hx2), (zx_X16_change_108 hx1 hx2 hgzZ9_26_0)⟩).trans ((heq131 x (zx_X16_change_107 hx1 hx2)).trans (heq26 x (zx_X16_change_7 hx1 hx2))))))))))))))
                              have hb155 : zBd w369 (m + 149) := hBd0.ag (fun x hx1 hx2 => ((heq369 x ⟨(zx_X16_change_123 hx1 hx2 hgzZ9_26_3), (zx_X16_change_177 hx1 hx2 hgzZ9_26_0)⟩).trans ((heq349 x ⟨(zx_X16_change_122 hx1 hx2 hgzZ9_26_2), (zx_X16_change_177 hx1 hx2 hgzZ9_26_0)⟩).trans ((heq288 x (zx_X16_change_124 hx1 hx2 hgzZ9_26_4)).trans ((heq280 x ⟨(zx_X16_change_8 hx1 hx2), (zx_X16_change_124 hx1 hx2 hgzZ9_26_4)⟩).trans ((heq274 x ⟨(zx_X16_change_8 hx1 hx2), (zx_X16_change_123 hx1 hx2 hgzZ9_26_3)⟩).trans ((heq268 x ⟨(zx_X16_change_8 hx1 hx2), (zx_X16_change_122 hx1 hx2 hgzZ9_26_2)⟩).trans ((heq239 x (zx_X16_change_121 hx1 hx2 hgzZ9_26_1)).trans ((heq229 x (zx_X16_change_120 hx1 hx2 hgzZ9_26_0)).trans ((heq217 x ⟨(zx_X16_change_8 hx1 hx2), (zx_X16_change_121 hx1 hx2 hgzZ9_26_1)⟩).trans ((heq211 x ⟨(zx_X16_change_8 hx1 hx2), (zx_X16_change_120 hx1 hx2 hgzZ9_26_0)⟩).trans ((heq131 x (zx_X16_change_119 hx1 hx2)).trans (heq26 x (zx_X16_change_8 hx1 hx2))))))))))))))
                              have hb156 : w369 (m + 94) = some (.inr (0, 60, .inl ff)) := ((heq369 (m + 94) ⟨(zx_X16_change_135 hgzZ9_26_3), (zx_X16_change_178 hgzZ9_26_0)⟩).trans ((heq349 (m + 94) ⟨(zx_X16_change_134 hgzZ9_26_2), (zx_X16_change_178 hgzZ9_26_0)⟩).trans ((heq288 (m + 94) (zx_X16_change_136 hgzZ9_26_4)).trans ((heq280 (m + 94) ⟨(zx_X16_change_9), (zx_X16_change_136 hgzZ9_26_4)⟩).trans ((heq274 (m + 94) ⟨(zx_X16_change_9), (zx_X16_change_135 hgzZ9_26_3)⟩).trans ((heq268 (m + 94) ⟨(zx_X16_change_9), (zx_X16_change_134 hgzZ9_26_2)⟩).trans ((heq239 (m + 94) (zx_X16_change_133 hgzZ9_26_1)).trans ((heq229 (m + 94) (zx_X16_change_132 hgzZ9_26_0)).trans ((heq217 (m + 94) ⟨(zx_X16_change_9), (zx_X16_change_133 hgzZ9_26_1)⟩).trans ((heq211 (m + 94) ⟨(zx_X16_change_9), (zx_X16_change_132 hgzZ9_26_0)⟩).trans ((heq131 (m + 94) (zx_X16_change_131)).trans (heq26 (m + 94) (zx_X16_change_9))))))))))))).trans hAf0
                              refine zr_retI (by decide +kernel) rfl ?_
                              rw [← hPost]; exact ⟨rfl, _, rfl, (((((((((((hsi26.tr hsi131).tr hsi211).tr hsi217).tr hsi229).tr hsi239).tr hsi268).tr hsi274).tr hsi280).tr hsi288).tr hsi349).tr hsi369), hoffend, ⟨_, _, hb146, hb147, hb148, (zTi.m hb149), hb150, ⟨_, hb156, hff⟩, hb151, hb152, hb153, hb154, hb155, hI12, hI24, hI29, hI31, hIn⟩, _, rfl, trivial⟩
                          refine zp_if (i := .if_icmp .ne 7) (c := ¬ op = 2) (t := 368) (e := 364) (lv' := [(0, .ref m), (1, .int op), (4, .int to), (7, .ref (m + 596 + 130 * (Z9_26 + 1).toNatClampNeg)), (8, .int r243), (9, .ref (m + 596 + 130 * (Z9_26 + 1 + 1).toNatClampNeg)), (10, .ref (m + 596 + 130 * (Z9_26 + 1 + 1 + 1).toNatClampNeg))]) (st' := [.int r243, .ref (m + 596 + 130 * (Z9_26 + 1).toNatClampNeg), .ref (m + 596 + 130 * (Z9_26 + 1 + 1 + 1).toNatClampNeg), .ref m]) (by decide +kernel) rfl (fun cc361 => ?_) (fun cc361 => ?_)
                          ·
                            have f158 := zneI cc361
                            rw [show (2 : Int32).toInt = 2 from by decide] at f158
                            refine zp_seg (pc' := 369) (lv' := [(0, .ref m), (1, .int op), (4, .int to), (7, .ref (m + 596 + 130 * (Z9_26 + 1).toNatClampNeg)), (8, .int r243), (9, .ref (m + 596 + 130 * (Z9_26 + 1 + 1).toNatClampNeg)), (10, .ref (m + 596 + 130 * (Z9_26 + 1 + 1 + 1).toNatClampNeg))]) (st' := [.int 0, .int r243, .ref (m + 596 + 130 * (Z9_26 + 1).toNatClampNeg), .ref (m + 596 + 130 * (Z9_26 + 1 + 1 + 1).toNatClampNeg), .ref m]) [(368, .iconst 0)] (by decide +kernel) rfl ?_
                            have hl159 : (0 : Int32).toInt = 0 := by decide
                            exact (hJ369 0 (by first | assumption | omega | decide)).more (zfa1 rfl (zfa1 rfl (zfa1 rfl (zfa1 rfl (zfa0)))))
                          ·
                            replace cc361 := Classical.not_not.mp cc361
                            have f160 := zeqI cc361
                            rw [show (2 : Int32).toInt = 2 from by decide] at f160
                            refine zp_seg (pc' := 369) (lv' := [(0, .ref m), (1, .int op), (4, .int to), (7, .ref (m + 596 + 130 * (Z9_26 + 1).toNatClampNeg)), (8, .int r243), (9, .ref (m + 596 + 130 * (Z9_26 + 1 + 1).toNatClampNeg)), (10, .ref (m + 596 + 130 * (Z9_26 + 1 + 1 + 1).toNatClampNeg))]) (st' := [.int 1, .int r243, .ref (m + 596 + 130 * (Z9_26 + 1).toNatClampNeg), .ref (m + 596 + 130 * (Z9_26 + 1 + 1 + 1).toNatClampNeg), .ref m]) [(364, .iconst 1), (365, .goto 4)] (by decide +kernel) rfl ?_
                            have hl161 : (1 : Int32).toInt = 1 := by decide
                            exact (hJ369 1 (by first | assumption | omega | decide)).more (zfa1 rfl (zfa1 rfl (zfa1 rfl (zfa1 rfl (zfa0)))))
                        refine zp_if (i := .if_icmp .ne 7) (c := ¬ op = 2) (t := 348) (e := 344) (lv' := [(0, .ref m), (1, .int op), (4, .int to), (6, .ref (m + 596 + 130 * Z9_26.toNatClampNeg)), (7, .ref (m + 596 + 130 * (Z9_26 + 1).toNatClampNeg)), (8, .int r243), (9, .ref (m + 596 + 130 * (Z9_26 + 1 + 1).toNatClampNeg)), (10, .ref (m + 596 + 130 * (Z9_26 + 1 + 1 + 1).toNatClampNeg))]) (st' := [.int r243, .ref (m + 596 + 130 * Z9_26.toNatClampNeg), .ref (m + 596 + 130 * (Z9_26 + 1 + 1).toNatClampNeg), .ref m]) (by decide +kernel) rfl (fun cc341 => ?_) (fun cc341 => ?_)
                        ·
                          have f162 := zneI cc341
                          rw [show (2 : Int32).toInt = 2 from by decide] at f162
                          refine zp_seg (pc' := 349) (lv' := [(0, .ref m), (1, .int op), (4, .int to), (6, .ref (m + 596 + 130 * Z9_26.toNatClampNeg)), (7, .ref (m + 596 + 130 * (Z9_26 + 1).toNatClampNeg)), (8, .int r243), (9, .ref (m + 596 + 130 * (Z9_26 + 1 + 1).toNatClampNeg)), (10, .ref (m + 596 + 130 * (Z9_26 + 1 + 1 + 1).toNatClampNeg))]) (st' := [.int 0, .int r243, .ref (m + 596 + 130 * Z9_26.toNatClampNeg), .ref (m + 596 + 130 * (Z9_26 + 1 + 1).toNatClampNeg), .ref m]) [(348, .iconst 0)] (by decide +kernel) rfl ?_
                          have hl163 : (0 : Int32).toInt = 0 := by decide
                          exact (hJ349 0 (by first | assumption | omega | decide)).more (zfa1 rfl (zfa1 rfl (zfa1 rfl (zfa1 rfl (zfa1 rfl (zfa1 rfl (zfa1 rfl (zfa0))))))))
                        ·
                          replace cc341 := Classical.not_not.mp cc341
                          have f164 := zeqI cc341
                          rw [show (2 : Int32).toInt = 2 from by decide] at f164
                          refine zp_seg (pc' := 349) (lv' := [(0, .ref m), (1, .int op), (4, .int to), (6, .ref (m + 596 + 130 * Z9_26.toNatClampNeg)), (7, .ref (m + 596 + 130 * (Z9_26 + 1).toNatClampNeg)), (8, .int r243), (9, .ref (m + 596 + 130 * (Z9_26 + 1 + 1).toNatClampNeg)), (10, .ref (m + 596 + 130 * (Z9_26 + 1 + 1 + 1).toNatClampNeg))]) (st' := [.int 1, .int r243, .ref (m + 596 + 130 * Z9_26.toNatClampNeg), .ref (m + 596 + 130 * (Z9_26 + 1 + 1).toNatClampNeg), .ref m]) [(344, .iconst 1), (345, .goto 4)] (by decide +kernel) rfl ?_
                          have hl165 : (1 : Int32).toInt = 1 := by decide
                          exact (hJ349 1 (by first | assumption | omega | decide)).more (zfa1 rfl (zfa1 rfl (zfa1 rfl (zfa1 rfl (zfa1 rfl (zfa1 rfl (zfa1 rfl (zfa0))))))))
                      by_cases hsw292_0 : op.toInt = 2
                      ·
                        refine zr_tsw (dflt := 167) (lo := 2) (hi := 7) (offs := #[40, 40, 101, 101, 126, 150]) (t := 332) (by decide +kernel) (by unfold zsw; rw [hsw292_0]; decide) ?_
                        exact (hJ332 trivial ).more (zfa1 rfl (zfa1 rfl (zfa1 rfl (zfa1 rfl (zfa1 rfl (zfa1 rfl (zfa1 rfl (zfa1 rfl (zfa0)))))))))
                      ·
                        by_cases hsw292_1 : op.toInt = 3
                        ·
                          refine zr_tsw (dflt := 167) (lo := 2) (hi := 7) (offs := #[40, 40, 101, 101, 126, 150]) (t := 332) (by decide +kernel) (by unfold zsw; rw [hsw292_1]; decide) ?_
                          exact (hJ332 trivial ).more (zfa1 rfl (zfa1 rfl (zfa1 rfl (zfa1 rfl (zfa1 rfl (zfa1 rfl (zfa1 rfl (zfa1 rfl (zfa0)))))))))
                        ·
                          by_cases hsw292_2 : op.toInt = 4
                          ·
                            refine zr_tsw (dflt := 167) (lo := 2) (hi := 7) (offs := #[40, 40, 101, 101, 126, 150]) (t := 393) (by decide +kernel) (by unfold zsw; rw [hsw292_2]; decide) ?_
                            exact (hJ393 trivial ).more (zfa1 rfl (zfa1 rfl (zfa1 rfl (zfa1 rfl (zfa1 rfl (zfa1 rfl (zfa1 rfl (zfa0))))))))
                          ·
                            by_cases hsw292_3 : op.toInt = 5
                            ·
                              refine zr_tsw (dflt := 167) (lo := 2) (hi := 7) (offs := #[40, 40, 101, 101, 126, 150]) (t := 393) (by decide +kernel) (by unfold zsw; rw [hsw292_3]; decide) ?_
                              exact (hJ393 trivial ).more (zfa1 rfl (zfa1 rfl (zfa1 rfl (zfa1 rfl (zfa1 rfl (zfa1 rfl (zfa1 rfl (zfa0))))))))
                            ·
                              by_cases hsw292_4 : op.toInt = 6
                              ·
                                refine zr_tsw (dflt := 167) (lo := 2) (hi := 7) (offs := #[40, 40, 101, 101, 126, 150]) (t := 418) (by decide +kernel) (by unfold zsw; rw [hsw292_4]; decide) ?_
                                refine zp_seg (pc' := 422) (lv' := [(11, .ref (m + 596 + 130 * (Z9_26 + 1 + 1 + 1 + 1).toNatClampNeg)), (10, .ref (m + 596 + 130 * (Z9_26 + 1 + 1 + 1).toNatClampNeg)), (9, .ref (m + 596 + 130 * (Z9_26 + 1 + 1).toNatClampNeg)), (8, .int r243), (7, .ref (m + 596 + 130 * (Z9_26 + 1).toNatClampNeg)), (6, .ref (m + 596 + 130 * Z9_26.toNatClampNeg)), (0, .ref m), (1, .int op), (3, .int v), (4, .int to), (5, .ref (m + 7486 + 9 * s9.toNatClampNeg))]) (st' := [.ref (m + 596 + 130 * Z9_26.toNatClampNeg), .ref (m + 596 + 130 * (Z9_26 + 1 + 1).toNatClampNeg)]) [(418, .aload 9), (420, .aload 6)] (by decide +kernel) rfl ?_
                                have hb166 : zB w288 (m + 596 + 130 * (Z9_26 + 1 + 1).toNatClampNeg) zbZ := hp268_1.ag (fun x hx1 hx2 => ((heq288 x (zx_X16_change_145 hx1 hx2 hgzZ9_26_2 hgzZ9_26_4)).trans ((heq280 x ⟨(zx_X16_change_143 hx1 hx2 hgzZ9_26_2), (zx_X16_change_145 hx1 hx2 hgzZ9_26_2 hgzZ9_26_4)⟩).trans (heq274 x ⟨(zx_X16_change_143 hx1 hx2 hgzZ9_26_2), (zx_X16_change_144 hx1 hx2 hgzZ9_26_2 hgzZ9_26_3)⟩))))
                                have ho422_to := zB.o hb166
                                have hb167 : zB w288 (m + 596 + 130 * Z9_26.toNatClampNeg) (zbT fn1) := hp229_0.ag (fun x hx1 hx2 => ((heq288 x (zx_X16_change_150 hx1 hx2 hgzZ9_26_0 hgzZ9_26_4)).trans ((heq280 x ⟨(zx_X16_change_11 hx1 hx2 hgzZ9_26_0), (zx_X16_change_150 hx1 hx2 hgzZ9_26_0 hgzZ9_26_4)⟩).trans ((heq274 x ⟨(zx_X16_change_11 hx1 hx2 hgzZ9_26_0), (zx_X16_change_149 hx1 hx2 hgzZ9_26_0 hgzZ9_26_3)⟩).trans ((heq268 x ⟨(zx_X16_change_11 hx1 hx2 hgzZ9_26_0), (zx_X16_change_148 hx1 hx2 hgzZ9_26_0 hgzZ9_26_2)⟩).trans (heq239 x (zx_X16_change_12 hx1 hx2 hgzZ9_26_0 hgzZ9_26_1)))))))
                                refine zr_callS (idx := 644) (j := 283) (by decide +kernel) (by decide +kernel) (by decide) (show zMe 283 = some zq_X16_turn from rfl) rfl rfl (Nat.le_of_ble_eq_true rfl) rfl rfl (Nat.le_of_ble_eq_true rfl) (Nat.le_of_ble_eq_true rfl) (c_X16_turn (w := w288) (m + 596 + 130 * (Z9_26 + 1 + 1).toNatClampNeg) (m + 596 + 130 * Z9_26.toNatClampNeg) ho422_to hb167 (by first | omega | decide | assumption | exact zr1_1 | exact zr1_0 | fail "num") (by first | omega | decide | assumption | exact zr1_1 | exact zr1_0 | fail "num")) (by omega) (fun v422 w422 hp422 => ?_)
                                obtain ⟨hsi422, heq422, hp422_0, rfl⟩ := hp422
                                show zP _ _ _ _ [] _ _ _ _ _
                                refine zp_seg (pc' := 429) (lv' := [(11, .ref (m + 596 + 130 * (Z9_26 + 1 + 1 + 1 + 1).toNatClampNeg)), (10, .ref (m + 596 + 130 * (Z9_26 + 1 + 1 + 1).toNatClampNeg)), (9, .ref (m + 596 + 130 * (Z9_26 + 1 + 1).toNatClampNeg)), (8, .int r243), (7, .ref (m + 596 + 130 * (Z9_26 + 1).toNatClampNeg)), (6, .ref (m + 596 + 130 * Z9_26.toNatClampNeg)), (0, .ref m), (1, .int op), (3, .int v), (4, .int to), (5, .ref (m + 7486 + 9 * s9.toNatClampNeg))]) (st' := [.ref (m + 596 + 130 * (Z9_26 + 1).toNatClampNeg), .ref (m + 596 + 130 * (Z9_26 + 1 + 1 + 1).toNatClampNeg)]) [(425, .aload 10), (427, .aload 7)] (by decide +kernel) rfl ?_
                                have hb168 : zB w422 (m + 596 + 130 * (Z9_26 + 1 + 1 + 1).toNatClampNeg) zbZ := hp274_1.ag (fun x hx1 hx2 => ((heq422 x (zx_X16_change_165 hx1 hx2 hgzZ9_26_2 hgzZ9_26_3)).trans ((heq288 x (zx_X16_change_147 hx1 hx2 hgzZ9_26_3 hgzZ9_26_4)).trans (heq280 x ⟨(zx_X16_change_146 hx1 hx2 hgzZ9_26_3), (zx_X16_change_147 hx1 hx2 hgzZ9_26_3 hgzZ9_26_4)⟩))))
                                have ho429_to := zB.o hb168
                                have hb169 : zB w422 (m + 596 + 130 * (Z9_26 + 1).toNatClampNeg) (zbT fd1) := hp239_0.ag (fun x hx1 hx2 => ((heq422 x (zx_X16_change_152 hx1 hx2 hgzZ9_26_1 hgzZ9_26_2)).trans ((heq288 x (zx_X16_change_154 hx1 hx2 hgzZ9_26_1 hgzZ9_26_4)).trans ((heq280 x ⟨(zx_X16_change_151 hx1 hx2 hgzZ9_26_1), (zx_X16_change_154 hx1 hx2 hgzZ9_26_1 hgzZ9_26_4)⟩).trans ((heq274 x ⟨(zx_X16_change_151 hx1 hx2 hgzZ9_26_1), (zx_X16_change_153 hx1 hx2 hgzZ9_26_1 hgzZ9_26_3)⟩).trans (heq268 x ⟨(zx_X16_change_151 hx1 hx2 hgzZ9_26_1), (zx_X16_change_152 hx1 hx2 hgzZ9_26_1 hgzZ9_26_2)⟩))))))
                                refine zr_callS (idx := 644) (j := 283) (by decide +kernel) (by decide +kernel) (by decide) (show zMe 283 = some zq_X16_turn from rfl) rfl rfl (Nat.le_of_ble_eq_true rfl) rfl rfl (Nat.le_of_ble_eq_true rfl) (Nat.le_of_ble_eq_true rfl) (c_X16_turn (w := w422) (m + 596 + 130 * (Z9_26 + 1 + 1 + 1).toNatClampNeg) (m + 596 + 130 * (Z9_26 + 1).toNatClampNeg) ho429_to hb169 (by first | omega | decide | assumption | exact zr1_1 | exact zr1_0 | fail "num") (by first | omega | decide | assumption | exact zr1_1 | exact zr1_0 | fail "num")) (by omega) (fun v429 w429 hp429 => ?_)
                                obtain ⟨hsi429, heq429, hp429_0, rfl⟩ := hp429
                                show zP _ _ _ _ [] _ _ _ _ _
                                refine zp_seg (pc' := 436) (lv' := [(11, .ref (m + 596 + 130 * (Z9_26 + 1 + 1 + 1 + 1).toNatClampNeg)), (10, .ref (m + 596 + 130 * (Z9_26 + 1 + 1 + 1).toNatClampNeg)), (9, .ref (m + 596 + 130 * (Z9_26 + 1 + 1).toNatClampNeg)), (8, .int r243), (7, .ref (m + 596 + 130 * (Z9_26 + 1).toNatClampNeg)), (6, .ref (m + 596 + 130 * Z9_26.toNatClampNeg)), (0, .ref m), (1, .int op), (3, .int v), (4, .int to), (5, .ref (m + 7486 + 9 * s9.toNatClampNeg))]) (st' := [.ref (m + 596 + 130 * (Z9_26 + 1 + 1 + 1).toNatClampNeg), .ref (m + 596 + 130 * (Z9_26 + 1 + 1).toNatClampNeg)]) [(432, .aload 9), (434, .aload 10)] (by decide +kernel) rfl ?_
                                have htn9 := zbTn_nz hd0
                                have hb170 : zB w429 (m + 596 + 130 * (Z9_26 + 1 + 1).toNatClampNeg) (zbTn (zbT fn1)) := hp422_0.ag (fun x hx1 hx2 => (heq429 x (zx_X16_change_144 hx1 hx2 hgzZ9_26_2 hgzZ9_26_3)))
                                refine zr_callS (idx := 191) (j := 293) (by decide +kernel) (by decide +kernel) (by decide) (show zMe 293 = some zq_X16_settle from rfl) rfl rfl (Nat.le_of_ble_eq_true rfl) rfl rfl (Nat.le_of_ble_eq_true rfl) (Nat.le_of_ble_eq_true rfl) (c_X16_settle (w := w429) (m + 596 + 130 * (Z9_26 + 1 + 1).toNatClampNeg) (m + 596 + 130 * (Z9_26 + 1 + 1 + 1).toNatClampNeg) hb170 hp429_0 (by first | omega | decide | assumption | exact zr1_1 | exact zr1_0 | fail "num") (by exact htn9)) (by omega) (fun v436 w436 hp436 => ?_)
                                obtain ⟨P9_436, Q9_436, hsi436, heq436, hp436_0, hp436_1, hp436_2, rfl⟩ := hp436
                                show zP _ _ _ _ [] _ _ _ _ _
                                refine zp_seg (pc' := 473) (lv' := [(11, .ref (m + 596 + 130 * (Z9_26 + 1 + 1 + 1 + 1).toNatClampNeg)), (10, .ref (m + 596 + 130 * (Z9_26 + 1 + 1 + 1).toNatClampNeg)), (9, .ref (m + 596 + 130 * (Z9_26 + 1 + 1).toNatClampNeg)), (8, .int r243), (7, .ref (m + 596 + 130 * (Z9_26 + 1).toNatClampNeg)), (6, .ref (m + 596 + 130 * Z9_26.toNatClampNeg)), (0, .ref m), (1, .int op), (3, .int v), (4, .int to), (5, .ref (m + 7486 + 9 * s9.toNatClampNeg))]) (st' := []) [(439, .goto 34)] (by decide +kernel) rfl ?_
                                have hb171 : w436 m = some (.inl (15, zMo m (zs (zs (zs g 1 Z9_26) 3 (Z9_26 + 1 + 1 + 1 + 1 + 1)) 16 Z9_26) r)) := ((heq436 m ⟨(zx_X16_change_159 hgzZ9_26_2), (zx_X16_change_160 hgzZ9_26_3)⟩).trans ((heq429 m (zx_X16_change_160 hgzZ9_26_3)).trans (heq422 m (zx_X16_change_159 hgzZ9_26_2)))).trans hb77
                                exact (hJ473 w436 (P9_436) (Q9_436) ((hsi422.tr hsi429).tr hsi436) (fun x hx => ((heq436 x ⟨(zx_X16_change_155 hx.1.2.1 hgzZ9_26_2), (zx_X16_change_156 hx.1.2.1 hgzZ9_26_2 hgzZ9_26_3)⟩).trans ((heq429 x (zx_X16_change_156 hx.1.2.1 hgzZ9_26_2 hgzZ9_26_3)).trans (heq422 x (zx_X16_change_155 hx.1.2.1 hgzZ9_26_2))))) hp436_0 hp436_1 hb171 (by
                                      first | exact hre9.2.2.2 hyn9 | exact hde9.2.2.1 | exact hp436_2.2.2.2 htn9 | (rw [zf_1, zC1_rw]; decide))).more (zfa1 rfl (zfa1 rfl (zfa1 rfl (zfa1 rfl (zfa0)))))
                              ·
                                by_cases hsw292_5 : op.toInt = 7
                                ·
                                  refine zr_tsw (dflt := 167) (lo := 2) (hi := 7) (offs := #[40, 40, 101, 101, 126, 150]) (t := 442) (by decide +kernel) (by unfold zsw; rw [hsw292_5]; decide) ?_
                                  refine zp_seg (pc' := 446) (lv' := [(11, .ref (m + 596 + 130 * (Z9_26 + 1 + 1 + 1 + 1).toNatClampNeg)), (10, .ref (m + 596 + 130 * (Z9_26 + 1 + 1 + 1).toNatClampNeg)), (9, .ref (m + 596 + 130 * (Z9_26 + 1 + 1).toNatClampNeg)), (8, .int r243), (7, .ref (m + 596 + 130 * (Z9_26 + 1).toNatClampNeg)), (6, .ref (m + 596 + 130 * Z9_26.toNatClampNeg)), (0, .ref m), (1, .int op), (3, .int v), (4, .int to), (5, .ref (m + 7486 + 9 * s9.toNatClampNeg))]) (st' := [.ref (m + 596 + 130 * Z9_26.toNatClampNeg), .ref (m + 596 + 130 * (Z9_26 + 1 + 1).toNatClampNeg)]) [(442, .aload 9), (444, .aload 6)] (by decide +kernel) rfl ?_
                                  have hb172 : zB w288 (m + 596 + 130 * (Z9_26 + 1 + 1).toNatClampNeg) zbZ := hp268_1.ag (fun x hx1 hx2 => ((heq288 x (zx_X16_change_145 hx1 hx2 hgzZ9_26_2 hgzZ9_26_4)).trans ((heq280 x ⟨(zx_X16_change_143 hx1 hx2 hgzZ9_26_2), (zx_X16_change_145 hx1 hx2 hgzZ9_26_2 hgzZ9_26_4)⟩).trans (heq274 x ⟨(zx_X16_change_143 hx1 hx2 hgzZ9_26_2), (zx_X16_change_144 hx1 hx2 hgzZ9_26_2 hgzZ9_26_3)⟩))))
                                  have ho446_to := zB.o hb172
                                  have hb173 : zB w288 (m + 596 + 130 * Z9_26.toNatClampNeg) (zbT fn1) := hp229_0.ag (fun x hx1 hx2 => ((heq288 x (zx_X16_change_150 hx1 hx2 hgzZ9_26_0 hgzZ9_26_4)).trans ((heq280 x ⟨(zx_X16_change_11 hx1 hx2 hgzZ9_26_0), (zx_X16_change_150 hx1 hx2 hgzZ9_26_0 hgzZ9_26_4)⟩).trans ((heq274 x ⟨(zx_X16_change_11 hx1 hx2 hgzZ9_26_0), (zx_X16_change_149 hx1 hx2 hgzZ9_26_0 hgzZ9_26_3)⟩).trans ((heq268 x ⟨(zx_X16_change_11 hx1 hx2 hgzZ9_26_0), (zx_X16_change_148 hx1 hx2 hgzZ9_26_0 hgzZ9_26_2)⟩).trans (heq239 x (zx_X16_change_12 hx1 hx2 hgzZ9_26_0 hgzZ9_26_1)))))))
                                  refine zr_callS (idx := 113) (j := 275) (by decide +kernel) (by decide +kernel) (by decide) (show zMe 275 = some zq_X16_set_ from rfl) rfl rfl (Nat.le_of_ble_eq_true rfl) rfl rfl (Nat.le_of_ble_eq_true rfl) (Nat.le_of_ble_eq_true rfl) (c_X16_set_ (w := w288) (m + 596 + 130 * (Z9_26 + 1 + 1).toNatClampNeg) (m + 596 + 130 * Z9_26.toNatClampNeg) ho446_to hb173 (by first | omega | decide | assumption | exact zr1_1 | exact zr1_0 | fail "num")) (by omega) (fun v446 w446 hp446 => ?_)
                                  obtain ⟨hsi446, heq446, hp446_0, rfl⟩ := hp446
                                  show zP _ _ _ _ [] _ _ _ _ _
                                  refine zp_seg (pc' := 453) (lv' := [(11, .ref (m + 596 + 130 * (Z9_26 + 1 + 1 + 1 + 1).toNatClampNeg)), (10, .ref (m + 596 + 130 * (Z9_26 + 1 + 1 + 1).toNatClampNeg)), (9, .ref (m + 596 + 130 * (Z9_26 + 1 + 1).toNatClampNeg)), (8, .int r243), (7, .ref (m + 596 + 130 * (Z9_26 + 1).toNatClampNeg)), (6, .ref (m + 596 + 130 * Z9_26.toNatClampNeg)), (0, .ref m), (1, .int op), (3, .int v), (4, .int to), (5, .ref (m + 7486 + 9 * s9.toNatClampNeg))]) (st' := [.ref (m + 596 + 130 * (Z9_26 + 1 + 1 + 1 + 1).toNatClampNeg), .ref (m + 596 + 130 * (Z9_26 + 1 + 1 + 1).toNatClampNeg)]) [(449, .aload 10), (451, .aload 11)] (by decide +kernel) rfl ?_
                                  have hb174 : zB w446 (m + 596 + 130 * (Z9_26 + 1 + 1 + 1).toNatClampNeg) zbZ := hp274_1.ag (fun x hx1 hx2 => ((heq446 x (zx_X16_change_165 hx1 hx2 hgzZ9_26_2 hgzZ9_26_3)).trans ((heq288 x (zx_X16_change_147 hx1 hx2 hgzZ9_26_3 hgzZ9_26_4)).trans (heq280 x ⟨(zx_X16_change_146 hx1 hx2 hgzZ9_26_3), (zx_X16_change_147 hx1 hx2 hgzZ9_26_3 hgzZ9_26_4)⟩))))
                                  have ho453_to := zB.o hb174
                                  have hb175 : zB w446 (m + 596 + 130 * (Z9_26 + 1 + 1 + 1 + 1).toNatClampNeg) (zbC (zaC (zf 1))) := hp288_0.ag (fun x hx1 hx2 => (heq446 x (zx_X16_change_179 hx1 hx2 hgzZ9_26_2 hgzZ9_26_4)))
                                  refine zr_callS (idx := 113) (j := 275) (by decide +kernel) (by decide +kernel) (by decide) (show zMe 275 = some zq_X16_set_ from rfl) rfl rfl (Nat.le_of_ble_eq_true rfl) rfl rfl (Nat.le_of_ble_eq_true rfl) (Nat.le_of_ble_eq_true rfl) (c_X16_set_ (w := w446) (m + 596 + 130 * (Z9_26 + 1 + 1 + 1).toNatClampNeg) (m + 596 + 130 * (Z9_26 + 1 + 1 + 1 + 1).toNatClampNeg) ho453_to hb175 (by first | omega | decide | assumption | exact zr1_1 | exact zr1_0 | fail "num")) (by omega) (fun v453 w453 hp453 => ?_)
                                  obtain ⟨hsi453, heq453, hp453_0, rfl⟩ := hp453
                                  show zP _ _ _ _ [] _ _ _ _ _
                                  refine zp_seg (pc' := 473) (lv' := [(11, .ref (m + 596 + 130 * (Z9_26 + 1 + 1 + 1 + 1).toNatClampNeg)), (10, .ref (m + 596 + 130 * (Z9_26 + 1 + 1 + 1).toNatClampNeg)), (9, .ref (m + 596 + 130 * (Z9_26 + 1 + 1).toNatClampNeg)), (8, .int r243), (7, .ref (m + 596 + 130 * (Z9_26 + 1).toNatClampNeg)), (6, .ref (m + 596 + 130 * Z9_26.toNatClampNeg)), (0, .ref m), (1, .int op), (3, .int v), (4, .int to), (5, .ref (m + 7486 + 9 * s9.toNatClampNeg))]) (st' := []) [(456, .goto 17)] (by decide +kernel) rfl ?_
                                  have hb176 : zB w453 (m + 596 + 130 * (Z9_26 + 1 + 1).toNatClampNeg) ((zbT fn1)) := hp446_0.ag (fun x hx1 hx2 => (heq453 x (zx_X16_change_144 hx1 hx2 hgzZ9_26_2 hgzZ9_26_3)))
                                  have hb177 : w453 m = some (.inl (15, zMo m (zs (zs (zs g 1 Z9_26) 3 (Z9_26 + 1 + 1 + 1 + 1 + 1)) 16 Z9_26) r)) := ((heq453 m (zx_X16_change_160 hgzZ9_26_3)).trans (heq446 m (zx_X16_change_159 hgzZ9_26_2))).trans hb77
                                  exact (hJ473 w453 (((zbT fn1))) (((zbC (zaC (zf 1))))) (hsi446.tr hsi453) (fun x hx => ((heq453 x (zx_X16_change_156 hx.1.2.1 hgzZ9_26_2 hgzZ9_26_3)).trans (heq446 x (zx_X16_change_155 hx.1.2.1 hgzZ9_26_2)))) hb176 hp453_0 hb177 (by
                                        first | exact hre9.2.2.2 hyn9 | exact hde9.2.2.1 | exact hp436_2.2.2.2 htn9 | (rw [zf_1, zC1_rw]; decide))).more (zfa1 rfl (zfa1 rfl (zfa1 rfl (zfa1 rfl (zfa0)))))
                                ·
                                  refine zr_tsw (dflt := 167) (lo := 2) (hi := 7) (offs := #[40, 40, 101, 101, 126, 150]) (t := 459) (by decide +kernel) (by unfold zsw; rw [if_pos (by omega)]; decide) ?_
                                  refine zp_seg (pc' := 463) (lv' := [(11, .ref (m + 596 + 130 * (Z9_26 + 1 + 1 + 1 + 1).toNatClampNeg)), (10, .ref (m + 596 + 130 * (Z9_26 + 1 + 1 + 1).toNatClampNeg)), (9, .ref (m + 596 + 130 * (Z9_26 + 1 + 1).toNatClampNeg)), (8, .int r243), (7, .ref (m + 596 + 130 * (Z9_26 + 1).toNatClampNeg)), (6, .ref (m + 596 + 130 * Z9_26.toNatClampNeg)), (0, .ref m), (1, .int op), (3, .int v), (4, .int to), (5, .ref (m + 7486 + 9 * s9.toNatClampNeg))]) (st' := [.ref (m + 596 + 130 * (Z9_26 + 1).toNatClampNeg), .ref (m + 596 + 130 * (Z9_26 + 1 + 1).toNatClampNeg)]) [(459, .aload 9), (461, .aload 7)] (by decide +kernel) rfl ?_
                                  have hb178 : zB w288 (m + 596 + 130 * (Z9_26 + 1 + 1).toNatClampNeg) zbZ := hp268_1.ag (fun x hx1 hx2 => ((heq288 x (zx_X16_change_145 hx1 hx2 hgzZ9_26_2 hgzZ9_26_4)).trans ((heq280 x ⟨(zx_X16_change_143 hx1 hx2 hgzZ9_26_2), (zx_X16_change_145 hx1 hx2 hgzZ9_26_2 hgzZ9_26_4)⟩).trans (heq274 x ⟨(zx_X16_change_143 hx1 hx2 hgzZ9_26_2), (zx_X16_change_144 hx1 hx2 hgzZ9_26_2 hgzZ9_26_3)⟩))))
                                  have ho463_to := zB.o hb178
                                  have hb179 : zB w288 (m + 596 + 130 * (Z9_26 + 1).toNatClampNeg) (zbT fd1) := hp239_0.ag (fun x hx1 hx2 => ((heq288 x (zx_X16_change_154 hx1 hx2 hgzZ9_26_1 hgzZ9_26_4)).trans ((heq280 x ⟨(zx_X16_change_151 hx1 hx2 hgzZ9_26_1), (zx_X16_change_154 hx1 hx2 hgzZ9_26_1 hgzZ9_26_4)⟩).trans ((heq274 x ⟨(zx_X16_change_151 hx1 hx2 hgzZ9_26_1), (zx_X16_change_153 hx1 hx2 hgzZ9_26_1 hgzZ9_26_3)⟩).trans (heq268 x ⟨(zx_X16_change_151 hx1 hx2 hgzZ9_26_1), (zx_X16_change_152 hx1 hx2 hgzZ9_26_1 hgzZ9_26_2)⟩)))))
                                  refine zr_callS (idx := 113) (j := 275) (by decide +kernel) (by decide +kernel) (by decide) (show zMe 275 = some zq_X16_set_ from rfl) rfl rfl (Nat.le_of_ble_eq_true rfl) rfl rfl (Nat.le_of_ble_eq_true rfl) (Nat.le_of_ble_eq_true rfl) (c_X16_set_ (w := w288) (m + 596 + 130 * (Z9_26 + 1 + 1).toNatClampNeg) (m + 596 + 130 * (Z9_26 + 1).toNatClampNeg) ho463_to hb179 (by first | omega | decide | assumption | exact zr1_1 | exact zr1_0 | fail "num")) (by omega) (fun v463 w463 hp463 => ?_)
                                  obtain ⟨hsi463, heq463, hp463_0, rfl⟩ := hp463
                                  show zP _ _ _ _ [] _ _ _ _ _
                                  refine zp_seg (pc' := 470) (lv' := [(11, .ref (m + 596 + 130 * (Z9_26 + 1 + 1 + 1 + 1).toNatClampNeg)), (10, .ref (m + 596 + 130 * (Z9_26 + 1 + 1 + 1).toNatClampNeg)), (9, .ref (m + 596 + 130 * (Z9_26 + 1 + 1).toNatClampNeg)), (8, .int r243), (7, .ref (m + 596 + 130 * (Z9_26 + 1).toNatClampNeg)), (6, .ref (m + 596 + 130 * Z9_26.toNatClampNeg)), (0, .ref m), (1, .int op), (3, .int v), (4, .int to), (5, .ref (m + 7486 + 9 * s9.toNatClampNeg))]) (st' := [.ref (m + 596 + 130 * (Z9_26 + 1 + 1 + 1 + 1).toNatClampNeg), .ref (m + 596 + 130 * (Z9_26 + 1 + 1 + 1).toNatClampNeg)]) [(466, .aload 10), (468, .aload 11)] (by decide +kernel) rfl ?_
                                  have hb180 : zB w463 (m + 596 + 130 * (Z9_26 + 1 + 1 + 1).toNatClampNeg) zbZ := hp274_1.ag (fun x hx1 hx2 => ((heq463 x (zx_X16_change_165 hx1 hx2 hgzZ9_26_2 hgzZ9_26_3)).trans ((heq288 x (zx_X16_change_147 hx1 hx2 hgzZ9_26_3 hgzZ9_26_4)).trans (heq280 x ⟨(zx_X16_change_146 hx1 hx2 hgzZ9_26_3), (zx_X16_change_147 hx1 hx2 hgzZ9_26_3 hgzZ9_26_4)⟩))))
                                  have ho470_to := zB.o hb180
                                  have hb181 : zB w463 (m + 596 + 130 * (Z9_26 + 1 + 1 + 1 + 1).toNatClampNeg) (zbC (zaC (zf 1))) := hp288_0.ag (fun x hx1 hx2 => (heq463 x (zx_X16_change_179 hx1 hx2 hgzZ9_26_2 hgzZ9_26_4)))
                                  refine zr_callS (idx := 113) (j := 275) (by decide +kernel) (by decide +kernel) (by decide) (show zMe 275 = some zq_X16_set_ from rfl) rfl rfl (Nat.le_of_ble_eq_true rfl) rfl rfl (Nat.le_of_ble_eq_true rfl) (Nat.le_of_ble_eq_true rfl) (c_X16_set_ (w := w463) (m + 596 + 130 * (Z9_26 + 1 + 1 + 1).toNatClampNeg) (m + 596 + 130 * (Z9_26 + 1 + 1 + 1 + 1).toNatClampNeg) ho470_to hb181 (by first | omega | decide | assumption | exact zr1_1 | exact zr1_0 | fail "num")) (by omega) (fun v470 w470 hp470 => ?_)
                                  obtain ⟨hsi470, heq470, hp470_0, rfl⟩ := hp470
                                  show zP _ _ _ _ [] _ _ _ _ _
                                  have hb182 : zB w470 (m + 596 + 130 * (Z9_26 + 1 + 1).toNatClampNeg) ((zbT fd1)) := hp463_0.ag (fun x hx1 hx2 => (heq470 x (zx_X16_change_144 hx1 hx2 hgzZ9_26_2 hgzZ9_26_3)))
                                  have hb183 : w470 m = some (.inl (15, zMo m (zs (zs (zs g 1 Z9_26) 3 (Z9_26 + 1 + 1 + 1 + 1 + 1)) 16 Z9_26) r)) := ((heq470 m (zx_X16_change_160 hgzZ9_26_3)).trans (heq463 m (zx_X16_change_159 hgzZ9_26_2))).trans hb77
                                  exact (hJ473 w470 (((zbT fd1))) (((zbC (zaC (zf 1))))) (hsi463.tr hsi470) (fun x hx => ((heq470 x (zx_X16_change_156 hx.1.2.1 hgzZ9_26_2 hgzZ9_26_3)).trans (heq463 x (zx_X16_change_155 hx.1.2.1 hgzZ9_26_2)))) hb182 hp470_0 hb183 (by
                                        first | exact hre9.2.2.2 hyn9 | exact hde9.2.2.1 | exact hp436_2.2.2.2 htn9 | (rw [zf_1, zC1_rw]; decide))).more (zfa1 rfl (zfa1 rfl (zfa1 rfl (zfa1 rfl (zfa0)))))
                    ·
                      have f185 := znleI cc250
                      rw [show (2 : Int32).toInt = 2 from by decide] at f185
                      have hb186 : zSlo w239 (m + 7486) := hSl0.ag (fun x hx1 hx2 => ((heq239 x (zx_X16_change_49 hx1 hx2 hgzZ9_26_1)).trans ((heq229 x (zx_X16_change_48 hx1 hx2 hgzZ9_26_0)).trans ((heq217 x ⟨(zx_X16_change_1 hx1 hx2), (zx_X16_change_49 hx1 hx2 hgzZ9_26_1)⟩).trans ((heq211 x ⟨(zx_X16_change_1 hx1 hx2), (zx_X16_change_48 hx1 hx2 hgzZ9_26_0)⟩).trans ((heq131 x (zx_X16_change_47 hx1 hx2)).trans (heq26 x (zx_X16_change_1 hx1 hx2))))))))
                      obtain ⟨kW, hkW⟩ := hb186 to.toNatClampNeg (by omega)
                      refine zp_seg (pc' := 263) (lv' := [(8, .int r243), (7, .ref (m + 596 + 130 * (Z9_26 + 1).toNatClampNeg)), (6, .ref (m + 596 + 130 * Z9_26.toNatClampNeg)), (0, .ref m), (1, .int op), (3, .int v), (4, .int to), (5, .ref (m + 7486 + 9 * s9.toNatClampNeg))]) (st' := [.int to, .int r243, .ref (m + 596 + 130 * (Z9_26 + 1).toNatClampNeg), .ref (m + 596 + 130 * Z9_26.toNatClampNeg), .int op, .ref m]) [(253, .aload_n 0), (254, .iload_n 1), (255, .aload 6), (257, .aload 7), (259, .iload 8), (261, .iload 4)] (by decide +kernel) rfl ?_
                      have hb187 : w239 m = some (.inl (15, zMo m (zs (zs (zs g 1 Z9_26) 3 (Z9_26 + 1 + 1)) 16 Z9_26) r)) := ((heq239 m (zx_X16_change_15 hgzZ9_26_1)).trans (heq229 m (zx_X16_change_14 hgzZ9_26_0))).trans hM217
                      have hb188 := hb53.si ((hsi217.tr hsi229).tr hsi239)
                      have hb189 : zTi w239 (m + 83) kS1 := hp131_0.ag (fun x hx1 hx2 => ((heq239 x (zx_X16_change_18 hx1 hx2 hgzZ9_26_1)).trans ((heq229 x (zx_X16_change_17 hx1 hx2 hgzZ9_26_0)).trans ((heq217 x ⟨(zx_X16_change_2 hx1 hx2), (zx_X16_change_18 hx1 hx2 hgzZ9_26_1)⟩).trans (heq211 x ⟨(zx_X16_change_2 hx1 hx2), (zx_X16_change_17 hx1 hx2 hgzZ9_26_0)⟩)))))
                      have hb190 : zB w239 (m + 596 + 130 * Z9_26.toNatClampNeg) (zbT fn1) := hp229_0.ag (fun x hx1 hx2 => (heq239 x (zx_X16_change_12 hx1 hx2 hgzZ9_26_0 hgzZ9_26_1)))
                      refine zr_callV (idx := 651) (j := 369) (by decide +kernel) (by decide +kernel) (show zMe 369 = some zq_X16_moved from rfl) rfl rfl (Nat.le_of_ble_eq_true rfl) rfl rfl hb187 (Nat.le_of_ble_eq_true rfl) (Nat.le_of_ble_eq_true rfl) (c_X16_moved (w := w239) m op (m + 596 + 130 * Z9_26.toNatClampNeg) (m + 596 + 130 * (Z9_26 + 1).toNatClampNeg) r243 to hb187 hb188 hb189 hkW hb190 hp239_0 (by exact hr243.1) (by exact hkk9) (by first | omega | decide | assumption | exact zr1_1 | exact zr1_0 | fail "num") (by first | omega | decide | assumption | exact zr1_1 | exact zr1_0 | fail "num") (by first | omega | decide | assumption | exact zr1_1 | exact zr1_0 | fail "num") (by first | omega | decide | assumption | exact zr1_1 | exact zr1_0 | fail "num") (by exact ⟨⟨by omega, by omega, by omega, by omega⟩, hd0, hKk1.2.2.1⟩)) (by omega) (fun v263 w263 hp263 => ?_)
                      obtain ⟨K9_263, L9_263, hsi263, heq263, hp263_0, hp263_1, r263, rfl, hr263⟩ := hp263
                      have kr263 := zrng r263
                      show zP _ _ _ _ [.int r263] _ _ _ _ _
                      have hSl266 := hSl0.up (w' := w263) to.toNatClampNeg hp263_1 (fun x h1 h2 h3 => ((heq263 x (by omega)).trans ((heq239 x (by omega)).trans ((heq229 x (by omega)).trans ((heq217 x (by omega)).trans ((heq211 x (by omega)).trans ((heq131 x (by omega)).trans (heq26 x (by omega)))))))))
                      have hb191 : w263 m = some (.inl (15, zMo m (zs (zs (zs g 1 Z9_26) 3 (Z9_26 + 1 + 1)) 16 Z9_26) r)) := (heq263 m (by omega)).trans hb187
                      have hoffend : ∀ x, (x < m + 0 ∨ m + 0 + 8322 ≤ x) → w263 x = w x := fun x hx => ((heq263 x (by omega)).trans ((heq239 x (zx_X16_change_37 hx hgzZ9_26_1)).trans ((heq229 x (zx_X16_change_36 hx hgzZ9_26_0)).trans ((heq217 x ⟨(zx_X16_change_0 hx), (zx_X16_change_37 hx hgzZ9_26_1)⟩).trans ((heq211 x ⟨(zx_X16_change_0 hx), (zx_X16_change_36 hx hgzZ9_26_0)⟩).trans ((heq131 x (zx_X16_change_35 hx)).trans (heq26 x (zx_X16_change_0 hx))))))))
                      have hb192 := hb188.si hsi263
                      have hb193 : zPil w263 (m + 6316) := hPl0.ag (fun x hx1 hx2 => ((heq263 x (by omega)).trans ((heq239 x (zx_X16_change_61 hx1 hx2 hgzZ9_26_1)).trans ((heq229 x (zx_X16_change_60 hx1 hx2 hgzZ9_26_0)).trans ((heq217 x ⟨(zx_X16_change_3 hx1 hx2), (zx_X16_change_61 hx1 hx2 hgzZ9_26_1)⟩).trans ((heq211 x ⟨(zx_X16_change_3 hx1 hx2), (zx_X16_change_60 hx1 hx2 hgzZ9_26_0)⟩).trans ((heq131 x (zx_X16_change_59 hx1 hx2)).trans (heq26 x (zx_X16_change_3 hx1 hx2)))))))))
                      have hb194 : zBya w263 (m + 92) 4000 := hBo0.ag (fun x hx1 hx2 => ((heq263 x (by omega)).trans ((heq239 x (zx_X16_change_73 hx1 hx2 hgzZ9_26_1)).trans ((heq229 x (zx_X16_change_72 hx1 hx2 hgzZ9_26_0)).trans ((heq217 x ⟨(zx_X16_change_4 hx1 hx2), (zx_X16_change_73 hx1 hx2 hgzZ9_26_1)⟩).trans ((heq211 x ⟨(zx_X16_change_4 hx1 hx2), (zx_X16_change_72 hx1 hx2 hgzZ9_26_0)⟩).trans ((heq131 x (zx_X16_change_71 hx1 hx2)).trans (heq26 x (zx_X16_change_4 hx1 hx2)))))))))
                      have hb195 : zBya w263 (m + 93) 4000 := hBl0.ag (fun x hx1 hx2 => ((heq263 x (by omega)).trans ((heq239 x (zx_X16_change_85 hx1 hx2 hgzZ9_26_1)).trans ((heq229 x (zx_X16_change_84 hx1 hx2 hgzZ9_26_0)).trans ((heq217 x ⟨(zx_X16_change_5 hx1 hx2), (zx_X16_change_85 hx1 hx2 hgzZ9_26_1)⟩).trans ((heq211 x ⟨(zx_X16_change_5 hx1 hx2), (zx_X16_change_84 hx1 hx2 hgzZ9_26_0)⟩).trans ((heq131 x (zx_X16_change_83 hx1 hx2)).trans (heq26 x (zx_X16_change_5 hx1 hx2)))))))))
                      have hb196 : zGr w263 (m + 100) 48 48 := hGa0.ag (fun x hx1 hx2 => ((heq263 x (by omega)).trans ((heq239 x (zx_X16_change_97 hx1 hx2 hgzZ9_26_1)).trans ((heq229 x (zx_X16_change_96 hx1 hx2 hgzZ9_26_0)).trans ((heq217 x ⟨(zx_X16_change_6 hx1 hx2), (zx_X16_change_97 hx1 hx2 hgzZ9_26_1)⟩).trans ((heq211 x ⟨(zx_X16_change_6 hx1 hx2), (zx_X16_change_96 hx1 hx2 hgzZ9_26_0)⟩).trans ((heq131 x (zx_X16_change_95 hx1 hx2)).trans (heq26 x (zx_X16_change_6 hx1 hx2)))))))))
                      have hb197 : zGr w263 (m + 212) 60 46 := hGb0.ag (fun x hx1 hx2 => ((heq263 x (by omega)).trans ((heq239 x (zx_X16_change_109 hx1 hx2 hgzZ9_26_1)).trans ((heq229 x (zx_X16_change_108 hx1 hx2 hgzZ9_26_0)).trans ((heq217 x ⟨(zx_X16_change_7 hx1 hx2), (zx_X16_change_109 hx1 hx2 hgzZ9_26_1)⟩).trans ((heq211 x ⟨(zx_X16_change_7 hx1 hx2), (zx_X16_change_108 hx1 hx2 hgzZ9_26_0)⟩).trans ((heq131 x (zx_X16_change_107 hx1 hx2)).trans (heq26 x (zx_X16_change_7 hx1 hx2)))))))))
                      have hb198 : zBd w263 (m + 149) := hBd0.ag (fun x hx1 hx2 => ((heq263 x (by omega)).trans ((heq239 x (zx_X16_change_121 hx1 hx2 hgzZ9_26_1)).trans ((heq229 x (zx_X16_change_120 hx1 hx2 hgzZ9_26_0)).trans ((heq217 x ⟨(zx_X16_change_8 hx1 hx2), (zx_X16_change_121 hx1 hx2 hgzZ9_26_1)⟩).trans ((heq211 x ⟨(zx_X16_change_8 hx1 hx2), (zx_X16_change_120 hx1 hx2 hgzZ9_26_0)⟩).trans ((heq131 x (zx_X16_change_119 hx1 hx2)).trans (heq26 x (zx_X16_change_8 hx1 hx2)))))))))
                      have hb199 : w263 (m + 94) = some (.inr (0, 60, .inl ff)) := ((heq263 (m + 94) (by omega)).trans ((heq239 (m + 94) (zx_X16_change_133 hgzZ9_26_1)).trans ((heq229 (m + 94) (zx_X16_change_132 hgzZ9_26_0)).trans ((heq217 (m + 94) ⟨(zx_X16_change_9), (zx_X16_change_133 hgzZ9_26_1)⟩).trans ((heq211 (m + 94) ⟨(zx_X16_change_9), (zx_X16_change_132 hgzZ9_26_0)⟩).trans ((heq131 (m + 94) (zx_X16_change_131)).trans (heq26 (m + 94) (zx_X16_change_9)))))))).trans hAf0
                      refine zr_retI (by decide +kernel) rfl ?_
                      rw [← hPost]; exact ⟨rfl, _, rfl, ((((((hsi26.tr hsi131).tr hsi211).tr hsi217).tr hsi229).tr hsi239).tr hsi263), hoffend, ⟨_, _, hb191, hb192, hSl266, (zTi.m hp263_0), hb193, ⟨_, hb199, hff⟩, hb194, hb195, hb196, hb197, hb198, hI12, hI24, hI29, hI31, hIn⟩, _, rfl, trivial⟩
                  ·
                    replace cc193 := Classical.not_not.mp cc193
                    have f200 := zeqI cc193
                    rw [show (11 : Int32).toInt = 11 from by decide] at f200
                    obtain ⟨g2, fn2, fd2, fa2, fb2, fc2, fe2, fr2, fu2, hT2, hAn2, hAd2, hAa2, hAb2, hAc2, hAe2, hAr2, hAu2, hK2⟩ := id hp131_0
                    obtain ⟨hK20, hKn2, hKd2, hKx2, hKm2, hKl2, hKr2, hKu2, hKk2⟩ := id hK2
                    refine zp_seg (pc' := 197) (lv' := [(0, .ref m), (1, .int op), (3, .int v), (4, .int to), (5, .ref (m + 7486 + 9 * s9.toNatClampNeg))]) (st' := [.ref m]) [(196, .aload_n 0)] (by decide +kernel) rfl ?_
                    have hb201 : w131 m = some (.inl (15, zMo m (zs (zs (zs g 1 Z9_26) 3 Z9_26) 16 Z9_26) r)) := (heq131 m (zx_X16_change_10)).trans hM26
                    refine zr_get (idx := 453) (k := 21) (v := .ref (m + 83)) (by decide +kernel) (by decide +kernel) hb201 rfl ?_
                    refine zr_callS (idx := 257) (j := 304) (by decide +kernel) (by decide +kernel) (by decide) (show zMe 304 = some zq_X16_plain from rfl) rfl rfl (Nat.le_of_ble_eq_true rfl) rfl rfl (Nat.le_of_ble_eq_true rfl) (Nat.le_of_ble_eq_true rfl) (c_X16_plain (w := w131) (m + 83) hT2) (by omega) (fun v200 w200 hp200 => ?_)
                    obtain ⟨hsi200, heq200, hp200_0, rfl⟩ := hp200
                    have hT200 : w200 (m + 83) = some (.inl (13, zTo (m + 83) (zs (zs (zs (zs g2 0 1) 3 1) 4 1) 5 0))) := hp200_0
                    show zP _ _ _ _ [] _ _ _ _ _
                    have hb202 : w200 (m + 83 + 1) = some (.inr (0, 325, .inl fn2)) := (heq200 (m + 83 + 1) (zx_X16_change_180)).trans hAn2
                    have hb203 : w200 (m + 83 + 2) = some (.inr (0, 325, .inl fd2)) := (heq200 (m + 83 + 2) (zx_X16_change_181)).trans hAd2
                    have hb204 : w200 (m + 83 + 3) = some (.inr (0, 13, .inl fa2)) := (heq200 (m + 83 + 3) (zx_X16_change_182)).trans hAa2
                    have hb205 : w200 (m + 83 + 4) = some (.inr (0, 13, .inl fb2)) := (heq200 (m + 83 + 4) (zx_X16_change_183)).trans hAb2
                    have hb206 : w200 (m + 83 + 5) = some (.inr (0, 13, .inl fc2)) := (heq200 (m + 83 + 5) (zx_X16_change_184)).trans hAc2
                    have hb207 : w200 (m + 83 + 6) = some (.inr (0, 13, .inl fe2)) := (heq200 (m + 83 + 6) (zx_X16_change_185)).trans hAe2
                    have hb208 : w200 (m + 83 + 7) = some (.inr (0, 175, .inl fr2)) := (heq200 (m + 83 + 7) (zx_X16_change_186)).trans hAr2
                    have hb209 : w200 (m + 83 + 8) = some (.inr (0, 361, .inl fu2)) := (heq200 (m + 83 + 8) (zx_X16_change_187)).trans hAu2
                    have hTi9 : zTi w200 (m + 83) 1 := ⟨_, _, _, _, _, _, _, _, _, hT200, hb202, hb203, hb204, hb205, hb206, hb207, hb208, hb209, ⟨rfl, hKn2, hKd2, ⟨zr1_1, zr1_1⟩, ⟨show 0 ≤ (0 : Int32).toInt by decide, show (0 : Int32).toInt ≤ 13 by decide⟩, fun i hi => absurd hi (Nat.not_lt_zero _), hKr2, hKu2, zKk_12 (Or.inl rfl) (hKk2.2.1 (hkk9.elim Or.inl (fun e => Or.inr (Or.inl e)))) (fun e => absurd e (by decide)) ⟨show (1 : Int32) ≠ 0 by decide, show (1 : Int32) ≠ 0 by decide⟩⟩⟩
                    have hb210 : zSlo w200 (m + 7486) := hSl0.ag (fun x hx1 hx2 => ((heq200 x (zx_X16_change_188 hx1 hx2)).trans ((heq131 x (zx_X16_change_47 hx1 hx2)).trans (heq26 x (zx_X16_change_1 hx1 hx2)))))
                    obtain ⟨kV, hkV⟩ := hb210 to.toNatClampNeg (by omega)
                    refine zp_seg (pc' := 206) (lv' := [(0, .ref m), (1, .int op), (3, .int v), (4, .int to), (5, .ref (m + 7486 + 9 * s9.toNatClampNeg))]) (st' := [.int to, .ref m]) [(203, .aload_n 0), (204, .iload 4)] (by decide +kernel) rfl ?_
                    have hb211 : w200 m = some (.inl (15, zMo m (zs (zs (zs g 1 Z9_26) 3 Z9_26) 16 Z9_26) r)) := (heq200 m (zx_X16_change_189)).trans hb201
                    have hb212 := hR_m.si ((hsi26.tr hsi131).tr hsi200)
                    refine zr_callV (idx := 558) (j := 338) (by decide +kernel) (by decide +kernel) (show zMe 338 = some zq_X16_keep from rfl) rfl rfl (Nat.le_of_ble_eq_true rfl) rfl rfl hb211 (Nat.le_of_ble_eq_true rfl) (Nat.le_of_ble_eq_true rfl) (c_X16_keep (w := w200) m to hb211 hb212 hTi9 hkV (by first | omega | decide | assumption | exact zr1_1 | exact zr1_0 | fail "num")) (by omega) (fun v206 w206 hp206 => ?_)
                    obtain ⟨hsi206, heq206, hp206_0, r206, rfl, hr206⟩ := hp206
                    have kr206 := zrng r206
                    show zP _ _ _ _ [.int r206] _ _ _ _ _
                    have hSl209 := hSl0.up (w' := w206) to.toNatClampNeg hp206_0 (fun x h1 h2 h3 => ((heq206 x (by omega)).trans ((heq200 x (by omega)).trans ((heq131 x (by omega)).trans (heq26 x (by omega))))))
                    have hb213 : w206 m = some (.inl (15, zMo m (zs (zs (zs g 1 Z9_26) 3 Z9_26) 16 Z9_26) r)) := (heq206 m (by omega)).trans hb211
                    have hoffend : ∀ x, (x < m + 0 ∨ m + 0 + 8322 ≤ x) → w206 x = w x := fun x hx => ((heq206 x (by omega)).trans ((heq200 x (zx_X16_change_190 hx)).trans ((heq131 x (zx_X16_change_35 hx)).trans (heq26 x (zx_X16_change_0 hx)))))
                    have hb214 := hb212.si hsi206
                    have hb215 : zTi w206 (m + 83) 1 := hTi9.ag (fun x hx1 hx2 => (heq206 x (by omega)))
                    have hb216 : zPil w206 (m + 6316) := hPl0.ag (fun x hx1 hx2 => ((heq206 x (by omega)).trans ((heq200 x (zx_X16_change_191 hx1 hx2)).trans ((heq131 x (zx_X16_change_59 hx1 hx2)).trans (heq26 x (zx_X16_change_3 hx1 hx2))))))
                    have hb217 : zBya w206 (m + 92) 4000 := hBo0.ag (fun x hx1 hx2 => ((heq206 x (by omega)).trans ((heq200 x (zx_X16_change_192 hx1 hx2)).trans ((heq131 x (zx_X16_change_71 hx1 hx2)).trans (heq26 x (zx_X16_change_4 hx1 hx2))))))
                    have hb218 : zBya w206 (m + 93) 4000 := hBl0.ag (fun x hx1 hx2 => ((heq206 x (by omega)).trans ((heq200 x (zx_X16_change_193 hx1 hx2)).trans ((heq131 x (zx_X16_change_83 hx1 hx2)).trans (heq26 x (zx_X16_change_5 hx1 hx2))))))
                    have hb219 : zGr w206 (m + 100) 48 48 := hGa0.ag (fun x hx1 hx2 => ((heq206 x (by omega)).trans ((heq200 x (zx_X16_change_194 hx1 hx2)).trans ((heq131 x (zx_X16_change_95 hx1 hx2)).trans (heq26 x (zx_X16_change_6 hx1 hx2))))))
                    have hb220 : zGr w206 (m + 212) 60 46 := hGb0.ag (fun x hx1 hx2 => ((heq206 x (by omega)).trans ((heq200 x (zx_X16_change_195 hx1 hx2)).trans ((heq131 x (zx_X16_change_107 hx1 hx2)).trans (heq26 x (zx_X16_change_7 hx1 hx2))))))
                    have hb221 : zBd w206 (m + 149) := hBd0.ag (fun x hx1 hx2 => ((heq206 x (by omega)).trans ((heq200 x (zx_X16_change_196 hx1 hx2)).trans ((heq131 x (zx_X16_change_119 hx1 hx2)).trans (heq26 x (zx_X16_change_8 hx1 hx2))))))
                    have hb222 : w206 (m + 94) = some (.inr (0, 60, .inl ff)) := ((heq206 (m + 94) (by omega)).trans ((heq200 (m + 94) (zx_X16_change_197)).trans ((heq131 (m + 94) (zx_X16_change_131)).trans (heq26 (m + 94) (zx_X16_change_9))))).trans hAf0
                    refine zr_retI (by decide +kernel) rfl ?_
                    rw [← hPost]; exact ⟨rfl, _, rfl, (((hsi26.tr hsi131).tr hsi200).tr hsi206), hoffend, ⟨_, _, hb213, hb214, hSl209, (zTi.m hb215), hb216, ⟨_, hb222, hff⟩, hb217, hb218, hb219, hb220, hb221, hI12, hI24, hI29, hI31, hIn⟩, _, rfl, trivial⟩
                ·
                  replace cc137 := Classical.not_not.mp cc137
                  have f224 := zeqI cc137
                  rw [show (9 : Int32).toInt = 9 from by decide] at f224
                  refine zp_seg (pc' := 143) (lv' := [(0, .ref m), (1, .int op), (3, .int v), (4, .int to), (5, .ref (m + 7486 + 9 * s9.toNatClampNeg))]) (st' := [.int (Int32.ofInt (-12)), .int v]) [(140, .iload_n 3), (141, .bipush (-12))] (by decide +kernel) rfl ?_
                  refine zp_if (i := .if_icmp .lt 21) (c := v < (Int32.ofInt (-12))) (t := 164) (e := 146) (lv' := [(0, .ref m), (1, .int op), (3, .int v), (4, .int to), (5, .ref (m + 7486 + 9 * s9.toNatClampNeg))]) (st' := []) (by decide +kernel) rfl (fun cc143 => ?_) (fun cc143 => ?_)
                  ·
                    have f226 := zltI cc143
                    rw [show (Int32.ofInt (-12) : Int32).toInt = (-12) from by decide] at f226
                    refine zp_seg (pc' := 165) (lv' := [(0, .ref m), (1, .int op), (3, .int v), (4, .int to), (5, .ref (m + 7486 + 9 * s9.toNatClampNeg))]) (st' := [.int (Int32.ofInt (-1))]) [(164, .iconst (-1))] (by decide +kernel) rfl ?_
                    have hb227 : w131 m = some (.inl (15, zMo m (zs (zs (zs g 1 Z9_26) 3 Z9_26) 16 Z9_26) r)) := (heq131 m (zx_X16_change_10)).trans hM26
                    have hoffend : ∀ x, (x < m + 0 ∨ m + 0 + 8322 ≤ x) → w131 x = w x := fun x hx => ((heq131 x (zx_X16_change_35 hx)).trans (heq26 x (zx_X16_change_0 hx)))
                    have hb228 := hR_m.si (hsi26.tr hsi131)
                    have hb229 : zSlo w131 (m + 7486) := hSl0.ag (fun x hx1 hx2 => ((heq131 x (zx_X16_change_47 hx1 hx2)).trans (heq26 x (zx_X16_change_1 hx1 hx2))))
                    have hb230 : zPil w131 (m + 6316) := hPl0.ag (fun x hx1 hx2 => ((heq131 x (zx_X16_change_59 hx1 hx2)).trans (heq26 x (zx_X16_change_3 hx1 hx2))))
                    have hb231 : zBya w131 (m + 92) 4000 := hBo0.ag (fun x hx1 hx2 => ((heq131 x (zx_X16_change_71 hx1 hx2)).trans (heq26 x (zx_X16_change_4 hx1 hx2))))
                    have hb232 : zBya w131 (m + 93) 4000 := hBl0.ag (fun x hx1 hx2 => ((heq131 x (zx_X16_change_83 hx1 hx2)).trans (heq26 x (zx_X16_change_5 hx1 hx2))))
                    have hb233 : zGr w131 (m + 100) 48 48 := hGa0.ag (fun x hx1 hx2 => ((heq131 x (zx_X16_change_95 hx1 hx2)).trans (heq26 x (zx_X16_change_6 hx1 hx2))))
                    have hb234 : zGr w131 (m + 212) 60 46 := hGb0.ag (fun x hx1 hx2 => ((heq131 x (zx_X16_change_107 hx1 hx2)).trans (heq26 x (zx_X16_change_7 hx1 hx2))))
                    have hb235 : zBd w131 (m + 149) := hBd0.ag (fun x hx1 hx2 => ((heq131 x (zx_X16_change_119 hx1 hx2)).trans (heq26 x (zx_X16_change_8 hx1 hx2))))
                    have hb236 : w131 (m + 94) = some (.inr (0, 60, .inl ff)) := ((heq131 (m + 94) (zx_X16_change_131)).trans (heq26 (m + 94) (zx_X16_change_9))).trans hAf0
                    refine zr_retI (by decide +kernel) rfl ?_
                    rw [← hPost]; exact ⟨rfl, _, rfl, (hsi26.tr hsi131), hoffend, ⟨_, _, hb227, hb228, hb229, (zTi.m hp131_0), hb230, ⟨_, hb236, hff⟩, hb231, hb232, hb233, hb234, hb235, hI12, hI24, hI29, hI31, hIn⟩, _, rfl, trivial⟩
                  ·
                    have f239 := znltI cc143
                    rw [show (Int32.ofInt (-12) : Int32).toInt = (-12) from by decide] at f239
                    refine zp_seg (pc' := 149) (lv' := [(0, .ref m), (1, .int op), (3, .int v), (4, .int to), (5, .ref (m + 7486 + 9 * s9.toNatClampNeg))]) (st' := [.int 12, .int v]) [(146, .iload_n 3), (147, .bipush 12)] (by decide +kernel) rfl ?_
                    refine zp_if (i := .if_icmp .gt 15) (c := 12 < v) (t := 164) (e := 152) (lv' := [(0, .ref m), (1, .int op), (3, .int v), (4, .int to), (5, .ref (m + 7486 + 9 * s9.toNatClampNeg))]) (st' := []) (by decide +kernel) rfl (fun cc149 => ?_) (fun cc149 => ?_)
                    ·
                      have f241 := zltI cc149
                      rw [show (12 : Int32).toInt = 12 from by decide] at f241
                      refine zp_seg (pc' := 165) (lv' := [(0, .ref m), (1, .int op), (3, .int v), (4, .int to), (5, .ref (m + 7486 + 9 * s9.toNatClampNeg))]) (st' := [.int (Int32.ofInt (-1))]) [(164, .iconst (-1))] (by decide +kernel) rfl ?_
                      have hb242 : w131 m = some (.inl (15, zMo m (zs (zs (zs g 1 Z9_26) 3 Z9_26) 16 Z9_26) r)) := (heq131 m (zx_X16_change_10)).trans hM26
                      have hoffend : ∀ x, (x < m + 0 ∨ m + 0 + 8322 ≤ x) → w131 x = w x := fun x hx => ((heq131 x (zx_X16_change_35 hx)).trans (heq26 x (zx_X16_change_0 hx)))
                      have hb243 := hR_m.si (hsi26.tr hsi131)
                      have hb244 : zSlo w131 (m + 7486) := hSl0.ag (fun x hx1 hx2 => ((heq131 x (zx_X16_change_47 hx1 hx2)).trans (heq26 x (zx_X16_change_1 hx1 hx2))))
                      have hb245 : zPil w131 (m + 6316) := hPl0.ag (fun x hx1 hx2 => ((heq131 x (zx_X16_change_59 hx1 hx2)).trans (heq26 x (zx_X16_change_3 hx1 hx2))))
                      have hb246 : zBya w131 (m + 92) 4000 := hBo0.ag (fun x hx1 hx2 => ((heq131 x (zx_X16_change_71 hx1 hx2)).trans (heq26 x (zx_X16_change_4 hx1 hx2))))
                      have hb247 : zBya w131 (m + 93) 4000 := hBl0.ag (fun x hx1 hx2 => ((heq131 x (zx_X16_change_83 hx1 hx2)).trans (heq26 x (zx_X16_change_5 hx1 hx2))))
                      have hb248 : zGr w131 (m + 100) 48 48 := hGa0.ag (fun x hx1 hx2 => ((heq131 x (zx_X16_change_95 hx1 hx2)).trans (heq26 x (zx_X16_change_6 hx1 hx2))))
                      have hb249 : zGr w131 (m + 212) 60 46 := hGb0.ag (fun x hx1 hx2 => ((heq131 x (zx_X16_change_107 hx1 hx2)).trans (heq26 x (zx_X16_change_7 hx1 hx2))))
                      have hb250 : zBd w131 (m + 149) := hBd0.ag (fun x hx1 hx2 => ((heq131 x (zx_X16_change_119 hx1 hx2)).trans (heq26 x (zx_X16_change_8 hx1 hx2))))
                      have hb251 : w131 (m + 94) = some (.inr (0, 60, .inl ff)) := ((heq131 (m + 94) (zx_X16_change_131)).trans (heq26 (m + 94) (zx_X16_change_9))).trans hAf0
                      refine zr_retI (by decide +kernel) rfl ?_
                      rw [← hPost]; exact ⟨rfl, _, rfl, (hsi26.tr hsi131), hoffend, ⟨_, _, hb242, hb243, hb244, (zTi.m hp131_0), hb245, ⟨_, hb251, hff⟩, hb246, hb247, hb248, hb249, hb250, hI12, hI24, hI29, hI31, hIn⟩, _, rfl, trivial⟩
                    ·
                      have f254 := znltI cc149
                      rw [show (12 : Int32).toInt = 12 from by decide] at f254
                      refine zp_seg (pc' := 154) (lv' := [(0, .ref m), (1, .int op), (3, .int v), (4, .int to), (5, .ref (m + 7486 + 9 * s9.toNatClampNeg))]) (st' := [.ref (m + 7486 + 9 * s9.toNatClampNeg)]) [(152, .aload 5)] (by decide +kernel) rfl ?_
                      have hb255 : w131 (m + 7486 + 9 * s9.toNatClampNeg) = some (.inl (13, zTo (m + 7486 + 9 * s9.toNatClampNeg) g1)) := (heq131 (m + 7486 + 9 * s9.toNatClampNeg) (by omega)).trans hb27
                      have hb256 : w131 (m + 7486 + 9 * s9.toNatClampNeg + 1) = some (.inr (0, 325, .inl fn1)) := ((heq131 (m + 7486 + 9 * s9.toNatClampNeg + 1) (by omega)).trans (heq26 (m + 7486 + 9 * s9.toNatClampNeg + 1) (by omega))).trans hAn1
                      refine zr_callS (idx := 288) (j := 306) (by decide +kernel) (by decide +kernel) (by decide) (show zMe 306 = some zq_X16_isZero from rfl) rfl rfl (Nat.le_of_ble_eq_true rfl) rfl rfl (Nat.le_of_ble_eq_true rfl) (Nat.le_of_ble_eq_true rfl) (c_X16_isZero (w := w131) (m + 7486 + 9 * s9.toNatClampNeg) hb255 hb256 (by exact hKn1)) (by omega) (fun v154 w154 hp154 => ?_)
                      obtain ⟨hpw154, r154, rfl, hrb154, hr154⟩ := hp154
                      replace hpw154 := hpw154.symm
                      subst hpw154
                      have kr154 := zrng r154
                      show zP _ _ _ _ [.int r154] _ _ _ _ _
                      have hJ166 : ∀ (_ : True), zP (d + 1) zq_X16_change 166 [(0, .ref m), (3, .int v), (4, .int to)] [] w131 sz 0 0 Post := by
                        intro _
                        refine zp_seg (pc' := 168) (lv' := [(0, .ref m), (3, .int v), (4, .int to)]) (st' := [.ref m, .ref m]) [(166, .aload_n 0), (167, .aload_n 0)] (by decide +kernel) rfl ?_
                        have hb257 : w131 m = some (.inl (15, zMo m (zs (zs (zs g 1 Z9_26) 3 Z9_26) 16 Z9_26) r)) := (heq131 m (zx_X16_change_10)).trans hM26
                        refine zr_get (idx := 453) (k := 21) (v := .ref (m + 83)) (by decide +kernel) (by decide +kernel) hb257 rfl ?_
                        refine zp_seg (pc' := 172) (lv' := [(0, .ref m), (3, .int v), (4, .int to)]) (st' := [.int v, .ref (m + 83), .ref m]) [(171, .iload_n 3)] (by decide +kernel) rfl ?_
                        have hb258 := hR_m.si (hsi26.tr hsi131)
                        refine zr_callV (idx := 417) (j := 316) (by decide +kernel) (by decide +kernel) (show zMe 316 = some zq_X16_raise from rfl) rfl rfl (Nat.le_of_ble_eq_true rfl) rfl rfl hb257 (Nat.le_of_ble_eq_true rfl) (Nat.le_of_ble_eq_true rfl) (c_X16_raise (w := w131) (g1 := Z9_26) (g3 := Z9_26) m (m + 83) v hb257 hb258 hp131_0 (by first | omega | decide | assumption | exact zr1_1 | exact zr1_0 | fail "num") (by first | omega | decide | assumption | exact zr1_1 | exact zr1_0 | fail "num") (by first | omega | decide | assumption | exact zr1_1 | exact zr1_0 | fail "num") (by exact hkk9) (by first | omega | decide | assumption | exact zr1_1 | exact zr1_0 | fail "num") rfl rfl) (by omega) (fun v172 w172 hp172 => ?_)
                        obtain ⟨K9_172, hsi172, heq172, hp172_0, hp172_1, r172, rfl, hrb172, hr172⟩ := hp172
                        have kr172 := zrng r172
                        show zP _ _ _ _ [.int r172] _ _ _ _ _
                        refine zp_if (i := .ifCond .eq 12) (c := r172 = 0) (t := 187) (e := 178) (lv' := [(0, .ref m), (3, .int v), (4, .int to)]) (st' := []) (by decide +kernel) rfl (fun cc175 => ?_) (fun cc175 => ?_)
                        ·
                          have f259 := zeqI cc175
                          rw [show (0 : Int32).toInt = 0 from by decide] at f259
                          refine zp_seg (pc' := 189) (lv' := [(0, .ref m), (3, .int v), (4, .int to)]) (st' := [.int (Int32.ofInt (-2))]) [(187, .bipush (-2))] (by decide +kernel) rfl ?_
                          have hb260 : w172 m = some (.inl (15, zMo m (zs (zs (zs g 1 Z9_26) 3 Z9_26) 16 Z9_26) r)) := (heq172 m ⟨(zx_X16_change_10), (zx_X16_change_161 hgzZ9_26_0), (zx_X16_change_198 hgzZ9_26_0)⟩).trans hb257
                          have hoffend : ∀ x, (x < m + 0 ∨ m + 0 + 8322 ≤ x) → w172 x = w x := fun x hx => ((heq172 x ⟨(zx_X16_change_35 hx), (zx_X16_change_169 hx hgzZ9_26_0), (zx_X16_change_199 hx hgzZ9_26_0)⟩).trans ((heq131 x (zx_X16_change_35 hx)).trans (heq26 x (zx_X16_change_0 hx))))
                          have hb261 := hb258.si hsi172
                          have hb262 : zSlo w172 (m + 7486) := hSl0.ag (fun x hx1 hx2 => ((heq172 x ⟨(zx_X16_change_47 hx1 hx2), (zx_X16_change_170 hx1 hx2 hgzZ9_26_0), (zx_X16_change_200 hx1 hx2 hgzZ9_26_0)⟩).trans ((heq131 x (zx_X16_change_47 hx1 hx2)).trans (heq26 x (zx_X16_change_1 hx1 hx2)))))
                          have hb263 : zPil w172 (m + 6316) := hPl0.ag (fun x hx1 hx2 => ((heq172 x ⟨(zx_X16_change_59 hx1 hx2), (zx_X16_change_172 hx1 hx2 hgzZ9_26_0), (zx_X16_change_201 hx1 hx2 hgzZ9_26_0)⟩).trans ((heq131 x (zx_X16_change_59 hx1 hx2)).trans (heq26 x (zx_X16_change_3 hx1 hx2)))))
                          have hb264 : zBya w172 (m + 92) 4000 := hBo0.ag (fun x hx1 hx2 => ((heq172 x ⟨(zx_X16_change_71 hx1 hx2), (zx_X16_change_173 hx1 hx2 hgzZ9_26_0), (zx_X16_change_202 hx1 hx2 hgzZ9_26_0)⟩).trans ((heq131 x (zx_X16_change_71 hx1 hx2)).trans (heq26 x (zx_X16_change_4 hx1 hx2)))))
                          have hb265 : zBya w172 (m + 93) 4000 := hBl0.ag (fun x hx1 hx2 => ((heq172 x ⟨(zx_X16_change_83 hx1 hx2), (zx_X16_change_174 hx1 hx2 hgzZ9_26_0), (zx_X16_change_203 hx1 hx2 hgzZ9_26_0)⟩).trans ((heq131 x (zx_X16_change_83 hx1 hx2)).trans (heq26 x (zx_X16_change_5 hx1 hx2)))))
                          have hb266 : zGr w172 (m + 100) 48 48 := hGa0.ag (fun x hx1 hx2 => ((heq172 x ⟨(zx_X16_change_95 hx1 hx2), (zx_X16_change_175 hx1 hx2 hgzZ9_26_0), (zx_X16_change_204 hx1 hx2 hgzZ9_26_0)⟩).trans ((heq131 x (zx_X16_change_95 hx1 hx2)).trans (heq26 x (zx_X16_change_6 hx1 hx2)))))
                          have hb267 : zGr w172 (m + 212) 60 46 := hGb0.ag (fun x hx1 hx2 => ((heq172 x ⟨(zx_X16_change_107 hx1 hx2), (zx_X16_change_176 hx1 hx2 hgzZ9_26_0), (zx_X16_change_205 hx1 hx2 hgzZ9_26_0)⟩).trans ((heq131 x (zx_X16_change_107 hx1 hx2)).trans (heq26 x (zx_X16_change_7 hx1 hx2)))))
                          have hb268 : zBd w172 (m + 149) := hBd0.ag (fun x hx1 hx2 => ((heq172 x ⟨(zx_X16_change_119 hx1 hx2), (zx_X16_change_177 hx1 hx2 hgzZ9_26_0), (zx_X16_change_206 hx1 hx2 hgzZ9_26_0)⟩).trans ((heq131 x (zx_X16_change_119 hx1 hx2)).trans (heq26 x (zx_X16_change_8 hx1 hx2)))))
                          have hb269 : w172 (m + 94) = some (.inr (0, 60, .inl ff)) := ((heq172 (m + 94) ⟨(zx_X16_change_131), (zx_X16_change_178 hgzZ9_26_0), (zx_X16_change_207 hgzZ9_26_0)⟩).trans ((heq131 (m + 94) (zx_X16_change_131)).trans (heq26 (m + 94) (zx_X16_change_9)))).trans hAf0
                          refine zr_retI (by decide +kernel) rfl ?_
                          rw [← hPost]; exact ⟨rfl, _, rfl, ((hsi26.tr hsi131).tr hsi172), hoffend, ⟨_, _, hb260, hb261, hb262, (zTi.m hp172_0), hb263, ⟨_, hb269, hff⟩, hb264, hb265, hb266, hb267, hb268, hI12, hI24, hI29, hI31, hIn⟩, _, rfl, trivial⟩
                        ·
                          have f271 := zneI cc175
                          rw [show (0 : Int32).toInt = 0 from by decide] at f271
                          have hb272 : zSlo w172 (m + 7486) := hSl0.ag (fun x hx1 hx2 => ((heq172 x ⟨(zx_X16_change_47 hx1 hx2), (zx_X16_change_170 hx1 hx2 hgzZ9_26_0), (zx_X16_change_200 hx1 hx2 hgzZ9_26_0)⟩).trans ((heq131 x (zx_X16_change_47 hx1 hx2)).trans (heq26 x (zx_X16_change_1 hx1 hx2)))))
                          obtain ⟨kU, hkU⟩ := hb272 to.toNatClampNeg (by omega)
                          refine zp_seg (pc' := 181) (lv' := [(0, .ref m), (3, .int v), (4, .int to)]) (st' := [.int to, .ref m]) [(178, .aload_n 0), (179, .iload 4)] (by decide +kernel) rfl ?_
                          have hb273 : w172 m = some (.inl (15, zMo m (zs (zs (zs g 1 Z9_26) 3 Z9_26) 16 Z9_26) r)) := (heq172 m ⟨(zx_X16_change_10), (zx_X16_change_161 hgzZ9_26_0), (zx_X16_change_198 hgzZ9_26_0)⟩).trans hb257
                          have hb274 := hb258.si hsi172
                          refine zr_callV (idx := 558) (j := 338) (by decide +kernel) (by decide +kernel) (show zMe 338 = some zq_X16_keep from rfl) rfl rfl (Nat.le_of_ble_eq_true rfl) rfl rfl hb273 (Nat.le_of_ble_eq_true rfl) (Nat.le_of_ble_eq_true rfl) (c_X16_keep (w := w172) m to hb273 hb274 hp172_0 hkU (by first | omega | decide | assumption | exact zr1_1 | exact zr1_0 | fail "num")) (by omega) (fun v181 w181 hp181 => ?_)
                          obtain ⟨hsi181, heq181, hp181_0, r181, rfl, hr181⟩ := hp181
                          have kr181 := zrng r181
                          show zP _ _ _ _ [.int r181] _ _ _ _ _
                          refine zp_seg (pc' := 189) (lv' := [(0, .ref m), (3, .int v), (4, .int to)]) (st' := [.int r181]) [(184, .goto 5)] (by decide +kernel) rfl ?_
                          have hSl189 := hSl0.up (w' := w181) to.toNatClampNeg hp181_0 (fun x h1 h2 h3 => ((heq181 x (by omega)).trans ((heq172 x (by omega)).trans ((heq131 x (by omega)).trans (heq26 x (by omega))))))
                          have hb275 : w181 m = some (.inl (15, zMo m (zs (zs (zs g 1 Z9_26) 3 Z9_26) 16 Z9_26) r)) := (heq181 m (by omega)).trans hb273
                          have hoffend : ∀ x, (x < m + 0 ∨ m + 0 + 8322 ≤ x) → w181 x = w x := fun x hx => ((heq181 x (by omega)).trans ((heq172 x ⟨(zx_X16_change_35 hx), (zx_X16_change_169 hx hgzZ9_26_0), (zx_X16_change_199 hx hgzZ9_26_0)⟩).trans ((heq131 x (zx_X16_change_35 hx)).trans (heq26 x (zx_X16_change_0 hx)))))
                          have hb276 := hb274.si hsi181
                          have hb277 : zTi w181 (m + 83) K9_172 := hp172_0.ag (fun x hx1 hx2 => (heq181 x (by omega)))
                          have hb278 : zPil w181 (m + 6316) := hPl0.ag (fun x hx1 hx2 => ((heq181 x (by omega)).trans ((heq172 x ⟨(zx_X16_change_59 hx1 hx2), (zx_X16_change_172 hx1 hx2 hgzZ9_26_0), (zx_X16_change_201 hx1 hx2 hgzZ9_26_0)⟩).trans ((heq131 x (zx_X16_change_59 hx1 hx2)).trans (heq26 x (zx_X16_change_3 hx1 hx2))))))
                          have hb279 : zBya w181 (m + 92) 4000 := hBo0.ag (fun x hx1 hx2 => ((heq181 x (by omega)).trans ((heq172 x ⟨(zx_X16_change_71 hx1 hx2), (zx_X16_change_173 hx1 hx2 hgzZ9_26_0), (zx_X16_change_202 hx1 hx2 hgzZ9_26_0)⟩).trans ((heq131 x (zx_X16_change_71 hx1 hx2)).trans (heq26 x (zx_X16_change_4 hx1 hx2))))))
                          have hb280 : zBya w181 (m + 93) 4000 := hBl0.ag (fun x hx1 hx2 => ((heq181 x (by omega)).trans ((heq172 x ⟨(zx_X16_change_83 hx1 hx2), (zx_X16_change_174 hx1 hx2 hgzZ9_26_0), (zx_X16_change_203 hx1 hx2 hgzZ9_26_0)⟩).trans ((heq131 x (zx_X16_change_83 hx1 hx2)).trans (heq26 x (zx_X16_change_5 hx1 hx2))))))
                          have hb281 : zGr w181 (m + 100) 48 48 := hGa0.ag (fun x hx1 hx2 => ((heq181 x (by omega)).trans ((heq172 x ⟨(zx_X16_change_95 hx1 hx2), (zx_X16_change_175 hx1 hx2 hgzZ9_26_0), (zx_X16_change_204 hx1 hx2 hgzZ9_26_0)⟩).trans ((heq131 x (zx_X16_change_95 hx1 hx2)).trans (heq26 x (zx_X16_change_6 hx1 hx2))))))
                          have hb282 : zGr w181 (m + 212) 60 46 := hGb0.ag (fun x hx1 hx2 => ((heq181 x (by omega)).trans ((heq172 x ⟨(zx_X16_change_107 hx1 hx2), (zx_X16_change_176 hx1 hx2 hgzZ9_26_0), (zx_X16_change_205 hx1 hx2 hgzZ9_26_0)⟩).trans ((heq131 x (zx_X16_change_107 hx1 hx2)).trans (heq26 x (zx_X16_change_7 hx1 hx2))))))
                          have hb283 : zBd w181 (m + 149) := hBd0.ag (fun x hx1 hx2 => ((heq181 x (by omega)).trans ((heq172 x ⟨(zx_X16_change_119 hx1 hx2), (zx_X16_change_177 hx1 hx2 hgzZ9_26_0), (zx_X16_change_206 hx1 hx2 hgzZ9_26_0)⟩).trans ((heq131 x (zx_X16_change_119 hx1 hx2)).trans (heq26 x (zx_X16_change_8 hx1 hx2))))))
                          have hb284 : w181 (m + 94) = some (.inr (0, 60, .inl ff)) := ((heq181 (m + 94) (by omega)).trans ((heq172 (m + 94) ⟨(zx_X16_change_131), (zx_X16_change_178 hgzZ9_26_0), (zx_X16_change_207 hgzZ9_26_0)⟩).trans ((heq131 (m + 94) (zx_X16_change_131)).trans (heq26 (m + 94) (zx_X16_change_9))))).trans hAf0
                          refine zr_retI (by decide +kernel) rfl ?_
                          rw [← hPost]; exact ⟨rfl, _, rfl, (((hsi26.tr hsi131).tr hsi172).tr hsi181), hoffend, ⟨_, _, hb275, hb276, hSl189, (zTi.m hb277), hb278, ⟨_, hb284, hff⟩, hb279, hb280, hb281, hb282, hb283, hI12, hI24, hI29, hI31, hIn⟩, _, rfl, trivial⟩
                      refine zp_if (i := .ifCond .eq 9) (c := r154 = 0) (t := 166) (e := 160) (lv' := [(0, .ref m), (1, .int op), (3, .int v), (4, .int to), (5, .ref (m + 7486 + 9 * s9.toNatClampNeg))]) (st' := []) (by decide +kernel) rfl (fun cc157 => ?_) (fun cc157 => ?_)
                      ·
                        have f285 := zeqI cc157
                        rw [show (0 : Int32).toInt = 0 from by decide] at f285
                        exact (hJ166 trivial ).more (zfa1 rfl (zfa1 rfl (zfa1 rfl (zfa0))))
                      ·
                        have f286 := zneI cc157
                        rw [show (0 : Int32).toInt = 0 from by decide] at f286
                        refine zp_seg (pc' := 161) (lv' := [(0, .ref m), (1, .int op), (3, .int v), (4, .int to), (5, .ref (m + 7486 + 9 * s9.toNatClampNeg))]) (st' := [.int v]) [(160, .iload_n 3)] (by decide +kernel) rfl ?_
                        refine zp_if (i := .ifCond .ge 5) (c := 0 ≤ v) (t := 166) (e := 164) (lv' := [(0, .ref m), (1, .int op), (3, .int v), (4, .int to), (5, .ref (m + 7486 + 9 * s9.toNatClampNeg))]) (st' := []) (by decide +kernel) rfl (fun cc161 => ?_) (fun cc161 => ?_)
                        ·
                          have f287 := zleI cc161
                          rw [show (0 : Int32).toInt = 0 from by decide] at f287
                          exact (hJ166 trivial ).more (zfa1 rfl (zfa1 rfl (zfa1 rfl (zfa0))))
                        ·
                          have f288 := znleI cc161
                          rw [show (0 : Int32).toInt = 0 from by decide] at f288
                          refine zp_seg (pc' := 165) (lv' := [(0, .ref m), (1, .int op), (3, .int v), (4, .int to), (5, .ref (m + 7486 + 9 * s9.toNatClampNeg))]) (st' := [.int (Int32.ofInt (-1))]) [(164, .iconst (-1))] (by decide +kernel) rfl ?_
                          have hb289 : w131 m = some (.inl (15, zMo m (zs (zs (zs g 1 Z9_26) 3 Z9_26) 16 Z9_26) r)) := (heq131 m (zx_X16_change_10)).trans hM26
                          have hoffend : ∀ x, (x < m + 0 ∨ m + 0 + 8322 ≤ x) → w131 x = w x := fun x hx => ((heq131 x (zx_X16_change_35 hx)).trans (heq26 x (zx_X16_change_0 hx)))
                          have hb290 := hR_m.si (hsi26.tr hsi131)
                          have hb291 : zSlo w131 (m + 7486) := hSl0.ag (fun x hx1 hx2 => ((heq131 x (zx_X16_change_47 hx1 hx2)).trans (heq26 x (zx_X16_change_1 hx1 hx2))))
                          have hb292 : zPil w131 (m + 6316) := hPl0.ag (fun x hx1 hx2 => ((heq131 x (zx_X16_change_59 hx1 hx2)).trans (heq26 x (zx_X16_change_3 hx1 hx2))))
                          have hb293 : zBya w131 (m + 92) 4000 := hBo0.ag (fun x hx1 hx2 => ((heq131 x (zx_X16_change_71 hx1 hx2)).trans (heq26 x (zx_X16_change_4 hx1 hx2))))
                          have hb294 : zBya w131 (m + 93) 4000 := hBl0.ag (fun x hx1 hx2 => ((heq131 x (zx_X16_change_83 hx1 hx2)).trans (heq26 x (zx_X16_change_5 hx1 hx2))))
                          have hb295 : zGr w131 (m + 100) 48 48 := hGa0.ag (fun x hx1 hx2 => ((heq131 x (zx_X16_change_95 hx1 hx2)).trans (heq26 x (zx_X16_change_6 hx1 hx2))))
                          have hb296 : zGr w131 (m + 212) 60 46 := hGb0.ag (fun x hx1 hx2 => ((heq131 x (zx_X16_change_107 hx1 hx2)).trans (heq26 x (zx_X16_change_7 hx1 hx2))))
                          have hb297 : zBd w131 (m + 149) := hBd0.ag (fun x hx1 hx2 => ((heq131 x (zx_X16_change_119 hx1 hx2)).trans (heq26 x (zx_X16_change_8 hx1 hx2))))
                          have hb298 : w131 (m + 94) = some (.inr (0, 60, .inl ff)) := ((heq131 (m + 94) (zx_X16_change_131)).trans (heq26 (m + 94) (zx_X16_change_9))).trans hAf0
                          refine zr_retI (by decide +kernel) rfl ?_
                          rw [← hPost]; exact ⟨rfl, _, rfl, (hsi26.tr hsi131), hoffend, ⟨_, _, hb289, hb290, hb291, (zTi.m hp131_0), hb292, ⟨_, hb298, hff⟩, hb293, hb294, hb295, hb296, hb297, hI12, hI24, hI29, hI31, hIn⟩, _, rfl, trivial⟩
              refine zp_if (i := .if_icmp .ne 23) (c := ¬ (g1 0) = 2) (t := 116) (e := 96) (lv' := [(0, .ref m), (1, .int op), (3, .int v), (4, .int to), (5, .ref (m + 7486 + 9 * s9.toNatClampNeg))]) (st' := []) (by decide +kernel) rfl (fun cc93 => ?_) (fun cc93 => ?_)
              ·
                have k300 := zrng (g1 0)
                have f302 := zneI cc93
                rw [show (2 : Int32).toInt = 2 from by decide] at f302
                refine zp_seg (pc' := 119) (lv' := [(0, .ref m), (1, .int op), (3, .int v), (4, .int to), (5, .ref (m + 7486 + 9 * s9.toNatClampNeg))]) (st' := [.int 11, .int op]) [(116, .iload_n 1), (117, .bipush 11)] (by decide +kernel) rfl ?_
                refine zp_if (i := .if_icmp .ne 6) (c := ¬ op = 11) (t := 125) (e := 122) (lv' := [(0, .ref m), (1, .int op), (3, .int v), (4, .int to), (5, .ref (m + 7486 + 9 * s9.toNatClampNeg))]) (st' := []) (by decide +kernel) rfl (fun cc119 => ?_) (fun cc119 => ?_)
                ·
                  have f303 := zneI cc119
                  rw [show (11 : Int32).toInt = 11 from by decide] at f303
                  exact (hJ125 trivial (by
                        first | exact fun _ => Or.inl (by omega) | exact fun _ => Or.inr (Or.inl (by omega)) | exact fun _ => Or.inr (Or.inr (by omega)) | exact fun e => absurd (hK10.trans e) cc93)).more (zfa1 rfl (zfa1 rfl (zfa1 rfl (zfa1 rfl (zfa1 rfl (zfa0))))))
                ·
                  replace cc119 := Classical.not_not.mp cc119
                  have f304 := zeqI cc119
                  rw [show (11 : Int32).toInt = 11 from by decide] at f304
                  refine zp_seg (pc' := 124) (lv' := [(0, .ref m), (1, .int op), (3, .int v), (4, .int to), (5, .ref (m + 7486 + 9 * s9.toNatClampNeg))]) (st' := [.int (Int32.ofInt (-3))]) [(122, .bipush (-3))] (by decide +kernel) rfl ?_
                  have hoffend : ∀ x, (x < m + 0 ∨ m + 0 + 8322 ≤ x) → w26 x = w x := fun x hx => (heq26 x (zx_X16_change_0 hx))
                  have hb305 := hR_m.si hsi26
                  have hb306 : zSlo w26 (m + 7486) := hSl0.ag (fun x hx1 hx2 => (heq26 x (zx_X16_change_1 hx1 hx2)))
                  have hb307 : zTm w26 (m + 83) := hMd0.ag (fun x hx1 hx2 => (heq26 x (zx_X16_change_2 hx1 hx2)))
                  have hb308 : zPil w26 (m + 6316) := hPl0.ag (fun x hx1 hx2 => (heq26 x (zx_X16_change_3 hx1 hx2)))
                  have hb309 : zBya w26 (m + 92) 4000 := hBo0.ag (fun x hx1 hx2 => (heq26 x (zx_X16_change_4 hx1 hx2)))
                  have hb310 : zBya w26 (m + 93) 4000 := hBl0.ag (fun x hx1 hx2 => (heq26 x (zx_X16_change_5 hx1 hx2)))
                  have hb311 : zGr w26 (m + 100) 48 48 := hGa0.ag (fun x hx1 hx2 => (heq26 x (zx_X16_change_6 hx1 hx2)))
                  have hb312 : zGr w26 (m + 212) 60 46 := hGb0.ag (fun x hx1 hx2 => (heq26 x (zx_X16_change_7 hx1 hx2)))
                  have hb313 : zBd w26 (m + 149) := hBd0.ag (fun x hx1 hx2 => (heq26 x (zx_X16_change_8 hx1 hx2)))
                  have hb314 : w26 (m + 94) = some (.inr (0, 60, .inl ff)) := (heq26 (m + 94) (zx_X16_change_9)).trans hAf0
                  refine zr_retI (by decide +kernel) rfl ?_
                  rw [← hPost]; exact ⟨rfl, _, rfl, hsi26, hoffend, ⟨_, _, hM26, hb305, hb306, hb307, hb308, ⟨_, hb314, hff⟩, hb309, hb310, hb311, hb312, hb313, hI12, hI24, hI29, hI31, hIn⟩, _, rfl, trivial⟩
              ·
                replace cc93 := Classical.not_not.mp cc93
                have k316 := zrng (g1 0)
                have f318 := zeqI cc93
                rw [show (2 : Int32).toInt = 2 from by decide] at f318
                refine zp_seg (pc' := 98) (lv' := [(0, .ref m), (1, .int op), (3, .int v), (4, .int to), (5, .ref (m + 7486 + 9 * s9.toNatClampNeg))]) (st' := [.int 1, .int op]) [(96, .iload_n 1), (97, .iconst 1)] (by decide +kernel) rfl ?_
                refine zp_if (i := .if_icmp .le 27) (c := op ≤ 1) (t := 125) (e := 101) (lv' := [(0, .ref m), (1, .int op), (3, .int v), (4, .int to), (5, .ref (m + 7486 + 9 * s9.toNatClampNeg))]) (st' := []) (by decide +kernel) rfl (fun cc98 => ?_) (fun cc98 => ?_)
                ·
                  have f320 := zleI cc98
                  rw [show (1 : Int32).toInt = 1 from by decide] at f320
                  exact (hJ125 trivial (by
                        first | exact fun _ => Or.inl (by omega) | exact fun _ => Or.inr (Or.inl (by omega)) | exact fun _ => Or.inr (Or.inr (by omega)) | exact fun e => absurd (hK10.trans e) cc93)).more (zfa1 rfl (zfa1 rfl (zfa1 rfl (zfa1 rfl (zfa1 rfl (zfa0))))))
                ·
                  have f322 := znleI cc98
                  rw [show (1 : Int32).toInt = 1 from by decide] at f322
                  refine zp_seg (pc' := 104) (lv' := [(0, .ref m), (1, .int op), (3, .int v), (4, .int to), (5, .ref (m + 7486 + 9 * s9.toNatClampNeg))]) (st' := [.int 9, .int op]) [(101, .iload_n 1), (102, .bipush 9)] (by decide +kernel) rfl ?_
                  refine zp_if (i := .if_icmp .eq 21) (c := op = 9) (t := 125) (e := 107) (lv' := [(0, .ref m), (1, .int op), (3, .int v), (4, .int to), (5, .ref (m + 7486 + 9 * s9.toNatClampNeg))]) (st' := []) (by decide +kernel) rfl (fun cc104 => ?_) (fun cc104 => ?_)
                  ·
                    have f324 := zeqI cc104
                    rw [show (9 : Int32).toInt = 9 from by decide] at f324
                    exact (hJ125 trivial (by
                          first | exact fun _ => Or.inl (by omega) | exact fun _ => Or.inr (Or.inl (by omega)) | exact fun _ => Or.inr (Or.inr (by omega)) | exact fun e => absurd (hK10.trans e) cc93)).more (zfa1 rfl (zfa1 rfl (zfa1 rfl (zfa1 rfl (zfa1 rfl (zfa0))))))
                  ·
                    have f326 := zneI cc104
                    rw [show (9 : Int32).toInt = 9 from by decide] at f326
                    refine zp_seg (pc' := 110) (lv' := [(0, .ref m), (1, .int op), (3, .int v), (4, .int to), (5, .ref (m + 7486 + 9 * s9.toNatClampNeg))]) (st' := [.int 11, .int op]) [(107, .iload_n 1), (108, .bipush 11)] (by decide +kernel) rfl ?_
                    refine zp_if (i := .if_icmp .eq 15) (c := op = 11) (t := 125) (e := 113) (lv' := [(0, .ref m), (1, .int op), (3, .int v), (4, .int to), (5, .ref (m + 7486 + 9 * s9.toNatClampNeg))]) (st' := []) (by decide +kernel) rfl (fun cc110 => ?_) (fun cc110 => ?_)
                    ·
                      have f327 := zeqI cc110
                      rw [show (11 : Int32).toInt = 11 from by decide] at f327
                      exact (hJ125 trivial (by
                            first | exact fun _ => Or.inl (by omega) | exact fun _ => Or.inr (Or.inl (by omega)) | exact fun _ => Or.inr (Or.inr (by omega)) | exact fun e => absurd (hK10.trans e) cc93)).more (zfa1 rfl (zfa1 rfl (zfa1 rfl (zfa1 rfl (zfa1 rfl (zfa0))))))
                    ·
                      have f328 := zneI cc110
                      rw [show (11 : Int32).toInt = 11 from by decide] at f328
                      refine zp_seg (pc' := 124) (lv' := [(0, .ref m), (1, .int op), (3, .int v), (4, .int to), (5, .ref (m + 7486 + 9 * s9.toNatClampNeg))]) (st' := [.int (Int32.ofInt (-3))]) [(113, .goto 9), (122, .bipush (-3))] (by decide +kernel) rfl ?_
                      have hoffend : ∀ x, (x < m + 0 ∨ m + 0 + 8322 ≤ x) → w26 x = w x := fun x hx => (heq26 x (zx_X16_change_0 hx))
                      have hb329 := hR_m.si hsi26
                      have hb330 : zSlo w26 (m + 7486) := hSl0.ag (fun x hx1 hx2 => (heq26 x (zx_X16_change_1 hx1 hx2)))
                      have hb331 : zTm w26 (m + 83) := hMd0.ag (fun x hx1 hx2 => (heq26 x (zx_X16_change_2 hx1 hx2)))
                      have hb332 : zPil w26 (m + 6316) := hPl0.ag (fun x hx1 hx2 => (heq26 x (zx_X16_change_3 hx1 hx2)))
                      have hb333 : zBya w26 (m + 92) 4000 := hBo0.ag (fun x hx1 hx2 => (heq26 x (zx_X16_change_4 hx1 hx2)))
                      have hb334 : zBya w26 (m + 93) 4000 := hBl0.ag (fun x hx1 hx2 => (heq26 x (zx_X16_change_5 hx1 hx2)))
                      have hb335 : zGr w26 (m + 100) 48 48 := hGa0.ag (fun x hx1 hx2 => (heq26 x (zx_X16_change_6 hx1 hx2)))
                      have hb336 : zGr w26 (m + 212) 60 46 := hGb0.ag (fun x hx1 hx2 => (heq26 x (zx_X16_change_7 hx1 hx2)))
                      have hb337 : zBd w26 (m + 149) := hBd0.ag (fun x hx1 hx2 => (heq26 x (zx_X16_change_8 hx1 hx2)))
                      have hb338 : w26 (m + 94) = some (.inr (0, 60, .inl ff)) := (heq26 (m + 94) (zx_X16_change_9)).trans hAf0
                      refine zr_retI (by decide +kernel) rfl ?_
                      rw [← hPost]; exact ⟨rfl, _, rfl, hsi26, hoffend, ⟨_, _, hM26, hb329, hb330, hb331, hb332, ⟨_, hb338, hff⟩, hb333, hb334, hb335, hb336, hb337, hI12, hI24, hI29, hI31, hIn⟩, _, rfl, trivial⟩
            ·
              have f341 := znleI cc82
              rw [show (11 : Int32).toInt = 11 from by decide] at f341
              refine zp_seg (pc' := 86) (lv' := [(0, .ref m), (1, .int op), (3, .int v), (4, .int to), (5, .ref (m + 7486 + 9 * s9.toNatClampNeg))]) (st' := [.int (Int32.ofInt (-1))]) [(85, .iconst (-1))] (by decide +kernel) rfl ?_
              have hoffend : ∀ x, (x < m + 0 ∨ m + 0 + 8322 ≤ x) → w26 x = w x := fun x hx => (heq26 x (zx_X16_change_0 hx))
              have hb342 := hR_m.si hsi26
              have hb343 : zSlo w26 (m + 7486) := hSl0.ag (fun x hx1 hx2 => (heq26 x (zx_X16_change_1 hx1 hx2)))
              have hb344 : zTm w26 (m + 83) := hMd0.ag (fun x hx1 hx2 => (heq26 x (zx_X16_change_2 hx1 hx2)))
              have hb345 : zPil w26 (m + 6316) := hPl0.ag (fun x hx1 hx2 => (heq26 x (zx_X16_change_3 hx1 hx2)))
              have hb346 : zBya w26 (m + 92) 4000 := hBo0.ag (fun x hx1 hx2 => (heq26 x (zx_X16_change_4 hx1 hx2)))
              have hb347 : zBya w26 (m + 93) 4000 := hBl0.ag (fun x hx1 hx2 => (heq26 x (zx_X16_change_5 hx1 hx2)))
              have hb348 : zGr w26 (m + 100) 48 48 := hGa0.ag (fun x hx1 hx2 => (heq26 x (zx_X16_change_6 hx1 hx2)))
              have hb349 : zGr w26 (m + 212) 60 46 := hGb0.ag (fun x hx1 hx2 => (heq26 x (zx_X16_change_7 hx1 hx2)))
              have hb350 : zBd w26 (m + 149) := hBd0.ag (fun x hx1 hx2 => (heq26 x (zx_X16_change_8 hx1 hx2)))
              have hb351 : w26 (m + 94) = some (.inr (0, 60, .inl ff)) := (heq26 (m + 94) (zx_X16_change_9)).trans hAf0
              refine zr_retI (by decide +kernel) rfl ?_
              rw [← hPost]; exact ⟨rfl, _, rfl, hsi26, hoffend, ⟨_, _, hM26, hb342, hb343, hb344, hb345, ⟨_, hb351, hff⟩, hb346, hb347, hb348, hb349, hb350, hI12, hI24, hI29, hI31, hIn⟩, _, rfl, trivial⟩
        refine zp_if (i := .if_icmp .eq 15) (c := (g1 0) = 1) (t := 75) (e := 63) (lv' := [(5, .ref (m + 7486 + 9 * s9.toNatClampNeg)), (0, .ref m), (1, .int op), (2, .int s9), (3, .int v), (4, .int to)]) (st' := []) (by decide +kernel) rfl (fun cc60 => ?_) (fun cc60 => ?_)
        ·
          have k353 := zrng (g1 0)
          have f355 := zeqI cc60
          rw [show (1 : Int32).toInt = 1 from by decide] at f355
          exact (hJ75 trivial (by
                first | exact Or.inl (hK10.symm.trans cc60) | exact Or.inr (hK10.symm.trans cc69))).more (zfa1 rfl (zfa1 rfl (zfa1 rfl (zfa1 rfl (zfa1 rfl (zfa0))))))
        ·
          have k356 := zrng (g1 0)
          have f358 := zneI cc60
          rw [show (1 : Int32).toInt = 1 from by decide] at f358
          refine zp_seg (pc' := 65) (lv' := [(5, .ref (m + 7486 + 9 * s9.toNatClampNeg)), (0, .ref m), (1, .int op), (2, .int s9), (3, .int v), (4, .int to)]) (st' := [.ref (m + 7486 + 9 * s9.toNatClampNeg)]) [(63, .aload 5)] (by decide +kernel) rfl ?_
          refine zr_get (idx := 202) (k := 0) (v := .int (g1 0)) (by decide +kernel) (by decide +kernel) hb27 rfl ?_
          refine zp_seg (pc' := 69) (lv' := [(5, .ref (m + 7486 + 9 * s9.toNatClampNeg)), (0, .ref m), (1, .int op), (2, .int s9), (3, .int v), (4, .int to)]) (st' := [.int 2, .int (g1 0)]) [(68, .iconst 2)] (by decide +kernel) rfl ?_
          refine zp_if (i := .if_icmp .eq 6) (c := (g1 0) = 2) (t := 75) (e := 72) (lv' := [(5, .ref (m + 7486 + 9 * s9.toNatClampNeg)), (0, .ref m), (1, .int op), (2, .int s9), (3, .int v), (4, .int to)]) (st' := []) (by decide +kernel) rfl (fun cc69 => ?_) (fun cc69 => ?_)
          ·
            have f360 := zeqI cc69
            rw [show (2 : Int32).toInt = 2 from by decide] at f360
            exact (hJ75 trivial (by
                  first | exact Or.inl (hK10.symm.trans cc60) | exact Or.inr (hK10.symm.trans cc69))).more (zfa1 rfl (zfa1 rfl (zfa1 rfl (zfa1 rfl (zfa1 rfl (zfa0))))))
          ·
            have f362 := zneI cc69
            rw [show (2 : Int32).toInt = 2 from by decide] at f362
            refine zp_seg (pc' := 74) (lv' := [(5, .ref (m + 7486 + 9 * s9.toNatClampNeg)), (0, .ref m), (1, .int op), (2, .int s9), (3, .int v), (4, .int to)]) (st' := [.int (Int32.ofInt (-3))]) [(72, .bipush (-3))] (by decide +kernel) rfl ?_
            have hoffend : ∀ x, (x < m + 0 ∨ m + 0 + 8322 ≤ x) → w26 x = w x := fun x hx => (heq26 x (zx_X16_change_0 hx))
            have hb363 := hR_m.si hsi26
            have hb364 : zSlo w26 (m + 7486) := hSl0.ag (fun x hx1 hx2 => (heq26 x (zx_X16_change_1 hx1 hx2)))
            have hb365 : zTm w26 (m + 83) := hMd0.ag (fun x hx1 hx2 => (heq26 x (zx_X16_change_2 hx1 hx2)))
            have hb366 : zPil w26 (m + 6316) := hPl0.ag (fun x hx1 hx2 => (heq26 x (zx_X16_change_3 hx1 hx2)))
            have hb367 : zBya w26 (m + 92) 4000 := hBo0.ag (fun x hx1 hx2 => (heq26 x (zx_X16_change_4 hx1 hx2)))
            have hb368 : zBya w26 (m + 93) 4000 := hBl0.ag (fun x hx1 hx2 => (heq26 x (zx_X16_change_5 hx1 hx2)))
            have hb369 : zGr w26 (m + 100) 48 48 := hGa0.ag (fun x hx1 hx2 => (heq26 x (zx_X16_change_6 hx1 hx2)))
            have hb370 : zGr w26 (m + 212) 60 46 := hGb0.ag (fun x hx1 hx2 => (heq26 x (zx_X16_change_7 hx1 hx2)))
            have hb371 : zBd w26 (m + 149) := hBd0.ag (fun x hx1 hx2 => (heq26 x (zx_X16_change_8 hx1 hx2)))
            have hb372 : w26 (m + 94) = some (.inr (0, 60, .inl ff)) := (heq26 (m + 94) (zx_X16_change_9)).trans hAf0
            refine zr_retI (by decide +kernel) rfl ?_
            rw [← hPost]; exact ⟨rfl, _, rfl, hsi26, hoffend, ⟨_, _, hM26, hb363, hb364, hb365, hb366, ⟨_, hb372, hff⟩, hb367, hb368, hb369, hb370, hb371, hI12, hI24, hI29, hI31, hIn⟩, _, rfl, trivial⟩
      ·
        replace cc32 := Classical.not_not.mp cc32
        have f375 := zeqI cc32
        rw [show (10 : Int32).toInt = 10 from by decide] at f375
        refine zp_seg (pc' := 37) (lv' := [(5, .ref (m + 7486 + 9 * s9.toNatClampNeg)), (0, .ref m), (1, .int op), (2, .int s9), (3, .int v), (4, .int to)]) (st' := [.ref m, .ref m]) [(35, .aload_n 0), (36, .aload_n 0)] (by decide +kernel) rfl ?_
        refine zr_get (idx := 453) (k := 21) (v := .ref (m + 83)) (by decide +kernel) (by decide +kernel) hM26 rfl ?_
        refine zp_seg (pc' := 41) (lv' := [(5, .ref (m + 7486 + 9 * s9.toNatClampNeg)), (0, .ref m), (1, .int op), (2, .int s9), (3, .int v), (4, .int to)]) (st' := [.int v, .ref (m + 83), .ref m]) [(40, .iload_n 3)] (by decide +kernel) rfl ?_
        refine zr_callS (idx := 600) (j := 260) (by decide +kernel) (by decide +kernel) (by decide) (show zMe 260 = some zq_X16_rest from rfl) rfl rfl (Nat.le_of_ble_eq_true rfl) rfl rfl (Nat.le_of_ble_eq_true rfl) (Nat.le_of_ble_eq_true rfl) (c_X16_rest (w := w26) v ) (by omega) (fun v41 w41 hp41 => ?_)
        obtain ⟨hpw41, r41, rfl, hr41⟩ := hp41
        replace hpw41 := hpw41.symm
        subst hpw41
        have kr41 := zrng r41
        show zP _ _ _ _ [.int r41, .ref (m + 83), .ref m] _ _ _ _ _
        have hb376 := hR_m.si hsi26
        have hb377 : zTm w26 (m + 83) := hMd0.ag (fun x hx1 hx2 => (heq26 x (zx_X16_change_2 hx1 hx2)))
        refine zr_callV (idx := 292) (j := 305) (by decide +kernel) (by decide +kernel) (show zMe 305 = some zq_X16_number from rfl) rfl rfl (Nat.le_of_ble_eq_true rfl) rfl rfl hM26 (Nat.le_of_ble_eq_true rfl) (Nat.le_of_ble_eq_true rfl) (c_X16_numberM (w := w26) (g3 := Z9_26) m (m + 83) r41 hM26 hb376 hb377 (by first | omega | decide | assumption | exact zr1_1 | exact zr1_0 | fail "num") (by exact hr41.1) (by first | omega | decide | assumption | exact zr1_1 | exact zr1_0 | fail "num") rfl) (by omega) (fun v44 w44 hp44 => ?_)
        obtain ⟨hsi44, heq44, hp44_0, rfl⟩ := hp44
        show zP _ _ _ _ [] _ _ _ _ _
        have hb378 : zSlo w44 (m + 7486) := hSl0.ag (fun x hx1 hx2 => ((heq44 x ⟨(zx_X16_change_47 hx1 hx2), (zx_X16_change_200 hx1 hx2 hgzZ9_26_0)⟩).trans (heq26 x (zx_X16_change_1 hx1 hx2))))
        obtain ⟨kT, hkT⟩ := hb378 to.toNatClampNeg (by omega)
        refine zp_seg (pc' := 50) (lv' := [(5, .ref (m + 7486 + 9 * s9.toNatClampNeg)), (0, .ref m), (1, .int op), (2, .int s9), (3, .int v), (4, .int to)]) (st' := [.int to, .ref m]) [(47, .aload_n 0), (48, .iload 4)] (by decide +kernel) rfl ?_
        have hb379 : w44 m = some (.inl (15, zMo m (zs (zs (zs g 1 Z9_26) 3 Z9_26) 16 Z9_26) r)) := (heq44 m ⟨(zx_X16_change_10), (zx_X16_change_198 hgzZ9_26_0)⟩).trans hM26
        have hb380 := hb376.si hsi44
        refine zr_callV (idx := 558) (j := 338) (by decide +kernel) (by decide +kernel) (show zMe 338 = some zq_X16_keep from rfl) rfl rfl (Nat.le_of_ble_eq_true rfl) rfl rfl hb379 (Nat.le_of_ble_eq_true rfl) (Nat.le_of_ble_eq_true rfl) (c_X16_keep (w := w44) m to hb379 hb380 hp44_0 hkT (by first | omega | decide | assumption | exact zr1_1 | exact zr1_0 | fail "num")) (by omega) (fun v50 w50 hp50 => ?_)
        obtain ⟨hsi50, heq50, hp50_0, r50, rfl, hr50⟩ := hp50
        have kr50 := zrng r50
        show zP _ _ _ _ [.int r50] _ _ _ _ _
        have hSl53 := hSl0.up (w' := w50) to.toNatClampNeg hp50_0 (fun x h1 h2 h3 => ((heq50 x (by omega)).trans ((heq44 x (by omega)).trans (heq26 x (by omega)))))
        have hb381 : w50 m = some (.inl (15, zMo m (zs (zs (zs g 1 Z9_26) 3 Z9_26) 16 Z9_26) r)) := (heq50 m (by omega)).trans hb379
        have hoffend : ∀ x, (x < m + 0 ∨ m + 0 + 8322 ≤ x) → w50 x = w x := fun x hx => ((heq50 x (by omega)).trans ((heq44 x ⟨(zx_X16_change_35 hx), (zx_X16_change_199 hx hgzZ9_26_0)⟩).trans (heq26 x (zx_X16_change_0 hx))))
        have hb382 := hb380.si hsi50
        have hb383 : zTi w50 (m + 83) 1 := hp44_0.ag (fun x hx1 hx2 => (heq50 x (by omega)))
        have hb384 : zPil w50 (m + 6316) := hPl0.ag (fun x hx1 hx2 => ((heq50 x (by omega)).trans ((heq44 x ⟨(zx_X16_change_59 hx1 hx2), (zx_X16_change_201 hx1 hx2 hgzZ9_26_0)⟩).trans (heq26 x (zx_X16_change_3 hx1 hx2)))))
        have hb385 : zBya w50 (m + 92) 4000 := hBo0.ag (fun x hx1 hx2 => ((heq50 x (by omega)).trans ((heq44 x ⟨(zx_X16_change_71 hx1 hx2), (zx_X16_change_202 hx1 hx2 hgzZ9_26_0)⟩).trans (heq26 x (zx_X16_change_4 hx1 hx2)))))
        have hb386 : zBya w50 (m + 93) 4000 := hBl0.ag (fun x hx1 hx2 => ((heq50 x (by omega)).trans ((heq44 x ⟨(zx_X16_change_83 hx1 hx2), (zx_X16_change_203 hx1 hx2 hgzZ9_26_0)⟩).trans (heq26 x (zx_X16_change_5 hx1 hx2)))))
        have hb387 : zGr w50 (m + 100) 48 48 := hGa0.ag (fun x hx1 hx2 => ((heq50 x (by omega)).trans ((heq44 x ⟨(zx_X16_change_95 hx1 hx2), (zx_X16_change_204 hx1 hx2 hgzZ9_26_0)⟩).trans (heq26 x (zx_X16_change_6 hx1 hx2)))))
        have hb388 : zGr w50 (m + 212) 60 46 := hGb0.ag (fun x hx1 hx2 => ((heq50 x (by omega)).trans ((heq44 x ⟨(zx_X16_change_107 hx1 hx2), (zx_X16_change_205 hx1 hx2 hgzZ9_26_0)⟩).trans (heq26 x (zx_X16_change_7 hx1 hx2)))))
        have hb389 : zBd w50 (m + 149) := hBd0.ag (fun x hx1 hx2 => ((heq50 x (by omega)).trans ((heq44 x ⟨(zx_X16_change_119 hx1 hx2), (zx_X16_change_206 hx1 hx2 hgzZ9_26_0)⟩).trans (heq26 x (zx_X16_change_8 hx1 hx2)))))
        have hb390 : w50 (m + 94) = some (.inr (0, 60, .inl ff)) := ((heq50 (m + 94) (by omega)).trans ((heq44 (m + 94) ⟨(zx_X16_change_131), (zx_X16_change_207 hgzZ9_26_0)⟩).trans (heq26 (m + 94) (zx_X16_change_9)))).trans hAf0
        refine zr_retI (by decide +kernel) rfl ?_
        rw [← hPost]; exact ⟨rfl, _, rfl, ((hsi26.tr hsi44).tr hsi50), hoffend, ⟨_, _, hb381, hb382, hSl53, (zTi.m hb383), hb384, ⟨_, hb390, hff⟩, hb385, hb386, hb387, hb388, hb389, hI12, hI24, hI29, hI31, hIn⟩, _, rfl, trivial⟩
    ·
      replace cc12 := Classical.not_not.mp cc12
      have f391 := zeqI cc12
      rw [show (0 : Int32).toInt = 0 from by decide] at f391
      refine zp_seg (pc' := 16) (lv' := [(0, .ref m), (1, .int op), (2, .int s9), (3, .int v), (4, .int to)]) (st' := [.int (Int32.ofInt (-1))]) [(15, .iconst (-1))] (by decide +kernel) rfl ?_
      have hoffend : ∀ x, (x < m + 0 ∨ m + 0 + 8322 ≤ x) → w x = w x := fun x hx => rfl
      refine zr_retI (by decide +kernel) rfl ?_
      rw [← hPost]; exact ⟨rfl, _, rfl, zSI.rf, hoffend, ⟨_, _, hm, hR_m, hSl0, hMd0, hPl0, ⟨_, hAf0, hff⟩, hBo0, hBl0, hGa0, hGb0, hBd0, hI12, hI24, hI29, hI31, hIn⟩, _, rfl, trivial⟩
