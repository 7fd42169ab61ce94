theorem zx_X16_solve_0 {GZ9_53_0 m x : Nat} (h0 : m + 276 + 2 * GZ9_53_0 ≤ x) (h1 : x < m + 276 + 2 * GZ9_53_0 + 2) (h2 : GZ9_53_0 = 0) : x < m ∨ m + 1 ≤ x := by omega
theorem zx_X16_solve_1 {GZ9_53_0 GZ9_53_1 m x : Nat} (h0 : m + 276 + 2 * GZ9_53_0 ≤ x) (h1 : x < m + 276 + 2 * GZ9_53_0 + 2) (h2 : GZ9_53_0 = 0) (h3 : GZ9_53_1 = 1) : x < m + 276 + 2 * GZ9_53_1 ∨ m + 276 + 2 * GZ9_53_1 + 2 ≤ x := by omega
theorem zx_X16_solve_2 {GZ9_53_0 GZ9_53_1 m x : Nat} (h0 : m + 276 + 2 * GZ9_53_1 ≤ x) (h1 : x < m + 276 + 2 * GZ9_53_1 + 2) (h2 : GZ9_53_0 = 0) (h3 : GZ9_53_1 = 1) : x < m + 276 + 2 * GZ9_53_0 ∨ m + 276 + 2 * GZ9_53_0 + 2 ≤ x := by omega
theorem zx_X16_solve_3 {GZ9_53_0 GZ9_53_1 m : Nat} (h0 : GZ9_53_0 = 0) (h1 : GZ9_53_1 = 1) : (m + 276 + 2 * GZ9_53_0) < m + 276 + 2 * GZ9_53_1 ∨ m + 276 + 2 * GZ9_53_1 + 2 ≤ (m + 276 + 2 * GZ9_53_0) := by omega
theorem zx_X16_solve_4 {GZ9_53_0 m : Nat} (h0 : GZ9_53_0 = 0) : m < m + 276 + 2 * GZ9_53_0 ∨ m + 276 + 2 * GZ9_53_0 + 2 ≤ m := by omega
theorem zx_X16_solve_5 {GZ9_53_1 m : Nat} (h0 : GZ9_53_1 = 1) : m < m + 276 + 2 * GZ9_53_1 ∨ m + 276 + 2 * GZ9_53_1 + 2 ≤ m := by omega
theorem zx_X16_solve_6 {m x : Nat} (h0 : x < m + 0 ∨ m + 0 + 8322 ≤ x) : x < m ∨ m + 1 ≤ x := by omega
theorem zx_X16_solve_7 {GZ9_53_0 m x : Nat} (h0 : x < m + 0 ∨ m + 0 + 8322 ≤ x) (h1 : GZ9_53_0 = 0) : x < m + 276 + 2 * GZ9_53_0 ∨ m + 276 + 2 * GZ9_53_0 + 2 ≤ x := by omega
theorem zx_X16_solve_8 {GZ9_53_1 m x : Nat} (h0 : x < m + 0 ∨ m + 0 + 8322 ≤ x) (h1 : GZ9_53_1 = 1) : x < m + 276 + 2 * GZ9_53_1 ∨ m + 276 + 2 * GZ9_53_1 + 2 ≤ x := by omega
theorem zx_X16_solve_9 {m x : Nat} (h0 : m + 7486 ≤ x) (h1 : x < m + 7486 + 108) : x < m ∨ m + 1 ≤ x := by omega
theorem zx_X16_solve_10 {GZ9_53_0 m x : Nat} (h0 : m + 7486 ≤ x) (h1 : x < m + 7486 + 108) (h2 : GZ9_53_0 = 0) : x < m + 276 + 2 * GZ9_53_0 ∨ m + 276 + 2 * GZ9_53_0 + 2 ≤ x := by omega
theorem zx_X16_solve_11 {GZ9_53_1 m x : Nat} (h0 : m + 7486 ≤ x) (h1 : x < m + 7486 + 108) (h2 : GZ9_53_1 = 1) : x < m + 276 + 2 * GZ9_53_1 ∨ m + 276 + 2 * GZ9_53_1 + 2 ≤ x := by omega
theorem zx_X16_solve_12 {m x : Nat} (h0 : m + 83 ≤ x) (h1 : x < m + 83 + 9) : x < m ∨ m + 1 ≤ x := by omega
theorem zx_X16_solve_13 {GZ9_53_0 m x : Nat} (h0 : m + 83 ≤ x) (h1 : x < m + 83 + 9) (h2 : GZ9_53_0 = 0) : x < m + 276 + 2 * GZ9_53_0 ∨ m + 276 + 2 * GZ9_53_0 + 2 ≤ x := by omega
theorem zx_X16_solve_14 {GZ9_53_1 m x : Nat} (h0 : m + 83 ≤ x) (h1 : x < m + 83 + 9) (h2 : GZ9_53_1 = 1) : x < m + 276 + 2 * GZ9_53_1 ∨ m + 276 + 2 * GZ9_53_1 + 2 ≤ x := by omega
theorem zx_X16_solve_15 {m x : Nat} (h0 : m + 6316 ≤ x) (h1 : x < m + 6316 + 1170) : x < m ∨ m + 1 ≤ x := by omega
theorem zx_X16_solve_16 {GZ9_53_0 m x : Nat} (h0 : m + 6316 ≤ x) (h1 : x < m + 6316 + 1170) (h2 : GZ9_53_0 = 0) : x < m + 276 + 2 * GZ9_53_0 ∨ m + 276 + 2 * GZ9_53_0 + 2 ≤ x := by omega
theorem zx_X16_solve_17 {GZ9_53_1 m x : Nat} (h0 : m + 6316 ≤ x) (h1 : x < m + 6316 + 1170) (h2 : GZ9_53_1 = 1) : x < m + 276 + 2 * GZ9_53_1 ∨ m + 276 + 2 * GZ9_53_1 + 2 ≤ x := by omega
theorem zx_X16_solve_18 {m x : Nat} (h0 : m + 92 ≤ x) (h1 : x < m + 92 + 1) : x < m ∨ m + 1 ≤ x := by omega
theorem zx_X16_solve_19 {GZ9_53_0 m x : Nat} (h0 : m + 92 ≤ x) (h1 : x < m + 92 + 1) (h2 : GZ9_53_0 = 0) : x < m + 276 + 2 * GZ9_53_0 ∨ m + 276 + 2 * GZ9_53_0 + 2 ≤ x := by omega
theorem zx_X16_solve_20 {GZ9_53_1 m x : Nat} (h0 : m + 92 ≤ x) (h1 : x < m + 92 + 1) (h2 : GZ9_53_1 = 1) : x < m + 276 + 2 * GZ9_53_1 ∨ m + 276 + 2 * GZ9_53_1 + 2 ≤ x := by omega
theorem zx_X16_solve_21 {m x : Nat} (h0 : m + 93 ≤ x) (h1 : x < m + 93 + 1) : x < m ∨ m + 1 ≤ x := by omega
theorem zx_X16_solve_22 {GZ9_53_0 m x : Nat} (h0 : m + 93 ≤ x) (h1 : x < m + 93 + 1) (h2 : GZ9_53_0 = 0) : x < m + 276 + 2 * GZ9_53_0 ∨ m + 276 + 2 * GZ9_53_0 + 2 ≤ x := by omega
theorem zx_X16_solve_23 {GZ9_53_1 m x : Nat} (h0 : m + 93 ≤ x) (h1 : x < m + 93 + 1) (h2 : GZ9_53_1 = 1) : x < m + 276 + 2 * GZ9_53_1 ∨ m + 276 + 2 * GZ9_53_1 + 2 ≤ x := by omega
theorem zx_X16_solve_24 {m x : Nat} (h0 : m + 100 ≤ x) (h1 : x < m + 100 + 49) : x < m ∨ m + 1 ≤ x := by omega
theorem zx_X16_solve_25 {GZ9_53_0 m x : Nat} (h0 : m + 100 ≤ x) (h1 : x < m + 100 + 49) (h2 : GZ9_53_0 = 0) : x < m + 276 + 2 * GZ9_53_0 ∨ m + 276 + 2 * GZ9_53_0 + 2 ≤ x := by omega
theorem zx_X16_solve_26 {GZ9_53_1 m x : Nat} (h0 : m + 100 ≤ x) (h1 : x < m + 100 + 49) (h2 : GZ9_53_1 = 1) : x < m + 276 + 2 * GZ9_53_1 ∨ m + 276 + 2 * GZ9_53_1 + 2 ≤ x := by omega
theorem zx_X16_solve_27 {m x : Nat} (h0 : m + 212 ≤ x) (h1 : x < m + 212 + 61) : x < m ∨ m + 1 ≤ x := by omega
theorem zx_X16_solve_28 {GZ9_53_0 m x : Nat} (h0 : m + 212 ≤ x) (h1 : x < m + 212 + 61) (h2 : GZ9_53_0 = 0) : x < m + 276 + 2 * GZ9_53_0 ∨ m + 276 + 2 * GZ9_53_0 + 2 ≤ x := by omega
theorem zx_X16_solve_29 {GZ9_53_1 m x : Nat} (h0 : m + 212 ≤ x) (h1 : x < m + 212 + 61) (h2 : GZ9_53_1 = 1) : x < m + 276 + 2 * GZ9_53_1 ∨ m + 276 + 2 * GZ9_53_1 + 2 ≤ x := by omega
theorem zx_X16_solve_30 {m x : Nat} (h0 : m + 149 ≤ x) (h1 : x < m + 149 + 27) : x < m ∨ m + 1 ≤ x := by omega
theorem zx_X16_solve_31 {GZ9_53_0 m x : Nat} (h0 : m + 149 ≤ x) (h1 : x < m + 149 + 27) (h2 : GZ9_53_0 = 0) : x < m + 276 + 2 * GZ9_53_0 ∨ m + 276 + 2 * GZ9_53_0 + 2 ≤ x := by omega
theorem zx_X16_solve_32 {GZ9_53_1 m x : Nat} (h0 : m + 149 ≤ x) (h1 : x < m + 149 + 27) (h2 : GZ9_53_1 = 1) : x < m + 276 + 2 * GZ9_53_1 ∨ m + 276 + 2 * GZ9_53_1 + 2 ≤ x := by omega
theorem zx_X16_solve_33 {m : Nat}  : (m + 94) < m ∨ m + 1 ≤ (m + 94) := by omega
theorem zx_X16_solve_34 {GZ9_53_0 m : Nat} (h0 : GZ9_53_0 = 0) : (m + 94) < m + 276 + 2 * GZ9_53_0 ∨ m + 276 + 2 * GZ9_53_0 + 2 ≤ (m + 94) := by omega
theorem zx_X16_solve_35 {GZ9_53_1 m : Nat} (h0 : GZ9_53_1 = 1) : (m + 94) < m + 276 + 2 * GZ9_53_1 ∨ m + 276 + 2 * GZ9_53_1 + 2 ≤ (m + 94) := by omega
theorem zx_X16_solve_36 {m : Nat}  : m < m + 83 ∨ m + 83 + 9 ≤ m := by omega
theorem zx_X16_solve_37 {GZ9_53_0 m : Nat} (h0 : GZ9_53_0 = 0) : m < m + 596 + 130 * GZ9_53_0 ∨ m + 596 + 130 * GZ9_53_0 + (5720 - 130 * GZ9_53_0) ≤ m := by omega
theorem zx_X16_solve_38 {GZ9_53_0 m x : Nat} (h0 : m + 276 + 2 * GZ9_53_0 ≤ x) (h1 : x < m + 276 + 2 * GZ9_53_0 + 2) (h2 : GZ9_53_0 = 0) : x < m + 83 ∨ m + 83 + 9 ≤ x := by omega
theorem zx_X16_solve_39 {GZ9_53_0 m x : Nat} (h0 : m + 276 + 2 * GZ9_53_0 ≤ x) (h1 : x < m + 276 + 2 * GZ9_53_0 + 2) (h2 : GZ9_53_0 = 0) : x < m + 596 + 130 * GZ9_53_0 ∨ m + 596 + 130 * GZ9_53_0 + (5720 - 130 * GZ9_53_0) ≤ x := by omega
theorem zx_X16_solve_40 {GZ9_53_0 m : Nat} (h0 : GZ9_53_0 = 0) : (m + 276 + 2 * GZ9_53_0) < m + 83 ∨ m + 83 + 9 ≤ (m + 276 + 2 * GZ9_53_0) := by omega
theorem zx_X16_solve_41 {GZ9_53_0 m : Nat} (h0 : GZ9_53_0 = 0) : (m + 276 + 2 * GZ9_53_0) < m + 596 + 130 * GZ9_53_0 ∨ m + 596 + 130 * GZ9_53_0 + (5720 - 130 * GZ9_53_0) ≤ (m + 276 + 2 * GZ9_53_0) := by omega
theorem zx_X16_solve_42 {GZ9_53_1 m x : Nat} (h0 : m + 276 + 2 * GZ9_53_1 ≤ x) (h1 : x < m + 276 + 2 * GZ9_53_1 + 2) (h2 : GZ9_53_1 = 1) : x < m + 83 ∨ m + 83 + 9 ≤ x := by omega
theorem zx_X16_solve_43 {GZ9_53_0 GZ9_53_1 m x : Nat} (h0 : m + 276 + 2 * GZ9_53_1 ≤ x) (h1 : x < m + 276 + 2 * GZ9_53_1 + 2) (h2 : GZ9_53_0 = 0) (h3 : GZ9_53_1 = 1) : x < m + 596 + 130 * GZ9_53_0 ∨ m + 596 + 130 * GZ9_53_0 + (5720 - 130 * GZ9_53_0) ≤ x := by omega
theorem zx_X16_solve_44 {GZ9_53_1 m : Nat} (h0 : GZ9_53_1 = 1) : (m + 276 + 2 * GZ9_53_1) < m + 83 ∨ m + 83 + 9 ≤ (m + 276 + 2 * GZ9_53_1) := by omega
theorem zx_X16_solve_45 {GZ9_53_0 GZ9_53_1 m : Nat} (h0 : GZ9_53_0 = 0) (h1 : GZ9_53_1 = 1) : (m + 276 + 2 * GZ9_53_1) < m + 596 + 130 * GZ9_53_0 ∨ m + 596 + 130 * GZ9_53_0 + (5720 - 130 * GZ9_53_0) ≤ (m + 276 + 2 * GZ9_53_1) := by omega
theorem zx_X16_solve_46 {m : Nat}  : m ≠ m + 83 := by omega
theorem zx_X16_solve_47 {GZ9_53_0 m : Nat} (h0 : GZ9_53_0 = 0) : (m + 83) < m + 276 + 2 * GZ9_53_0 ∨ m + 276 + 2 * GZ9_53_0 + 4 ≤ (m + 83) := by omega
theorem zx_X16_solve_48 {GZ9_53_2 m : Nat} (h0 : GZ9_53_2 = 2) : (m + 83) < m + 276 + 2 * GZ9_53_2 ∨ m + 276 + 2 * GZ9_53_2 + (320 - 2 * GZ9_53_2) ≤ (m + 83) := by omega
theorem zx_X16_solve_49 {m : Nat}  : (m + 83) < m + 275 ∨ m + 275 + 1 ≤ (m + 83) := by omega
theorem zx_X16_solve_50 {m : Nat}  : (m + 83) ≠ m := by omega
theorem zx_X16_solve_51 {m : Nat}  : (m + 83 + 1) ≠ m + 83 := by omega
theorem zx_X16_solve_52 {GZ9_53_0 m : Nat} (h0 : GZ9_53_0 = 0) : (m + 83 + 1) < m + 276 + 2 * GZ9_53_0 ∨ m + 276 + 2 * GZ9_53_0 + 4 ≤ (m + 83 + 1) := by omega
theorem zx_X16_solve_53 {GZ9_53_2 m : Nat} (h0 : GZ9_53_2 = 2) : (m + 83 + 1) < m + 276 + 2 * GZ9_53_2 ∨ m + 276 + 2 * GZ9_53_2 + (320 - 2 * GZ9_53_2) ≤ (m + 83 + 1) := by omega
theorem zx_X16_solve_54 {m : Nat}  : (m + 83 + 1) < m + 275 ∨ m + 275 + 1 ≤ (m + 83 + 1) := by omega
theorem zx_X16_solve_55 {m : Nat}  : (m + 83 + 1) ≠ m := by omega
theorem zx_X16_solve_56 {m : Nat}  : (m + 83 + 2) ≠ m + 83 := by omega
theorem zx_X16_solve_57 {GZ9_53_0 m : Nat} (h0 : GZ9_53_0 = 0) : (m + 83 + 2) < m + 276 + 2 * GZ9_53_0 ∨ m + 276 + 2 * GZ9_53_0 + 4 ≤ (m + 83 + 2) := by omega
theorem zx_X16_solve_58 {GZ9_53_2 m : Nat} (h0 : GZ9_53_2 = 2) : (m + 83 + 2) < m + 276 + 2 * GZ9_53_2 ∨ m + 276 + 2 * GZ9_53_2 + (320 - 2 * GZ9_53_2) ≤ (m + 83 + 2) := by omega
theorem zx_X16_solve_59 {m : Nat}  : (m + 83 + 2) < m + 275 ∨ m + 275 + 1 ≤ (m + 83 + 2) := by omega
theorem zx_X16_solve_60 {m : Nat}  : (m + 83 + 2) ≠ m := by omega
theorem zx_X16_solve_61 {m : Nat}  : (m + 83 + 3) ≠ m + 83 := by omega
theorem zx_X16_solve_62 {GZ9_53_0 m : Nat} (h0 : GZ9_53_0 = 0) : (m + 83 + 3) < m + 276 + 2 * GZ9_53_0 ∨ m + 276 + 2 * GZ9_53_0 + 4 ≤ (m + 83 + 3) := by omega
theorem zx_X16_solve_63 {GZ9_53_2 m : Nat} (h0 : GZ9_53_2 = 2) : (m + 83 + 3) < m + 276 + 2 * GZ9_53_2 ∨ m + 276 + 2 * GZ9_53_2 + (320 - 2 * GZ9_53_2) ≤ (m + 83 + 3) := by omega
theorem zx_X16_solve_64 {m : Nat}  : (m + 83 + 3) < m + 275 ∨ m + 275 + 1 ≤ (m + 83 + 3) := by omega
theorem zx_X16_solve_65 {m : Nat}  : (m + 83 + 3) ≠ m := by omega
theorem zx_X16_solve_66 {m : Nat}  : (m + 83 + 4) ≠ m + 83 := by omega
theorem zx_X16_solve_67 {GZ9_53_0 m : Nat} (h0 : GZ9_53_0 = 0) : (m + 83 + 4) < m + 276 + 2 * GZ9_53_0 ∨ m + 276 + 2 * GZ9_53_0 + 4 ≤ (m + 83 + 4) := by omega
theorem zx_X16_solve_68 {GZ9_53_2 m : Nat} (h0 : GZ9_53_2 = 2) : (m + 83 + 4) < m + 276 + 2 * GZ9_53_2 ∨ m + 276 + 2 * GZ9_53_2 + (320 - 2 * GZ9_53_2) ≤ (m + 83 + 4) := by omega
theorem zx_X16_solve_69 {m : Nat}  : (m + 83 + 4) < m + 275 ∨ m + 275 + 1 ≤ (m + 83 + 4) := by omega
theorem zx_X16_solve_70 {m : Nat}  : (m + 83 + 4) ≠ m := by omega
theorem zx_X16_solve_71 {m : Nat}  : (m + 83 + 5) ≠ m + 83 := by omega
theorem zx_X16_solve_72 {GZ9_53_0 m : Nat} (h0 : GZ9_53_0 = 0) : (m + 83 + 5) < m + 276 + 2 * GZ9_53_0 ∨ m + 276 + 2 * GZ9_53_0 + 4 ≤ (m + 83 + 5) := by omega
theorem zx_X16_solve_73 {GZ9_53_2 m : Nat} (h0 : GZ9_53_2 = 2) : (m + 83 + 5) < m + 276 + 2 * GZ9_53_2 ∨ m + 276 + 2 * GZ9_53_2 + (320 - 2 * GZ9_53_2) ≤ (m + 83 + 5) := by omega
theorem zx_X16_solve_74 {m : Nat}  : (m + 83 + 5) < m + 275 ∨ m + 275 + 1 ≤ (m + 83 + 5) := by omega
theorem zx_X16_solve_75 {m : Nat}  : (m + 83 + 5) ≠ m := by omega
theorem zx_X16_solve_76 {m : Nat}  : (m + 83 + 6) ≠ m + 83 := by omega
theorem zx_X16_solve_77 {GZ9_53_0 m : Nat} (h0 : GZ9_53_0 = 0) : (m + 83 + 6) < m + 276 + 2 * GZ9_53_0 ∨ m + 276 + 2 * GZ9_53_0 + 4 ≤ (m + 83 + 6) := by omega
theorem zx_X16_solve_78 {GZ9_53_2 m : Nat} (h0 : GZ9_53_2 = 2) : (m + 83 + 6) < m + 276 + 2 * GZ9_53_2 ∨ m + 276 + 2 * GZ9_53_2 + (320 - 2 * GZ9_53_2) ≤ (m + 83 + 6) := by omega
theorem zx_X16_solve_79 {m : Nat}  : (m + 83 + 6) < m + 275 ∨ m + 275 + 1 ≤ (m + 83 + 6) := by omega
theorem zx_X16_solve_80 {m : Nat}  : (m + 83 + 6) ≠ m := by omega
theorem zx_X16_solve_81 {m : Nat}  : (m + 83 + 7) ≠ m + 83 := by omega
theorem zx_X16_solve_82 {GZ9_53_0 m : Nat} (h0 : GZ9_53_0 = 0) : (m + 83 + 7) < m + 276 + 2 * GZ9_53_0 ∨ m + 276 + 2 * GZ9_53_0 + 4 ≤ (m + 83 + 7) := by omega
theorem zx_X16_solve_83 {GZ9_53_2 m : Nat} (h0 : GZ9_53_2 = 2) : (m + 83 + 7) < m + 276 + 2 * GZ9_53_2 ∨ m + 276 + 2 * GZ9_53_2 + (320 - 2 * GZ9_53_2) ≤ (m + 83 + 7) := by omega
theorem zx_X16_solve_84 {m : Nat}  : (m + 83 + 7) < m + 275 ∨ m + 275 + 1 ≤ (m + 83 + 7) := by omega
theorem zx_X16_solve_85 {m : Nat}  : (m + 83 + 7) ≠ m := by omega
theorem zx_X16_solve_86 {m : Nat}  : (m + 83 + 8) ≠ m + 83 := by omega
theorem zx_X16_solve_87 {GZ9_53_0 m : Nat} (h0 : GZ9_53_0 = 0) : (m + 83 + 8) < m + 276 + 2 * GZ9_53_0 ∨ m + 276 + 2 * GZ9_53_0 + 4 ≤ (m + 83 + 8) := by omega
theorem zx_X16_solve_88 {GZ9_53_2 m : Nat} (h0 : GZ9_53_2 = 2) : (m + 83 + 8) < m + 276 + 2 * GZ9_53_2 ∨ m + 276 + 2 * GZ9_53_2 + (320 - 2 * GZ9_53_2) ≤ (m + 83 + 8) := by omega
theorem zx_X16_solve_89 {m : Nat}  : (m + 83 + 8) < m + 275 ∨ m + 275 + 1 ≤ (m + 83 + 8) := by omega
theorem zx_X16_solve_90 {m : Nat}  : (m + 83 + 8) ≠ m := by omega
theorem zx_X16_solve_91 {m x : Nat} (h0 : x < m + 0 ∨ m + 0 + 8322 ≤ x) : x < m + 83 ∨ m + 83 + 9 ≤ x := by omega
theorem zx_X16_solve_92 {GZ9_53_0 m x : Nat} (h0 : x < m + 0 ∨ m + 0 + 8322 ≤ x) (h1 : GZ9_53_0 = 0) : x < m + 596 + 130 * GZ9_53_0 ∨ m + 596 + 130 * GZ9_53_0 + (5720 - 130 * GZ9_53_0) ≤ x := by omega
theorem zx_X16_solve_93 {m x : Nat} (h0 : x < m + 0 ∨ m + 0 + 8322 ≤ x) : x ≠ m + 83 := by omega
theorem zx_X16_solve_94 {GZ9_53_0 m x : Nat} (h0 : x < m + 0 ∨ m + 0 + 8322 ≤ x) (h1 : GZ9_53_0 = 0) : x < m + 276 + 2 * GZ9_53_0 ∨ m + 276 + 2 * GZ9_53_0 + 4 ≤ x := by omega
theorem zx_X16_solve_95 {GZ9_53_2 m x : Nat} (h0 : x < m + 0 ∨ m + 0 + 8322 ≤ x) (h1 : GZ9_53_2 = 2) : x < m + 276 + 2 * GZ9_53_2 ∨ m + 276 + 2 * GZ9_53_2 + (320 - 2 * GZ9_53_2) ≤ x := by omega
theorem zx_X16_solve_96 {m x : Nat} (h0 : x < m + 0 ∨ m + 0 + 8322 ≤ x) : x < m + 275 ∨ m + 275 + 1 ≤ x := by omega
theorem zx_X16_solve_97 {m x : Nat} (h0 : x < m + 0 ∨ m + 0 + 8322 ≤ x) : x ≠ m := by omega
theorem zx_X16_solve_98 {m x : Nat} (h0 : m + 7486 ≤ x) (h1 : x < m + 7486 + 108) : x < m + 83 ∨ m + 83 + 9 ≤ x := by omega
theorem zx_X16_solve_99 {GZ9_53_0 m x : Nat} (h0 : m + 7486 ≤ x) (h1 : x < m + 7486 + 108) (h2 : GZ9_53_0 = 0) : x < m + 596 + 130 * GZ9_53_0 ∨ m + 596 + 130 * GZ9_53_0 + (5720 - 130 * GZ9_53_0) ≤ x := by omega
theorem zx_X16_solve_100 {m x : Nat} (h0 : m + 7486 ≤ x) (h1 : x < m + 7486 + 108) : x ≠ m + 83 := by omega
theorem zx_X16_solve_101 {GZ9_53_0 m x : Nat} (h0 : m + 7486 ≤ x) (h1 : x < m + 7486 + 108) (h2 : GZ9_53_0 = 0) : x < m + 276 + 2 * GZ9_53_0 ∨ m + 276 + 2 * GZ9_53_0 + 4 ≤ x := by omega
theorem zx_X16_solve_102 {GZ9_53_2 m x : Nat} (h0 : m + 7486 ≤ x) (h1 : x < m + 7486 + 108) (h2 : GZ9_53_2 = 2) : x < m + 276 + 2 * GZ9_53_2 ∨ m + 276 + 2 * GZ9_53_2 + (320 - 2 * GZ9_53_2) ≤ x := by omega
theorem zx_X16_solve_103 {m x : Nat} (h0 : m + 7486 ≤ x) (h1 : x < m + 7486 + 108) : x < m + 275 ∨ m + 275 + 1 ≤ x := by omega
theorem zx_X16_solve_104 {m x : Nat} (h0 : m + 7486 ≤ x) (h1 : x < m + 7486 + 108) : x ≠ m := by omega
theorem zx_X16_solve_105 {m x : Nat} (h0 : m + 6316 ≤ x) (h1 : x < m + 6316 + 1170) : x < m + 83 ∨ m + 83 + 9 ≤ x := by omega
theorem zx_X16_solve_106 {GZ9_53_0 m x : Nat} (h0 : m + 6316 ≤ x) (h1 : x < m + 6316 + 1170) (h2 : GZ9_53_0 = 0) : x < m + 596 + 130 * GZ9_53_0 ∨ m + 596 + 130 * GZ9_53_0 + (5720 - 130 * GZ9_53_0) ≤ x := by omega
theorem zx_X16_solve_107 {m x : Nat} (h0 : m + 6316 ≤ x) (h1 : x < m + 6316 + 1170) : x ≠ m + 83 := by omega
theorem zx_X16_solve_108 {GZ9_53_0 m x : Nat} (h0 : m + 6316 ≤ x) (h1 : x < m + 6316 + 1170) (h2 : GZ9_53_0 = 0) : x < m + 276 + 2 * GZ9_53_0 ∨ m + 276 + 2 * GZ9_53_0 + 4 ≤ x := by omega
theorem zx_X16_solve_109 {GZ9_53_2 m x : Nat} (h0 : m + 6316 ≤ x) (h1 : x < m + 6316 + 1170) (h2 : GZ9_53_2 = 2) : x < m + 276 + 2 * GZ9_53_2 ∨ m + 276 + 2 * GZ9_53_2 + (320 - 2 * GZ9_53_2) ≤ x := by omega
theorem zx_X16_solve_110 {m x : Nat} (h0 : m + 6316 ≤ x) (h1 : x < m + 6316 + 1170) : x < m + 275 ∨ m + 275 + 1 ≤ x := by omega
theorem zx_X16_solve_111 {m x : Nat} (h0 : m + 6316 ≤ x) (h1 : x < m + 6316 + 1170) : x ≠ m := by omega
theorem zx_X16_solve_112 {m x : Nat} (h0 : m + 92 ≤ x) (h1 : x < m + 92 + 1) : x < m + 83 ∨ m + 83 + 9 ≤ x := by omega
theorem zx_X16_solve_113 {GZ9_53_0 m x : Nat} (h0 : m + 92 ≤ x) (h1 : x < m + 92 + 1) (h2 : GZ9_53_0 = 0) : x < m + 596 + 130 * GZ9_53_0 ∨ m + 596 + 130 * GZ9_53_0 + (5720 - 130 * GZ9_53_0) ≤ x := by omega
theorem zx_X16_solve_114 {m x : Nat} (h0 : m + 92 ≤ x) (h1 : x < m + 92 + 1) : x ≠ m + 83 := by omega
theorem zx_X16_solve_115 {GZ9_53_0 m x : Nat} (h0 : m + 92 ≤ x) (h1 : x < m + 92 + 1) (h2 : GZ9_53_0 = 0) : x < m + 276 + 2 * GZ9_53_0 ∨ m + 276 + 2 * GZ9_53_0 + 4 ≤ x := by omega
theorem zx_X16_solve_116 {GZ9_53_2 m x : Nat} (h0 : m + 92 ≤ x) (h1 : x < m + 92 + 1) (h2 : GZ9_53_2 = 2) : x < m + 276 + 2 * GZ9_53_2 ∨ m + 276 + 2 * GZ9_53_2 + (320 - 2 * GZ9_53_2) ≤ x := by omega
theorem zx_X16_solve_117 {m x : Nat} (h0 : m + 92 ≤ x) (h1 : x < m + 92 + 1) : x < m + 275 ∨ m + 275 + 1 ≤ x := by omega
theorem zx_X16_solve_118 {m x : Nat} (h0 : m + 92 ≤ x) (h1 : x < m + 92 + 1) : x ≠ m := by omega
theorem zx_X16_solve_119 {m x : Nat} (h0 : m + 93 ≤ x) (h1 : x < m + 93 + 1) : x < m + 83 ∨ m + 83 + 9 ≤ x := by omega
theorem zx_X16_solve_120 {GZ9_53_0 m x : Nat} (h0 : m + 93 ≤ x) (h1 : x < m + 93 + 1) (h2 : GZ9_53_0 = 0) : x < m + 596 + 130 * GZ9_53_0 ∨ m + 596 + 130 * GZ9_53_0 + (5720 - 130 * GZ9_53_0) ≤ x := by omega
theorem zx_X16_solve_121 {m x : Nat} (h0 : m + 93 ≤ x) (h1 : x < m + 93 + 1) : x ≠ m + 83 := by omega
theorem zx_X16_solve_122 {GZ9_53_0 m x : Nat} (h0 : m + 93 ≤ x) (h1 : x < m + 93 + 1) (h2 : GZ9_53_0 = 0) : x < m + 276 + 2 * GZ9_53_0 ∨ m + 276 + 2 * GZ9_53_0 + 4 ≤ x := by omega
theorem zx_X16_solve_123 {GZ9_53_2 m x : Nat} (h0 : m + 93 ≤ x) (h1 : x < m + 93 + 1) (h2 : GZ9_53_2 = 2) : x < m + 276 + 2 * GZ9_53_2 ∨ m + 276 + 2 * GZ9_53_2 + (320 - 2 * GZ9_53_2) ≤ x := by omega
theorem zx_X16_solve_124 {m x : Nat} (h0 : m + 93 ≤ x) (h1 : x < m + 93 + 1) : x < m + 275 ∨ m + 275 + 1 ≤ x := by omega
theorem zx_X16_solve_125 {m x : Nat} (h0 : m + 93 ≤ x) (h1 : x < m + 93 + 1) : x ≠ m := by omega
theorem zx_X16_solve_126 {m x : Nat} (h0 : m + 100 ≤ x) (h1 : x < m + 100 + 49) : x < m + 83 ∨ m + 83 + 9 ≤ x := by omega
theorem zx_X16_solve_127 {GZ9_53_0 m x : Nat} (h0 : m + 100 ≤ x) (h1 : x < m + 100 + 49) (h2 : GZ9_53_0 = 0) : x < m + 596 + 130 * GZ9_53_0 ∨ m + 596 + 130 * GZ9_53_0 + (5720 - 130 * GZ9_53_0) ≤ x := by omega
theorem zx_X16_solve_128 {m x : Nat} (h0 : m + 100 ≤ x) (h1 : x < m + 100 + 49) : x ≠ m + 83 := by omega
theorem zx_X16_solve_129 {GZ9_53_0 m x : Nat} (h0 : m + 100 ≤ x) (h1 : x < m + 100 + 49) (h2 : GZ9_53_0 = 0) : x < m + 276 + 2 * GZ9_53_0 ∨ m + 276 + 2 * GZ9_53_0 + 4 ≤ x := by omega
theorem zx_X16_solve_130 {GZ9_53_2 m x : Nat} (h0 : m + 100 ≤ x) (h1 : x < m + 100 + 49) (h2 : GZ9_53_2 = 2) : x < m + 276 + 2 * GZ9_53_2 ∨ m + 276 + 2 * GZ9_53_2 + (320 - 2 * GZ9_53_2) ≤ x := by omega
theorem zx_X16_solve_131 {m x : Nat} (h0 : m + 100 ≤ x) (h1 : x < m + 100 + 49) : x < m + 275 ∨ m + 275 + 1 ≤ x := by omega
theorem zx_X16_solve_132 {m x : Nat} (h0 : m + 100 ≤ x) (h1 : x < m + 100 + 49) : x ≠ m := by omega
theorem zx_X16_solve_133 {m x : Nat} (h0 : m + 212 ≤ x) (h1 : x < m + 212 + 61) : x < m + 83 ∨ m + 83 + 9 ≤ x := by omega
theorem zx_X16_solve_134 {GZ9_53_0 m x : Nat} (h0 : m + 212 ≤ x) (h1 : x < m + 212 + 61) (h2 : GZ9_53_0 = 0) : x < m + 596 + 130 * GZ9_53_0 ∨ m + 596 + 130 * GZ9_53_0 + (5720 - 130 * GZ9_53_0) ≤ x := by omega
theorem zx_X16_solve_135 {m x : Nat} (h0 : m + 212 ≤ x) (h1 : x < m + 212 + 61) : x ≠ m + 83 := by omega
theorem zx_X16_solve_136 {GZ9_53_0 m x : Nat} (h0 : m + 212 ≤ x) (h1 : x < m + 212 + 61) (h2 : GZ9_53_0 = 0) : x < m + 276 + 2 * GZ9_53_0 ∨ m + 276 + 2 * GZ9_53_0 + 4 ≤ x := by omega
theorem zx_X16_solve_137 {GZ9_53_2 m x : Nat} (h0 : m + 212 ≤ x) (h1 : x < m + 212 + 61) (h2 : GZ9_53_2 = 2) : x < m + 276 + 2 * GZ9_53_2 ∨ m + 276 + 2 * GZ9_53_2 + (320 - 2 * GZ9_53_2) ≤ x := by omega
theorem zx_X16_solve_138 {m x : Nat} (h0 : m + 212 ≤ x) (h1 : x < m + 212 + 61) : x < m + 275 ∨ m + 275 + 1 ≤ x := by omega
theorem zx_X16_solve_139 {m x : Nat} (h0 : m + 212 ≤ x) (h1 : x < m + 212 + 61) : x ≠ m := by omega
theorem zx_X16_solve_140 {m x : Nat} (h0 : m + 149 ≤ x) (h1 : x < m + 149 + 27) : x < m + 83 ∨ m + 83 + 9 ≤ x := by omega
theorem zx_X16_solve_141 {GZ9_53_0 m x : Nat} (h0 : m + 149 ≤ x) (h1 : x < m + 149 + 27) (h2 : GZ9_53_0 = 0) : x < m + 596 + 130 * GZ9_53_0 ∨ m + 596 + 130 * GZ9_53_0 + (5720 - 130 * GZ9_53_0) ≤ x := by omega
theorem zx_X16_solve_142 {m x : Nat} (h0 : m + 149 ≤ x) (h1 : x < m + 149 + 27) : x ≠ m + 83 := by omega
theorem zx_X16_solve_143 {GZ9_53_0 m x : Nat} (h0 : m + 149 ≤ x) (h1 : x < m + 149 + 27) (h2 : GZ9_53_0 = 0) : x < m + 276 + 2 * GZ9_53_0 ∨ m + 276 + 2 * GZ9_53_0 + 4 ≤ x := by omega
theorem zx_X16_solve_144 {GZ9_53_2 m x : Nat} (h0 : m + 149 ≤ x) (h1 : x < m + 149 + 27) (h2 : GZ9_53_2 = 2) : x < m + 276 + 2 * GZ9_53_2 ∨ m + 276 + 2 * GZ9_53_2 + (320 - 2 * GZ9_53_2) ≤ x := by omega
theorem zx_X16_solve_145 {m x : Nat} (h0 : m + 149 ≤ x) (h1 : x < m + 149 + 27) : x < m + 275 ∨ m + 275 + 1 ≤ x := by omega
theorem zx_X16_solve_146 {m x : Nat} (h0 : m + 149 ≤ x) (h1 : x < m + 149 + 27) : x ≠ m := by omega
theorem zx_X16_solve_147 {m : Nat}  : (m + 94) < m + 83 ∨ m + 83 + 9 ≤ (m + 94) := by omega
theorem zx_X16_solve_148 {GZ9_53_0 m : Nat} (h0 : GZ9_53_0 = 0) : (m + 94) < m + 596 + 130 * GZ9_53_0 ∨ m + 596 + 130 * GZ9_53_0 + (5720 - 130 * GZ9_53_0) ≤ (m + 94) := by omega
theorem zx_X16_solve_149 {m : Nat}  : (m + 94) ≠ m + 83 := by omega
theorem zx_X16_solve_150 {GZ9_53_0 m : Nat} (h0 : GZ9_53_0 = 0) : (m + 94) < m + 276 + 2 * GZ9_53_0 ∨ m + 276 + 2 * GZ9_53_0 + 4 ≤ (m + 94) := by omega
theorem zx_X16_solve_151 {GZ9_53_2 m : Nat} (h0 : GZ9_53_2 = 2) : (m + 94) < m + 276 + 2 * GZ9_53_2 ∨ m + 276 + 2 * GZ9_53_2 + (320 - 2 * GZ9_53_2) ≤ (m + 94) := by omega
theorem zx_X16_solve_152 {m : Nat}  : (m + 94) < m + 275 ∨ m + 275 + 1 ≤ (m + 94) := by omega
theorem zx_X16_solve_153 {m : Nat}  : (m + 94) ≠ m := by omega
theorem zx_X16_solve_154 {m : Nat}  : (m + 83 + 1) < m + 83 ∨ m + 83 + 1 ≤ (m + 83 + 1) := by omega
theorem zx_X16_solve_155 {m : Nat}  : (m + 83 + 1) < m + 83 + 3 ∨ m + 83 + 3 + 4 ≤ (m + 83 + 1) := by omega
theorem zx_X16_solve_156 {m : Nat}  : (m + 83 + 2) < m + 83 ∨ m + 83 + 1 ≤ (m + 83 + 2) := by omega
theorem zx_X16_solve_157 {m : Nat}  : (m + 83 + 2) < m + 83 + 3 ∨ m + 83 + 3 + 4 ≤ (m + 83 + 2) := by omega
theorem zx_X16_solve_158 {m : Nat}  : (m + 83 + 3) < m + 83 ∨ m + 83 + 1 ≤ (m + 83 + 3) := by omega
theorem zx_X16_solve_159 {m : Nat}  : (m + 83 + 4) < m + 83 ∨ m + 83 + 1 ≤ (m + 83 + 4) := by omega
theorem zx_X16_solve_160 {m : Nat}  : (m + 83 + 5) < m + 83 ∨ m + 83 + 1 ≤ (m + 83 + 5) := by omega
theorem zx_X16_solve_161 {m : Nat}  : (m + 83 + 6) < m + 83 ∨ m + 83 + 1 ≤ (m + 83 + 6) := by omega
theorem zx_X16_solve_162 {m : Nat}  : (m + 83 + 7) < m + 83 ∨ m + 83 + 1 ≤ (m + 83 + 7) := by omega
theorem zx_X16_solve_163 {m : Nat}  : (m + 83 + 7) < m + 83 + 3 ∨ m + 83 + 3 + 4 ≤ (m + 83 + 7) := by omega
theorem zx_X16_solve_164 {m : Nat}  : (m + 83 + 8) < m + 83 ∨ m + 83 + 1 ≤ (m + 83 + 8) := by omega
theorem zx_X16_solve_165 {m : Nat}  : (m + 83 + 8) < m + 83 + 3 ∨ m + 83 + 3 + 4 ≤ (m + 83 + 8) := by omega
theorem zx_X16_solve_166 {m x : Nat} (h0 : m + 7486 ≤ x) (h1 : x < m + 7486 + 108) : x < m + 83 ∨ m + 83 + 1 ≤ x := by omega
theorem zx_X16_solve_167 {m x : Nat} (h0 : m + 7486 ≤ x) (h1 : x < m + 7486 + 108) : x < m + 83 + 3 ∨ m + 83 + 3 + 4 ≤ x := by omega
theorem zx_X16_solve_168 {m : Nat}  : m < m + 83 ∨ m + 83 + 1 ≤ m := by omega
theorem zx_X16_solve_169 {m x : Nat} (h0 : x < m + 0 ∨ m + 0 + 8322 ≤ x) : x < m + 83 ∨ m + 83 + 1 ≤ x := by omega
theorem zx_X16_solve_170 {m x : Nat} (h0 : x < m + 0 ∨ m + 0 + 8322 ≤ x) : x < m + 83 + 3 ∨ m + 83 + 3 + 4 ≤ x := by omega
theorem zx_X16_solve_171 {m x : Nat} (h0 : m + 6316 ≤ x) (h1 : x < m + 6316 + 1170) : x < m + 83 ∨ m + 83 + 1 ≤ x := by omega
theorem zx_X16_solve_172 {m x : Nat} (h0 : m + 6316 ≤ x) (h1 : x < m + 6316 + 1170) : x < m + 83 + 3 ∨ m + 83 + 3 + 4 ≤ x := by omega
theorem zx_X16_solve_173 {m x : Nat} (h0 : m + 92 ≤ x) (h1 : x < m + 92 + 1) : x < m + 83 ∨ m + 83 + 1 ≤ x := by omega
theorem zx_X16_solve_174 {m x : Nat} (h0 : m + 92 ≤ x) (h1 : x < m + 92 + 1) : x < m + 83 + 3 ∨ m + 83 + 3 + 4 ≤ x := by omega
theorem zx_X16_solve_175 {m x : Nat} (h0 : m + 93 ≤ x) (h1 : x < m + 93 + 1) : x < m + 83 ∨ m + 83 + 1 ≤ x := by omega
theorem zx_X16_solve_176 {m x : Nat} (h0 : m + 93 ≤ x) (h1 : x < m + 93 + 1) : x < m + 83 + 3 ∨ m + 83 + 3 + 4 ≤ x := by omega
theorem zx_X16_solve_177 {m x : Nat} (h0 : m + 100 ≤ x) (h1 : x < m + 100 + 49) : x < m + 83 ∨ m + 83 + 1 ≤ x := by omega
theorem zx_X16_solve_178 {m x : Nat} (h0 : m + 100 ≤ x) (h1 : x < m + 100 + 49) : x < m + 83 + 3 ∨ m + 83 + 3 + 4 ≤ x := by omega
theorem zx_X16_solve_179 {m x : Nat} (h0 : m + 212 ≤ x) (h1 : x < m + 212 + 61) : x < m + 83 ∨ m + 83 + 1 ≤ x := by omega
theorem zx_X16_solve_180 {m x : Nat} (h0 : m + 212 ≤ x) (h1 : x < m + 212 + 61) : x < m + 83 + 3 ∨ m + 83 + 3 + 4 ≤ x := by omega
theorem zx_X16_solve_181 {m x : Nat} (h0 : m + 149 ≤ x) (h1 : x < m + 149 + 27) : x < m + 83 ∨ m + 83 + 1 ≤ x := by omega
theorem zx_X16_solve_182 {m x : Nat} (h0 : m + 149 ≤ x) (h1 : x < m + 149 + 27) : x < m + 83 + 3 ∨ m + 83 + 3 + 4 ≤ x := by omega
theorem zx_X16_solve_183 {m : Nat}  : (m + 94) < m + 83 ∨ m + 83 + 1 ≤ (m + 94) := by omega
theorem zx_X16_solve_184 {m : Nat}  : (m + 94) < m + 83 + 3 ∨ m + 83 + 3 + 4 ≤ (m + 94) := by omega
theorem zx_X16_solve_185 {m : Nat}  : (m + 275) < m + 83 ∨ m + 83 + 1 ≤ (m + 275) := by omega
theorem zx_X16_solve_186 {m : Nat}  : (m + 275) < m + 83 + 3 ∨ m + 83 + 3 + 4 ≤ (m + 275) := by omega
theorem zx_X16_solve_187 {m : Nat}  : (m + 275) ≠ m := by omega
theorem zx_X16_solve_188 {m : Nat}  : m < m + 83 + 3 ∨ m + 83 + 3 + 4 ≤ m := by omega
theorem zx_X16_solve_189 {GZ9_53_1 m x : Nat} (h0 : m + 276 + 2 * GZ9_53_1 ≤ x) (h1 : x < m + 276 + 2 * GZ9_53_1 + 2) (h2 : GZ9_53_1 = 1) : x < m ∨ m + 1 ≤ x := by omega
theorem zx_X16_solve_190 {GZ9_53_1 GZ9_53_2 m x : Nat} (h0 : m + 276 + 2 * GZ9_53_1 ≤ x) (h1 : x < m + 276 + 2 * GZ9_53_1 + 2) (h2 : GZ9_53_1 = 1) (h3 : GZ9_53_2 = 2) : x < m + 276 + 2 * GZ9_53_2 ∨ m + 276 + 2 * GZ9_53_2 + (320 - 2 * GZ9_53_2) ≤ x := by omega
theorem zx_X16_solve_191 {m : Nat}  : (m + 275) < m ∨ m + 1 ≤ (m + 275) := by omega
theorem zx_X16_solve_192 {GZ9_53_0 m : Nat} (h0 : GZ9_53_0 = 0) : (m + 275) < m + 276 + 2 * GZ9_53_0 ∨ m + 276 + 2 * GZ9_53_0 + 2 ≤ (m + 275) := by omega
theorem zx_X16_solve_193 {GZ9_53_2 m : Nat} (h0 : GZ9_53_2 = 2) : (m + 275) < m + 276 + 2 * GZ9_53_2 ∨ m + 276 + 2 * GZ9_53_2 + (320 - 2 * GZ9_53_2) ≤ (m + 275) := by omega
theorem zx_X16_solve_194 {GZ9_53_1 m : Nat} (h0 : GZ9_53_1 = 1) : (m + 275) < m + 276 + 2 * GZ9_53_1 ∨ m + 276 + 2 * GZ9_53_1 + 2 ≤ (m + 275) := by omega
theorem zx_X16_solve_195 {m x : Nat} (h0 : x ≠ m) : x < m ∨ m + 1 ≤ x := by omega
theorem zx_X16_solve_196 {GZ9_53_0 GZ9_53_2 m x : Nat} (h0 : x < m + 276 + 2 * GZ9_53_0 ∨ m + 276 + 2 * GZ9_53_0 + 4 ≤ x) (h1 : x < m + 276 + 2 * GZ9_53_2 ∨ m + 276 + 2 * GZ9_53_2 + (320 - 2 * GZ9_53_2) ≤ x) (h2 : GZ9_53_0 = 0) (h3 : GZ9_53_2 = 2) : x < m + 276 + 2 * GZ9_53_0 ∨ m + 276 + 2 * GZ9_53_0 + 2 ≤ x := by omega
theorem zx_X16_solve_197 {GZ9_53_0 GZ9_53_1 GZ9_53_2 m x : Nat} (h0 : x < m + 276 + 2 * GZ9_53_0 ∨ m + 276 + 2 * GZ9_53_0 + 4 ≤ x) (h1 : x < m + 276 + 2 * GZ9_53_2 ∨ m + 276 + 2 * GZ9_53_2 + (320 - 2 * GZ9_53_2) ≤ x) (h2 : GZ9_53_0 = 0) (h3 : GZ9_53_1 = 1) (h4 : GZ9_53_2 = 2) : x < m + 276 + 2 * GZ9_53_1 ∨ m + 276 + 2 * GZ9_53_1 + 2 ≤ x := by omega
theorem zx_X16_solve_198 {m x : Nat} (h0 : x < m + 275 ∨ m + 275 + 1 ≤ x) : x ≠ m + 275 := by omega
theorem zx_X16_solve_199 {GZ9_53_0 GZ9_53_2 m x : Nat} (h0 : m + 276 + 2 * GZ9_53_0 ≤ x) (h1 : x < m + 276 + 2 * GZ9_53_0 + 2) (h2 : GZ9_53_0 = 0) (h3 : GZ9_53_2 = 2) : x < m + 276 + 2 * GZ9_53_2 ∨ m + 276 + 2 * GZ9_53_2 + (320 - 2 * GZ9_53_2) ≤ x := by omega
theorem zx_X16_solve_200 {GZ9_53_0 m x : Nat} (h0 : m + 276 + 2 * GZ9_53_0 ≤ x) (h1 : x < m + 276 + 2 * GZ9_53_0 + 2) (h2 : GZ9_53_0 = 0) : x ≠ m + 275 := by omega
theorem zx_X16_solve_201 {GZ9_53_1 m x : Nat} (h0 : m + 276 + 2 * GZ9_53_1 ≤ x) (h1 : x < m + 276 + 2 * GZ9_53_1 + 2) (h2 : GZ9_53_1 = 1) : x ≠ m + 275 := by omega
theorem zx_X16_solve_202 {m : Nat}  : m ≠ m + 275 := by omega
theorem zx_X16_solve_203 {GZ9_53_0 m x : Nat} (h0 : m + 276 + 2 * GZ9_53_0 ≤ x) (h1 : x < m + 276 + 2 * GZ9_53_0 + 2) (h2 : GZ9_53_0 = 0) : x ≠ m + 83 := by omega
theorem zx_X16_solve_204 {GZ9_53_1 m x : Nat} (h0 : m + 276 + 2 * GZ9_53_1 ≤ x) (h1 : x < m + 276 + 2 * GZ9_53_1 + 2) (h2 : GZ9_53_1 = 1) : x ≠ m + 83 := by omega
set_option maxHeartbeats 8000000 in
set_option maxRecDepth 100000 in
theorem c_X16_solve {w : zM} {n9 : Int32} (m : Nat) (s9 : Int32) (to : Int32) (hI : zInv w m n9) : zCon 5 zq_X16_solve [.ref m, .int s9, .int to] w (fun v9 w9' => zSI w w9' ∧ (∀ x, (x < m + 0 ∨ m + 0 + 8322 ≤ x) → w9' x = w x) ∧ zInv w9' m n9 ∧ ∃ r9 : Int32, v9 = some (.int r9) ∧ True) := by
  intro d sz hd
  obtain ⟨d, rfl⟩ : ∃ d9, d = d9 + 1 := ⟨d - 1, by omega⟩
  generalize hPost : (fun (r9' : Option (Option Value)) (w9' : zM) (z9 : Nat) => z9 = sz ∧ ∃ v9, r9' = some v9 ∧ (zSI w w9' ∧ (∀ x, (x < m + 0 ∨ m + 0 + 8322 ≤ x) → w9' x = w x) ∧ zInv w9' m n9 ∧ ∃ r9 : Int32, v9 = some (.int r9) ∧ True)) = Post
  show zP (d + 1) zq_X16_solve 0 [(0, .ref m), (1, .int s9), (2, .int to)] [] w sz 0 0 Post
  have k1 := zrng s9
  have k2 := zrng to
  obtain ⟨g, r, hm, hR_m, hSl0, hMd0, hPl0, ⟨ff, hAf0, hff⟩, hBo0, hBl0, hGa0, hGb0, hBd0, hI12, hI24, hI29, hI31, hIn⟩ := hI
  have k3 := zrng (g 12)
  have hz4 : ((g 12).toNatClampNeg : Int) = (g 12).toInt := znat (by first | omega | decide)
  have k5 := zrng (g 24)
  have hz6 : ((g 24).toNatClampNeg : Int) = (g 24).toInt := znat (by first | omega | decide)
  have k7 := zrng (g 29)
  have hz8 : ((g 29).toNatClampNeg : Int) = (g 29).toInt := znat (by first | omega | decide)
  have k9 := zrng (g 31)
  have hz10 : ((g 31).toNatClampNeg : Int) = (g 31).toInt := znat (by first | omega | decide)
  refine zp_seg (pc' := 1) (lv' := [(0, .ref m), (1, .int s9), (2, .int to)]) (st' := [.int s9]) [(0, .iload_n 1)] (by decide +kernel) rfl ?_
  refine zr_callS (idx := 551) (j := 336) (by decide +kernel) (by decide +kernel) (by decide) (show zMe 336 = some zq_X16_isSlot from rfl) rfl rfl (Nat.le_of_ble_eq_true rfl) rfl rfl (Nat.le_of_ble_eq_true rfl) (Nat.le_of_ble_eq_true rfl) (c_X16_isSlot (w := w) s9 ) (by omega) (fun v1 w1 hp1 => ?_)
  obtain ⟨hpw1, r1, rfl, hrb1, hr1⟩ := hp1
  replace hpw1 := hpw1.symm
  subst hpw1
  have kr1 := zrng r1
  show zP _ _ _ _ [.int r1] _ _ _ _ _
  refine zp_if (i := .ifCond .eq 10) (c := r1 = 0) (t := 14) (e := 7) (lv' := [(0, .ref m), (1, .int s9), (2, .int to)]) (st' := []) (by decide +kernel) rfl (fun cc4 => ?_) (fun cc4 => ?_)
  ·
    have f12 := zeqI cc4
    rw [show (0 : Int32).toInt = 0 from by decide] at f12
    refine zp_seg (pc' := 15) (lv' := [(0, .ref m), (1, .int s9), (2, .int to)]) (st' := [.int (Int32.ofInt (-1))]) [(14, .iconst (-1))] (by decide +kernel) rfl ?_
    have hoffend : ∀ x, (x < m + 0 ∨ m + 0 + 8322 ≤ x) → w x = w x := fun x hx => rfl
    refine zr_retI (by decide +kernel) rfl ?_
    rw [← hPost]; exact ⟨rfl, _, rfl, zSI.rf, hoffend, ⟨_, _, hm, hR_m, hSl0, hMd0, hPl0, ⟨_, hAf0, hff⟩, hBo0, hBl0, hGa0, hGb0, hBd0, hI12, hI24, hI29, hI31, hIn⟩, _, rfl, trivial⟩
  ·
    have f15 := zneI cc4
    rw [show (0 : Int32).toInt = 0 from by decide] at f15
    refine zp_seg (pc' := 8) (lv' := [(0, .ref m), (1, .int s9), (2, .int to)]) (st' := [.int to]) [(7, .iload_n 2)] (by decide +kernel) rfl ?_
    refine zr_callS (idx := 551) (j := 336) (by decide +kernel) (by decide +kernel) (by decide) (show zMe 336 = some zq_X16_isSlot from rfl) rfl rfl (Nat.le_of_ble_eq_true rfl) rfl rfl (Nat.le_of_ble_eq_true rfl) (Nat.le_of_ble_eq_true rfl) (c_X16_isSlot (w := w) to ) (by omega) (fun v8 w8 hp8 => ?_)
    obtain ⟨hpw8, r8, rfl, hrb8, hr8⟩ := hp8
    replace hpw8 := hpw8.symm
    subst hpw8
    have kr8 := zrng r8
    show zP _ _ _ _ [.int r8] _ _ _ _ _
    refine zp_if (i := .ifCond .ne 5) (c := ¬ r8 = 0) (t := 16) (e := 14) (lv' := [(0, .ref m), (1, .int s9), (2, .int to)]) (st' := []) (by decide +kernel) rfl (fun cc11 => ?_) (fun cc11 => ?_)
    ·
      have f16 := zneI cc11
      rw [show (0 : Int32).toInt = 0 from by decide] at f16
      have his1 := hr1 (hrb1.resolve_left cc4)
      have his2 := hr8 (hrb8.resolve_left cc11)
      have hz17 : (to.toNatClampNeg : Int) = to.toInt := znat (by first | omega | decide)
      refine zp_seg (pc' := 17) (lv' := [(0, .ref m), (1, .int s9), (2, .int to)]) (st' := [.ref m]) [(16, .aload_n 0)] (by decide +kernel) rfl ?_
      refine zr_get (idx := 450) (k := 20) (v := .ref (m + 82)) (by decide +kernel) (by decide +kernel) hm rfl ?_
      refine zp_seg (pc' := 21) (lv' := [(0, .ref m), (1, .int s9), (2, .int to)]) (st' := [.int s9, .ref (m + 82)]) [(20, .iload_n 1)] (by decide +kernel) rfl ?_
      have hb19 := hR_m.slots
      have hz20 : (s9.toNatClampNeg : Int) = s9.toInt := znat (by first | omega | decide)
      refine zr_aald (v := .ref (m + 7486 + 9 * s9.toNatClampNeg)) (by decide +kernel) hb19 (by decide) (zin (by first | omega | decide) (by first | omega | decide)) (zsl_at (by omega)) ?_
      obtain ⟨kS1, hkS1⟩ := hSl0 s9.toNatClampNeg (by omega)
      obtain ⟨g1, fn1, fd1, fa1, fb1, fc1, fe1, fr1, fu1, hT1, hAn1, hAd1, hAa1, hAb1, hAc1, hAe1, hAr1, hAu1, hK1⟩ := id hkS1
      obtain ⟨hK10, hKn1, hKd1, hKx1, hKm1, hKl1, hKr1, hKu1, hKk1⟩ := id hK1
      refine zp_seg (pc' := 24) (lv' := [(3, .ref (m + 7486 + 9 * s9.toNatClampNeg)), (0, .ref m), (1, .int s9), (2, .int to)]) (st' := [.ref (m + 7486 + 9 * s9.toNatClampNeg)]) [(22, .astore_n 3), (23, .aload_n 3)] (by decide +kernel) rfl ?_
      refine zr_get (idx := 202) (k := 0) (v := .int (g1 0)) (by decide +kernel) (by decide +kernel) hT1 rfl ?_
      refine zp_seg (pc' := 28) (lv' := [(3, .ref (m + 7486 + 9 * s9.toNatClampNeg)), (0, .ref m), (1, .int s9), (2, .int to)]) (st' := [.int 3, .int (g1 0)]) [(27, .iconst 3)] (by decide +kernel) rfl ?_
      have hJ42 : ∀ (_ : True), zP (d + 1) zq_X16_solve 42 [(0, .ref m), (2, .int to), (3, .ref (m + 7486 + 9 * s9.toNatClampNeg))] [] w sz 0 0 Post := by
        intro _
        refine zp_seg (pc' := 43) (lv' := [(0, .ref m), (2, .int to), (3, .ref (m + 7486 + 9 * s9.toNatClampNeg))]) (st' := [.ref (m + 7486 + 9 * s9.toNatClampNeg)]) [(42, .aload_n 3)] (by decide +kernel) rfl ?_
        refine zr_get (idx := 234) (k := 10) (v := .int (g1 10)) (by decide +kernel) (by decide +kernel) hT1 rfl ?_
        refine zp_seg (pc' := 47) (lv' := [(0, .ref m), (2, .int to), (3, .ref (m + 7486 + 9 * s9.toNatClampNeg))]) (st' := [.int 1, .int (g1 10)]) [(46, .iconst 1)] (by decide +kernel) rfl ?_
        refine zp_if (i := .if_icmp .eq 5) (c := (g1 10) = 1) (t := 52) (e := 50) (lv' := [(0, .ref m), (2, .int to), (3, .ref (m + 7486 + 9 * s9.toNatClampNeg))]) (st' := []) (by decide +kernel) rfl (fun cc47 => ?_) (fun cc47 => ?_)
        ·
          have k21 := zrng (g1 10)
          have f23 := zeqI cc47
          rw [show (1 : Int32).toInt = 1 from by decide] at f23
          refine zp_seg (pc' := 53) (lv' := [(0, .ref m), (2, .int to), (3, .ref (m + 7486 + 9 * s9.toNatClampNeg))]) (st' := [.ref m]) [(52, .aload_n 0)] (by decide +kernel) rfl ?_
          refine zr_callV (idx := 555) (j := 337) (by decide +kernel) (by decide +kernel) (show zMe 337 = some zq_X16_begin from rfl) rfl rfl (Nat.le_of_ble_eq_true rfl) rfl rfl hm (Nat.le_of_ble_eq_true rfl) (Nat.le_of_ble_eq_true rfl) (c_X16_beginZ (w := w) m hm hR_m) (by omega) (fun v53 w53 hp53 => ?_)
          obtain ⟨Z9_53, hsi53, heq53, hp53_0, hp53_1, rfl⟩ := hp53
          have hM53 : w53 m = some (.inl (15, zMo m (zs (zs (zs g 1 Z9_53) 3 Z9_53) 16 Z9_53) r)) := hp53_0
          show zP _ _ _ _ [] _ _ _ _ _
          have k24 := zrng Z9_53
          have hz25 : (Z9_53.toNatClampNeg : Int) = Z9_53.toInt := znat (by first | omega | decide)
          have hgzZ9_53_0 : Z9_53.toNatClampNeg = 0 := by omega
          refine zp_seg (pc' := 57) (lv' := [(0, .ref m), (2, .int to), (3, .ref (m + 7486 + 9 * s9.toNatClampNeg))]) (st' := [.ref m]) [(56, .aload_n 0)] (by decide +kernel) rfl ?_
          have hb26 := hR_m.si hsi53
          refine zr_callV (idx := 74) (j := 263) (by decide +kernel) (by decide +kernel) (show zMe 263 = some zq_X16_newU from rfl) rfl rfl (Nat.le_of_ble_eq_true rfl) rfl rfl hM53 (Nat.le_of_ble_eq_true rfl) (Nat.le_of_ble_eq_true rfl) (c_X16_newU (w := w53) (g1 := Z9_53) m hM53 hb26 (by first | omega | decide | assumption | exact zr1_1 | exact zr1_0 | fail "num") rfl) (by omega) (fun v57 w57 hp57 => ?_)
          obtain ⟨hsi57, heq57, hp57_0, hp57_1, rfl⟩ := hp57
          have hM57 : w57 m = some (.inl (15, zMo m (zs (zs (zs g 1 (Z9_53 + 1)) 3 Z9_53) 16 Z9_53) r)) := hp57_0
          show zP _ _ _ _ [.ref (m + 276 + 2 * Z9_53.toNatClampNeg)] _ _ _ _ _
          refine zp_seg (pc' := 63) (lv' := [(4, .ref (m + 276 + 2 * Z9_53.toNatClampNeg)), (0, .ref m), (2, .int to), (3, .ref (m + 7486 + 9 * s9.toNatClampNeg))]) (st' := [.ref m]) [(60, .astore 4), (62, .aload_n 0)] (by decide +kernel) rfl ?_
          have k27 := zaddC Z9_53 1 (n := 1) (by decide) (by omega) (by omega)
          have hz28 : ((Z9_53 + 1).toNatClampNeg : Int) = (Z9_53 + 1).toInt := znat (by first | omega | decide)
          have hgzZ9_53_1 : (Z9_53 + 1).toNatClampNeg = 1 := by omega
          have hb29 := hb26.si hsi57
          refine zr_callV (idx := 74) (j := 263) (by decide +kernel) (by decide +kernel) (show zMe 263 = some zq_X16_newU from rfl) rfl rfl (Nat.le_of_ble_eq_true rfl) rfl rfl hM57 (Nat.le_of_ble_eq_true rfl) (Nat.le_of_ble_eq_true rfl) (c_X16_newU (w := w57) (g1 := (Z9_53 + 1)) m hM57 hb29 (by first | omega | decide | assumption | exact zr1_1 | exact zr1_0 | fail "num") rfl) (by omega) (fun v63 w63 hp63 => ?_)
          obtain ⟨hsi63, heq63, hp63_0, hp63_1, rfl⟩ := hp63
          have hM63 : w63 m = some (.inl (15, zMo m (zs (zs (zs g 1 (Z9_53 + 1 + 1)) 3 Z9_53) 16 Z9_53) r)) := hp63_0
          show zP _ _ _ _ [.ref (m + 276 + 2 * (Z9_53 + 1).toNatClampNeg)] _ _ _ _ _
          refine zp_seg (pc' := 68) (lv' := [(5, .ref (m + 276 + 2 * (Z9_53 + 1).toNatClampNeg)), (4, .ref (m + 276 + 2 * Z9_53.toNatClampNeg)), (0, .ref m), (2, .int to), (3, .ref (m + 7486 + 9 * s9.toNatClampNeg))]) (st' := []) [(66, .astore 5)] (by decide +kernel) rfl ?_
          have k30 := zaddC (Z9_53 + 1) 1 (n := 1) (by decide) (by omega) (by omega)
          have hz31 : ((Z9_53 + 1 + 1).toNatClampNeg : Int) = (Z9_53 + 1 + 1).toInt := znat (by first | omega | decide)
          have hgzZ9_53_2 : (Z9_53 + 1 + 1).toNatClampNeg = 2 := by omega
          refine zp_seg (pc' := 71) (lv' := [(5, .ref (m + 276 + 2 * (Z9_53 + 1).toNatClampNeg)), (4, .ref (m + 276 + 2 * Z9_53.toNatClampNeg)), (0, .ref m), (2, .int to), (3, .ref (m + 7486 + 9 * s9.toNatClampNeg))]) (st' := [.ref (m + 7486 + 9 * s9.toNatClampNeg), .ref (m + 276 + 2 * Z9_53.toNatClampNeg)]) [(68, .aload 4), (70, .aload_n 3)] (by decide +kernel) rfl ?_
          have hb32 : w63 (m + 7486 + 9 * s9.toNatClampNeg) = some (.inl (13, zTo (m + 7486 + 9 * s9.toNatClampNeg) g1)) := ((heq63 (m + 7486 + 9 * s9.toNatClampNeg) (by omega)).trans ((heq57 (m + 7486 + 9 * s9.toNatClampNeg) (by omega)).trans (heq53 (m + 7486 + 9 * s9.toNatClampNeg) (by omega)))).trans hT1
          refine zr_get (idx := 237) (k := 11) (v := .ref (m + 7486 + 9 * s9.toNatClampNeg + 7)) (by decide +kernel) (by decide +kernel) hb32 rfl ?_
          refine zp_seg (pc' := 75) (lv' := [(5, .ref (m + 276 + 2 * (Z9_53 + 1).toNatClampNeg)), (4, .ref (m + 276 + 2 * Z9_53.toNatClampNeg)), (0, .ref m), (2, .int to), (3, .ref (m + 7486 + 9 * s9.toNatClampNeg))]) (st' := [.int 0, .ref (m + 7486 + 9 * s9.toNatClampNeg + 7), .ref (m + 276 + 2 * Z9_53.toNatClampNeg)]) [(74, .iconst 0)] (by decide +kernel) rfl ?_
          have hb33 : zU w63 (m + 276 + 2 * Z9_53.toNatClampNeg) 1000 zaZ := hp57_1.ag (fun x hx1 hx2 => (heq63 x ⟨(zx_X16_solve_0 hx1 hx2 hgzZ9_53_0), (zx_X16_solve_1 hx1 hx2 hgzZ9_53_0 hgzZ9_53_1)⟩))
          have ho75_u := zU.o hb33
          have hb34 : w63 (m + 7486 + 9 * s9.toNatClampNeg + 7) = some (.inr (0, 175, .inl fr1)) := ((heq63 (m + 7486 + 9 * s9.toNatClampNeg + 7) (by omega)).trans ((heq57 (m + 7486 + 9 * s9.toNatClampNeg + 7) (by omega)).trans (heq53 (m + 7486 + 9 * s9.toNatClampNeg + 7) (by omega)))).trans hAr1
          refine zr_callS (idx := 775) (j := 301) (by decide +kernel) (by decide +kernel) (by decide) (show zMe 301 = some zq_X16_load_ from rfl) rfl rfl (Nat.le_of_ble_eq_true rfl) rfl rfl (Nat.le_of_ble_eq_true rfl) (Nat.le_of_ble_eq_true rfl) (c_X16_load_ (w := w63) (m + 276 + 2 * Z9_53.toNatClampNeg) (m + 7486 + 9 * s9.toNatClampNeg + 7) 0 ho75_u hb34 (by first | omega | decide | assumption | exact zr1_1 | exact zr1_0 | fail "num") (by first | omega | decide | assumption | exact zr1_1 | exact zr1_0 | fail "num") (by exact fun i hi => hKr1 _ (by rw [show (0 : Int32).toNatClampNeg = 0 from by decide]; omega)) (by first | omega | decide | assumption | exact zr1_1 | exact zr1_0 | fail "num")) (by omega) (fun v75 w75 hp75 => ?_)
          obtain ⟨hsi75, heq75, hp75_0, rfl⟩ := hp75
          show zP _ _ _ _ [] _ _ _ _ _
          refine zp_seg (pc' := 81) (lv' := [(5, .ref (m + 276 + 2 * (Z9_53 + 1).toNatClampNeg)), (4, .ref (m + 276 + 2 * Z9_53.toNatClampNeg)), (0, .ref m), (2, .int to), (3, .ref (m + 7486 + 9 * s9.toNatClampNeg))]) (st' := [.ref (m + 7486 + 9 * s9.toNatClampNeg), .ref (m + 276 + 2 * (Z9_53 + 1).toNatClampNeg)]) [(78, .aload 5), (80, .aload_n 3)] (by decide +kernel) rfl ?_
          have hb35 : w75 (m + 7486 + 9 * s9.toNatClampNeg) = some (.inl (13, zTo (m + 7486 + 9 * s9.toNatClampNeg) g1)) := (heq75 (m + 7486 + 9 * s9.toNatClampNeg) (by omega)).trans hb32
          refine zr_get (idx := 237) (k := 11) (v := .ref (m + 7486 + 9 * s9.toNatClampNeg + 7)) (by decide +kernel) (by decide +kernel) hb35 rfl ?_
          refine zp_seg (pc' := 86) (lv' := [(5, .ref (m + 276 + 2 * (Z9_53 + 1).toNatClampNeg)), (4, .ref (m + 276 + 2 * Z9_53.toNatClampNeg)), (0, .ref m), (2, .int to), (3, .ref (m + 7486 + 9 * s9.toNatClampNeg))]) (st' := [.int 25, .ref (m + 7486 + 9 * s9.toNatClampNeg + 7), .ref (m + 276 + 2 * (Z9_53 + 1).toNatClampNeg)]) [(84, .bipush 25)] (by decide +kernel) rfl ?_
          have hb36 : zU w75 (m + 276 + 2 * (Z9_53 + 1).toNatClampNeg) 1000 zaZ := hp63_1.ag (fun x hx1 hx2 => (heq75 x (zx_X16_solve_2 hx1 hx2 hgzZ9_53_0 hgzZ9_53_1)))
          have ho86_u := zU.o hb36
          have hb37 : w75 (m + 7486 + 9 * s9.toNatClampNeg + 7) = some (.inr (0, 175, .inl fr1)) := (heq75 (m + 7486 + 9 * s9.toNatClampNeg + 7) (by omega)).trans hb34
          refine zr_callS (idx := 775) (j := 301) (by decide +kernel) (by decide +kernel) (by decide) (show zMe 301 = some zq_X16_load_ from rfl) rfl rfl (Nat.le_of_ble_eq_true rfl) rfl rfl (Nat.le_of_ble_eq_true rfl) (Nat.le_of_ble_eq_true rfl) (c_X16_load_ (w := w75) (m + 276 + 2 * (Z9_53 + 1).toNatClampNeg) (m + 7486 + 9 * s9.toNatClampNeg + 7) 25 ho86_u hb37 (by first | omega | decide | assumption | exact zr1_1 | exact zr1_0 | fail "num") (by first | omega | decide | assumption | exact zr1_1 | exact zr1_0 | fail "num") (by exact fun i hi => hKr1 _ (by rw [show (25 : Int32).toNatClampNeg = 25 from by decide]; omega)) (by first | omega | decide | assumption | exact zr1_1 | exact zr1_0 | fail "num")) (by omega) (fun v86 w86 hp86 => ?_)
          obtain ⟨hsi86, heq86, hp86_0, rfl⟩ := hp86
          show zP _ _ _ _ [] _ _ _ _ _
          refine zp_seg (pc' := 91) (lv' := [(5, .ref (m + 276 + 2 * (Z9_53 + 1).toNatClampNeg)), (4, .ref (m + 276 + 2 * Z9_53.toNatClampNeg)), (0, .ref m), (2, .int to), (3, .ref (m + 7486 + 9 * s9.toNatClampNeg))]) (st' := [.ref (m + 276 + 2 * Z9_53.toNatClampNeg)]) [(89, .aload 4)] (by decide +kernel) rfl ?_
          have hln7 := zaOf_ln (fun i => zf (fr1 ((0 : Int32).toNatClampNeg + i))) 25
          have hln8 := zaOf_ln (fun i => zf (fr1 ((25 : Int32).toNatClampNeg + i))) 25
          obtain ⟨n38, f39, hu40, hu41, hu42, hu43, hu44⟩ := id hp75_0
          have kn38 := zrng n38
          have hb45 : w86 (m + 276 + 2 * Z9_53.toNatClampNeg) = some (.inl (14, [.ref (m + 276 + 2 * Z9_53.toNatClampNeg + 1), .int n38])) := (heq86 (m + 276 + 2 * Z9_53.toNatClampNeg) (zx_X16_solve_3 hgzZ9_53_0 hgzZ9_53_1)).trans hu40
          refine zr_get (idx := 25) (k := 1) (v := .int n38) (by decide +kernel) (by decide +kernel) hb45 rfl ?_
          refine zp_if (i := .ifCond .eq 11) (c := n38 = 0) (t := 105) (e := 97) (lv' := [(5, .ref (m + 276 + 2 * (Z9_53 + 1).toNatClampNeg)), (4, .ref (m + 276 + 2 * Z9_53.toNatClampNeg)), (0, .ref m), (2, .int to), (3, .ref (m + 7486 + 9 * s9.toNatClampNeg))]) (st' := []) (by decide +kernel) rfl (fun cc94 => ?_) (fun cc94 => ?_)
          ·
            have f46 := zeqI cc94
            rw [show (0 : Int32).toInt = 0 from by decide] at f46
            refine zp_seg (pc' := 106) (lv' := [(5, .ref (m + 276 + 2 * (Z9_53 + 1).toNatClampNeg)), (4, .ref (m + 276 + 2 * Z9_53.toNatClampNeg)), (0, .ref m), (2, .int to), (3, .ref (m + 7486 + 9 * s9.toNatClampNeg))]) (st' := [.int (Int32.ofInt (-1))]) [(105, .iconst (-1))] (by decide +kernel) rfl ?_
            have hb47 : w86 m = some (.inl (15, zMo m (zs (zs (zs g 1 (Z9_53 + 1 + 1)) 3 Z9_53) 16 Z9_53) r)) := ((heq86 m (zx_X16_solve_5 hgzZ9_53_1)).trans (heq75 m (zx_X16_solve_4 hgzZ9_53_0))).trans hM63
            have hoffend : ∀ x, (x < m + 0 ∨ m + 0 + 8322 ≤ x) → w86 x = w x := fun x hx => ((heq86 x (zx_X16_solve_8 hx hgzZ9_53_1)).trans ((heq75 x (zx_X16_solve_7 hx hgzZ9_53_0)).trans ((heq63 x ⟨(zx_X16_solve_6 hx), (zx_X16_solve_8 hx hgzZ9_53_1)⟩).trans ((heq57 x ⟨(zx_X16_solve_6 hx), (zx_X16_solve_7 hx hgzZ9_53_0)⟩).trans (heq53 x (zx_X16_solve_6 hx))))))
            have hb48 := hb29.si ((hsi63.tr hsi75).tr hsi86)
            have hb49 : zSlo w86 (m + 7486) := hSl0.ag (fun x hx1 hx2 => ((heq86 x (zx_X16_solve_11 hx1 hx2 hgzZ9_53_1)).trans ((heq75 x (zx_X16_solve_10 hx1 hx2 hgzZ9_53_0)).trans ((heq63 x ⟨(zx_X16_solve_9 hx1 hx2), (zx_X16_solve_11 hx1 hx2 hgzZ9_53_1)⟩).trans ((heq57 x ⟨(zx_X16_solve_9 hx1 hx2), (zx_X16_solve_10 hx1 hx2 hgzZ9_53_0)⟩).trans (heq53 x (zx_X16_solve_9 hx1 hx2)))))))
            have hb50 : zTm w86 (m + 83) := hMd0.ag (fun x hx1 hx2 => ((heq86 x (zx_X16_solve_14 hx1 hx2 hgzZ9_53_1)).trans ((heq75 x (zx_X16_solve_13 hx1 hx2 hgzZ9_53_0)).trans ((heq63 x ⟨(zx_X16_solve_12 hx1 hx2), (zx_X16_solve_14 hx1 hx2 hgzZ9_53_1)⟩).trans ((heq57 x ⟨(zx_X16_solve_12 hx1 hx2), (zx_X16_solve_13 hx1 hx2 hgzZ9_53_0)⟩).trans (heq53 x (zx_X16_solve_12 hx1 hx2)))))))
            have hb51 : zPil w86 (m + 6316) := hPl0.ag (fun x hx1 hx2 => ((heq86 x (zx_X16_solve_17 hx1 hx2 hgzZ9_53_1)).trans ((heq75 x (zx_X16_solve_16 hx1 hx2 hgzZ9_53_0)).trans ((heq63 x ⟨(zx_X16_solve_15 hx1 hx2), (zx_X16_solve_17 hx1 hx2 hgzZ9_53_1)⟩).trans ((heq57 x ⟨(zx_X16_solve_15 hx1 hx2), (zx_X16_solve_16 hx1 hx2 hgzZ9_53_0)⟩).trans (heq53 x (zx_X16_solve_15 hx1 hx2)))))))
            have hb52 : zBya w86 (m + 92) 4000 := hBo0.ag (fun x hx1 hx2 => ((heq86 x (zx_X16_solve_20 hx1 hx2 hgzZ9_53_1)).trans ((heq75 x (zx_X16_solve_19 hx1 hx2 hgzZ9_53_0)).trans ((heq63 x ⟨(zx_X16_solve_18 hx1 hx2), (zx_X16_solve_20 hx1 hx2 hgzZ9_53_1)⟩).trans ((heq57 x ⟨(zx_X16_solve_18 hx1 hx2), (zx_X16_solve_19 hx1 hx2 hgzZ9_53_0)⟩).trans (heq53 x (zx_X16_solve_18 hx1 hx2)))))))
            have hb53 : zBya w86 (m + 93) 4000 := hBl0.ag (fun x hx1 hx2 => ((heq86 x (zx_X16_solve_23 hx1 hx2 hgzZ9_53_1)).trans ((heq75 x (zx_X16_solve_22 hx1 hx2 hgzZ9_53_0)).trans ((heq63 x ⟨(zx_X16_solve_21 hx1 hx2), (zx_X16_solve_23 hx1 hx2 hgzZ9_53_1)⟩).trans ((heq57 x ⟨(zx_X16_solve_21 hx1 hx2), (zx_X16_solve_22 hx1 hx2 hgzZ9_53_0)⟩).trans (heq53 x (zx_X16_solve_21 hx1 hx2)))))))
            have hb54 : zGr w86 (m + 100) 48 48 := hGa0.ag (fun x hx1 hx2 => ((heq86 x (zx_X16_solve_26 hx1 hx2 hgzZ9_53_1)).trans ((heq75 x (zx_X16_solve_25 hx1 hx2 hgzZ9_53_0)).trans ((heq63 x ⟨(zx_X16_solve_24 hx1 hx2), (zx_X16_solve_26 hx1 hx2 hgzZ9_53_1)⟩).trans ((heq57 x ⟨(zx_X16_solve_24 hx1 hx2), (zx_X16_solve_25 hx1 hx2 hgzZ9_53_0)⟩).trans (heq53 x (zx_X16_solve_24 hx1 hx2)))))))
            have hb55 : zGr w86 (m + 212) 60 46 := hGb0.ag (fun x hx1 hx2 => ((heq86 x (zx_X16_solve_29 hx1 hx2 hgzZ9_53_1)).trans ((heq75 x (zx_X16_solve_28 hx1 hx2 hgzZ9_53_0)).trans ((heq63 x ⟨(zx_X16_solve_27 hx1 hx2), (zx_X16_solve_29 hx1 hx2 hgzZ9_53_1)⟩).trans ((heq57 x ⟨(zx_X16_solve_27 hx1 hx2), (zx_X16_solve_28 hx1 hx2 hgzZ9_53_0)⟩).trans (heq53 x (zx_X16_solve_27 hx1 hx2)))))))
            have hb56 : zBd w86 (m + 149) := hBd0.ag (fun x hx1 hx2 => ((heq86 x (zx_X16_solve_32 hx1 hx2 hgzZ9_53_1)).trans ((heq75 x (zx_X16_solve_31 hx1 hx2 hgzZ9_53_0)).trans ((heq63 x ⟨(zx_X16_solve_30 hx1 hx2), (zx_X16_solve_32 hx1 hx2 hgzZ9_53_1)⟩).trans ((heq57 x ⟨(zx_X16_solve_30 hx1 hx2), (zx_X16_solve_31 hx1 hx2 hgzZ9_53_0)⟩).trans (heq53 x (zx_X16_solve_30 hx1 hx2)))))))
            have hb57 : w86 (m + 94) = some (.inr (0, 60, .inl ff)) := ((heq86 (m + 94) (zx_X16_solve_35 hgzZ9_53_1)).trans ((heq75 (m + 94) (zx_X16_solve_34 hgzZ9_53_0)).trans ((heq63 (m + 94) ⟨(zx_X16_solve_33), (zx_X16_solve_35 hgzZ9_53_1)⟩).trans ((heq57 (m + 94) ⟨(zx_X16_solve_33), (zx_X16_solve_34 hgzZ9_53_0)⟩).trans (heq53 (m + 94) (zx_X16_solve_33)))))).trans hAf0
            refine zr_retI (by decide +kernel) rfl ?_
            rw [← hPost]; exact ⟨rfl, _, rfl, ((((hsi53.tr hsi57).tr hsi63).tr hsi75).tr hsi86), hoffend, ⟨_, _, hb47, hb48, hb49, hb50, hb51, ⟨_, hb57, hff⟩, hb52, hb53, hb54, hb55, hb56, hI12, hI24, hI29, hI31, hIn⟩, _, rfl, trivial⟩
          ·
            have f59 := zneI cc94
            rw [show (0 : Int32).toInt = 0 from by decide] at f59
            refine zp_seg (pc' := 99) (lv' := [(5, .ref (m + 276 + 2 * (Z9_53 + 1).toNatClampNeg)), (4, .ref (m + 276 + 2 * Z9_53.toNatClampNeg)), (0, .ref m), (2, .int to), (3, .ref (m + 7486 + 9 * s9.toNatClampNeg))]) (st' := [.ref (m + 276 + 2 * (Z9_53 + 1).toNatClampNeg)]) [(97, .aload 5)] (by decide +kernel) rfl ?_
            obtain ⟨n60, f61, hu62, hu63, hu64, hu65, hu66⟩ := id hp86_0
            have kn60 := zrng n60
            refine zr_get (idx := 25) (k := 1) (v := .int n60) (by decide +kernel) (by decide +kernel) hu62 rfl ?_
            refine zp_if (i := .ifCond .ne 5) (c := ¬ n60 = 0) (t := 107) (e := 105) (lv' := [(5, .ref (m + 276 + 2 * (Z9_53 + 1).toNatClampNeg)), (4, .ref (m + 276 + 2 * Z9_53.toNatClampNeg)), (0, .ref m), (2, .int to), (3, .ref (m + 7486 + 9 * s9.toNatClampNeg))]) (st' := []) (by decide +kernel) rfl (fun cc102 => ?_) (fun cc102 => ?_)
            ·
              have f67 := zneI cc102
              rw [show (0 : Int32).toInt = 0 from by decide] at f67
              have hna9 := hu42
              have hnb9 := hu64
              have hza9 : 0 < zln (zaOf (fun i => zf (fr1 ((0 : Int32).toNatClampNeg + i))) 25) := by omega
              have hzb9 : 0 < zln (zaOf (fun i => zf (fr1 ((25 : Int32).toNatClampNeg + i))) 25) := by omega
              refine zp_seg (pc' := 109) (lv' := [(5, .ref (m + 276 + 2 * (Z9_53 + 1).toNatClampNeg)), (4, .ref (m + 276 + 2 * Z9_53.toNatClampNeg)), (0, .ref m), (2, .int to), (3, .ref (m + 7486 + 9 * s9.toNatClampNeg))]) (st' := [.ref m, .ref m]) [(107, .aload_n 0), (108, .aload_n 0)] (by decide +kernel) rfl ?_
              have hb68 : w86 m = some (.inl (15, zMo m (zs (zs (zs g 1 (Z9_53 + 1 + 1)) 3 Z9_53) 16 Z9_53) r)) := ((heq86 m (zx_X16_solve_5 hgzZ9_53_1)).trans (heq75 m (zx_X16_solve_4 hgzZ9_53_0))).trans hM63
              refine zr_get (idx := 453) (k := 21) (v := .ref (m + 83)) (by decide +kernel) (by decide +kernel) hb68 rfl ?_
              refine zp_seg (pc' := 113) (lv' := [(5, .ref (m + 276 + 2 * (Z9_53 + 1).toNatClampNeg)), (4, .ref (m + 276 + 2 * Z9_53.toNatClampNeg)), (0, .ref m), (2, .int to), (3, .ref (m + 7486 + 9 * s9.toNatClampNeg))]) (st' := [.int 1, .ref (m + 83), .ref m]) [(112, .iconst 1)] (by decide +kernel) rfl ?_
              have hb69 := hb29.si ((hsi63.tr hsi75).tr hsi86)
              have hb70 : zTm w86 (m + 83) := hMd0.ag (fun x hx1 hx2 => ((heq86 x (zx_X16_solve_14 hx1 hx2 hgzZ9_53_1)).trans ((heq75 x (zx_X16_solve_13 hx1 hx2 hgzZ9_53_0)).trans ((heq63 x ⟨(zx_X16_solve_12 hx1 hx2), (zx_X16_solve_14 hx1 hx2 hgzZ9_53_1)⟩).trans ((heq57 x ⟨(zx_X16_solve_12 hx1 hx2), (zx_X16_solve_13 hx1 hx2 hgzZ9_53_0)⟩).trans (heq53 x (zx_X16_solve_12 hx1 hx2)))))))
              refine zr_callV (idx := 292) (j := 305) (by decide +kernel) (by decide +kernel) (show zMe 305 = some zq_X16_number from rfl) rfl rfl (Nat.le_of_ble_eq_true rfl) rfl rfl hb68 (Nat.le_of_ble_eq_true rfl) (Nat.le_of_ble_eq_true rfl) (c_X16_numberZM (w := w86) (g3 := Z9_53) m (m + 83) 1 hb68 hb69 hb70 (by first | omega | decide | assumption | exact zr1_1 | exact zr1_0 | fail "num") (by exact zr1_1) (by first | omega | decide | assumption | exact zr1_1 | exact zr1_0 | fail "num") rfl) (by omega) (fun v113 w113 hp113 => ?_)
              obtain ⟨hsi113, heq113, hp113_0, hp113_1, rfl⟩ := hp113
              show zP _ _ _ _ [] _ _ _ _ _
              obtain ⟨g2, fn2, fd2, fa2, fb2, fc2, fe2, fr2, fu2, hT2, hAn2, hAd2, hAa2, hAb2, hAc2, hAe2, hAr2, hAu2, hK2⟩ := id hp113_0
              obtain ⟨hK20, hKn2, hKd2, hKx2, hKm2, hKl2, hKr2, hKu2, hKk2⟩ := id hK2
              have hnn9 := zNz_of (hp113_1 (by decide)) hAn2
              refine zp_seg (pc' := 117) (lv' := [(5, .ref (m + 276 + 2 * (Z9_53 + 1).toNatClampNeg)), (4, .ref (m + 276 + 2 * Z9_53.toNatClampNeg)), (0, .ref m), (2, .int to), (3, .ref (m + 7486 + 9 * s9.toNatClampNeg))]) (st' := [.ref m]) [(116, .aload_n 0)] (by decide +kernel) rfl ?_
              have hb71 : w113 m = some (.inl (15, zMo m (zs (zs (zs g 1 (Z9_53 + 1 + 1)) 3 Z9_53) 16 Z9_53) r)) := (heq113 m ⟨(zx_X16_solve_36), (zx_X16_solve_37 hgzZ9_53_0)⟩).trans hb68
              refine zr_get (idx := 453) (k := 21) (v := .ref (m + 83)) (by decide +kernel) (by decide +kernel) hb71 rfl ?_
              refine zp_seg (pc' := 123) (lv' := [(5, .ref (m + 276 + 2 * (Z9_53 + 1).toNatClampNeg)), (4, .ref (m + 276 + 2 * Z9_53.toNatClampNeg)), (0, .ref m), (2, .int to), (3, .ref (m + 7486 + 9 * s9.toNatClampNeg))]) (st' := [.ref (m + 276 + 2 * Z9_53.toNatClampNeg), .int 0, .ref (m + 83)]) [(120, .iconst 0), (121, .aload 4)] (by decide +kernel) rfl ?_
              have hb72 : zU w113 (m + 276 + 2 * Z9_53.toNatClampNeg) 1000 (zaOf (fun i => zf (fr1 ((0 : Int32).toNatClampNeg + i))) 25) := hp75_0.ag (fun x hx1 hx2 => ((heq113 x ⟨(zx_X16_solve_38 hx1 hx2 hgzZ9_53_0), (zx_X16_solve_39 hx1 hx2 hgzZ9_53_0)⟩).trans (heq86 x (zx_X16_solve_1 hx1 hx2 hgzZ9_53_0 hgzZ9_53_1))))
              have hb73 : w113 (m + 276 + 2 * Z9_53.toNatClampNeg) = some (.inl (14, [.ref (m + 276 + 2 * Z9_53.toNatClampNeg + 1), .int n38])) := (heq113 (m + 276 + 2 * Z9_53.toNatClampNeg) ⟨(zx_X16_solve_40 hgzZ9_53_0), (zx_X16_solve_41 hgzZ9_53_0)⟩).trans hb45
              refine zr_callV (idx := 66) (j := 253) (by decide +kernel) (by decide +kernel) (show zMe 253 = some zq_X15_head from rfl) rfl rfl (Nat.le_of_ble_eq_true rfl) rfl rfl hb73 (Nat.le_of_ble_eq_true rfl) (Nat.le_of_ble_eq_true rfl) (c_X15_head (w := w113) (m + 276 + 2 * Z9_53.toNatClampNeg) hb72) (by omega) (fun v123 w123 hp123 => ?_)
              obtain ⟨hpw123, r123, rfl, hr123⟩ := hp123
              replace hpw123 := hpw123.symm
              subst hpw123
              have kr123 := zrng r123
              show zP _ _ _ _ [.int r123, .int 0, .ref (m + 83)] _ _ _ _ _
              refine zr_callS (idx := 46) (j := 256) (by decide +kernel) (by decide +kernel) (by decide) (show zMe 256 = some zq_X16_sub from rfl) rfl rfl (Nat.le_of_ble_eq_true rfl) rfl rfl (Nat.le_of_ble_eq_true rfl) (Nat.le_of_ble_eq_true rfl) (c_X16_sub (w := w113) 0 r123 (by exact zr1_0) (by exact hr123.1)) (by omega) (fun v126 w126 hp126 => ?_)
              obtain ⟨hpw126, r126, rfl, hr126⟩ := hp126
              replace hpw126 := hpw126.symm
              subst hpw126
              have kr126 := zrng r126
              show zP _ _ _ _ [.int r126, .ref (m + 83)] _ _ _ _ _
              refine zp_seg (pc' := 131) (lv' := [(5, .ref (m + 276 + 2 * (Z9_53 + 1).toNatClampNeg)), (4, .ref (m + 276 + 2 * Z9_53.toNatClampNeg)), (0, .ref m), (2, .int to), (3, .ref (m + 7486 + 9 * s9.toNatClampNeg))]) (st' := [.ref (m + 276 + 2 * (Z9_53 + 1).toNatClampNeg), .int r126, .ref (m + 83)]) [(129, .aload 5)] (by decide +kernel) rfl ?_
              have hb74 : zU w113 (m + 276 + 2 * (Z9_53 + 1).toNatClampNeg) 1000 (zaOf (fun i => zf (fr1 ((25 : Int32).toNatClampNeg + i))) 25) := hp86_0.ag (fun x hx1 hx2 => (heq113 x ⟨(zx_X16_solve_42 hx1 hx2 hgzZ9_53_1), (zx_X16_solve_43 hx1 hx2 hgzZ9_53_0 hgzZ9_53_1)⟩))
              have hb75 : w113 (m + 276 + 2 * (Z9_53 + 1).toNatClampNeg) = some (.inl (14, [.ref (m + 276 + 2 * (Z9_53 + 1).toNatClampNeg + 1), .int n60])) := (heq113 (m + 276 + 2 * (Z9_53 + 1).toNatClampNeg) ⟨(zx_X16_solve_44 hgzZ9_53_1), (zx_X16_solve_45 hgzZ9_53_0 hgzZ9_53_1)⟩).trans hu62
              refine zr_callV (idx := 66) (j := 253) (by decide +kernel) (by decide +kernel) (show zMe 253 = some zq_X15_head from rfl) rfl rfl (Nat.le_of_ble_eq_true rfl) rfl rfl hb75 (Nat.le_of_ble_eq_true rfl) (Nat.le_of_ble_eq_true rfl) (c_X15_head (w := w113) (m + 276 + 2 * (Z9_53 + 1).toNatClampNeg) hb74) (by omega) (fun v131 w131 hp131 => ?_)
              obtain ⟨hpw131, r131, rfl, hr131⟩ := hp131
              replace hpw131 := hpw131.symm
              subst hpw131
              have kr131 := zrng r131
              show zP _ _ _ _ [.int r131, .int r126, .ref (m + 83)] _ _ _ _ _
              refine zr_callS (idx := 13) (j := 259) (by decide +kernel) (by decide +kernel) (by decide) (show zMe 259 = some zq_X16_inv from rfl) rfl rfl (Nat.le_of_ble_eq_true rfl) rfl rfl (Nat.le_of_ble_eq_true rfl) (Nat.le_of_ble_eq_true rfl) (c_X16_inv (w := w113) r131 (by exact hr131.1)) (by omega) (fun v134 w134 hp134 => ?_)
              obtain ⟨hpw134, r134, rfl, hr134⟩ := hp134
              replace hpw134 := hpw134.symm
              subst hpw134
              have kr134 := zrng r134
              show zP _ _ _ _ [.int r134, .int r126, .ref (m + 83)] _ _ _ _ _
              refine zr_callS (idx := 56) (j := 257) (by decide +kernel) (by decide +kernel) (by decide) (show zMe 257 = some zq_X16_mul from rfl) rfl rfl (Nat.le_of_ble_eq_true rfl) rfl rfl (Nat.le_of_ble_eq_true rfl) (Nat.le_of_ble_eq_true rfl) (c_X16_mul (w := w113) r126 r134 (by exact hr126.1) (by exact hr134.1)) (by omega) (fun v137 w137 hp137 => ?_)
              obtain ⟨hpw137, r137, rfl, hr137⟩ := hp137
              replace hpw137 := hpw137.symm
              subst hpw137
              have kr137 := zrng r137
              show zP _ _ _ _ [.int r137, .ref (m + 83)] _ _ _ _ _
              have hx9 : zr1 r137 ∧ r137 ≠ 0 := ⟨hr137.1, zmul_nz hr126.1 hr134.1 hr137.2 (fun e => zhd_nz hza9 (zneg0 (by rw [← hr123.2, ← zf_0, ← hr126.2, e, zf_0]))) (fun e => zinvF_ne (zhd_nz hzb9) (by rw [← hr131.2, ← hr134.2, e, zf_0]))⟩
              refine zr_put2 (idx := 213) (k := 3) (fs2 := zTo (m + 83) (zs g2 3 r137)) (by decide +kernel) (by decide +kernel) hT2 (Nat.le_of_ble_eq_true rfl) rfl rfl rfl ?_
              show zP (d + 1) zq_X16_solve 143 [(5, .ref (m + 276 + 2 * (Z9_53 + 1).toNatClampNeg)), (4, .ref (m + 276 + 2 * Z9_53.toNatClampNeg)), (0, .ref m), (2, .int to), (3, .ref (m + 7486 + 9 * s9.toNatClampNeg))] [] (zup w113 (m + 83) (.inl (13, zTo (m + 83) (zs g2 3 r137)))) sz 0 0 Post
              obtain ⟨w140, ew140⟩ : ∃ wz9, wz9 = zup w113 (m + 83) (.inl (13, zTo (m + 83) (zs g2 3 r137))) := ⟨_, rfl⟩
              have hsi140 : zSI w113 w140 := by rw [ew140]; exact zSI.setT hT2 _
              have heq140 : ∀ x, x ≠ m + 83 → w140 x = w113 x := fun x hx => by rw [ew140]; exact zup_n hx
              have hc140 : w140 (m + 83) = some (.inl (13, zTo (m + 83) (zs g2 3 r137))) := by rw [ew140]; exact zup_s
              rw [← ew140]
              clear ew140
              refine zp_seg (pc' := 144) (lv' := [(5, .ref (m + 276 + 2 * (Z9_53 + 1).toNatClampNeg)), (4, .ref (m + 276 + 2 * Z9_53.toNatClampNeg)), (0, .ref m), (2, .int to), (3, .ref (m + 7486 + 9 * s9.toNatClampNeg))]) (st' := [.ref m]) [(143, .aload_n 0)] (by decide +kernel) rfl ?_
              have hb76 : w140 m = some (.inl (15, zMo m (zs (zs (zs g 1 (Z9_53 + 1 + 1)) 3 Z9_53) 16 Z9_53) r)) := (heq140 m (zx_X16_solve_46)).trans hb71
              refine zr_get (idx := 541) (k := 64) (v := .ref (m + 275)) (by decide +kernel) (by decide +kernel) hb76 rfl ?_
              refine zp_seg (pc' := 153) (lv' := [(7, .int (Int32.ofInt (-49))), (6, .ref (m + 275)), (5, .ref (m + 276 + 2 * (Z9_53 + 1).toNatClampNeg)), (4, .ref (m + 276 + 2 * Z9_53.toNatClampNeg)), (0, .ref m), (2, .int to), (3, .ref (m + 7486 + 9 * s9.toNatClampNeg))]) (st' := []) [(147, .astore 6), (149, .bipush (-49)), (151, .istore 7)] (by decide +kernel) rfl ?_
              have hL153 : ∀ (mm153 : Nat) (wL153 : zM) (y7_153 : Int32) (p : zA1) (q : zA1) (hF : Nat → Int32), (zSI w140 wL153) → (∀ x, ((x < m + 276 + 2 * Z9_53.toNatClampNeg ∨ m + 276 + 2 * Z9_53.toNatClampNeg + 4 ≤ x) ∧ (x < m + 276 + 2 * (Z9_53 + 1 + 1).toNatClampNeg ∨ m + 276 + 2 * (Z9_53 + 1 + 1).toNatClampNeg + (320 - 2 * (Z9_53 + 1 + 1).toNatClampNeg) ≤ x) ∧ (x < m + 275 ∨ m + 275 + 1 ≤ x)) ∧ x ≠ m → wL153 x = w140 x) → (-49 ≤ y7_153.toInt) → (y7_153.toInt ≤ 52) → (zU wL153 (m + 276 + 2 * Z9_53.toNatClampNeg) 1000 p) → (zU wL153 (m + 276 + 2 * (Z9_53 + 1).toNatClampNeg) 1000 q) → (wL153 (m + 275) = some (.inr (0, 101, .inl hF))) → (wL153 m = some (.inl (15, zMo m (zs (zs (zs g 1 (Z9_53 + 1 + 1)) 3 Z9_53) 16 Z9_53) r))) → (zln p ≤ 25 ∧ zln q ≤ 25) → (60 - y7_153.toInt).toNat < mm153 → zP (d + 1) zq_X16_solve 153 [(0, .ref m), (2, .int to), (4, .ref (m + 276 + 2 * Z9_53.toNatClampNeg)), (5, .ref (m + 276 + 2 * (Z9_53 + 1).toNatClampNeg)), (6, .ref (m + 275)), (7, .int y7_153)] [] wL153 sz 0 0 Post := by
                intro mm153
                induction mm153 with
                | zero => intros; omega
                | succ mm153 ih153 =>
                intro wL153 y7_153 p q hF hsiL153 heqL153 hi153_0 hi153_1 hUp hUq hAh hmL153 hpq hmu153
                have ky7_153 := zrng y7_153
                refine zp_seg (pc' := 157) (lv' := [(0, .ref m), (2, .int to), (4, .ref (m + 276 + 2 * Z9_53.toNatClampNeg)), (5, .ref (m + 276 + 2 * (Z9_53 + 1).toNatClampNeg)), (6, .ref (m + 275)), (7, .int y7_153)]) (st' := [.int 51, .int y7_153]) [(153, .iload 7), (155, .bipush 51)] (by decide +kernel) rfl ?_
                refine zp_if (i := .if_icmp .gt 34) (c := 51 < y7_153) (t := 191) (e := 160) (lv' := [(0, .ref m), (2, .int to), (4, .ref (m + 276 + 2 * Z9_53.toNatClampNeg)), (5, .ref (m + 276 + 2 * (Z9_53 + 1).toNatClampNeg)), (6, .ref (m + 275)), (7, .int y7_153)]) (st' := []) (by decide +kernel) rfl (fun cc157 => ?_) (fun cc157 => ?_)
                ·
                  have f78 := zltI cc157
                  rw [show (51 : Int32).toInt = 51 from by decide] at f78
                  refine zp_seg (pc' := 193) (lv' := [(0, .ref m), (2, .int to), (4, .ref (m + 276 + 2 * Z9_53.toNatClampNeg)), (5, .ref (m + 276 + 2 * (Z9_53 + 1).toNatClampNeg)), (6, .ref (m + 275)), (7, .int y7_153)]) (st' := [.ref (m + 276 + 2 * Z9_53.toNatClampNeg)]) [(191, .aload 4)] (by decide +kernel) rfl ?_
                  obtain ⟨n79, f80, hu81, hu82, hu83, hu84, hu85⟩ := id hUp
                  have kn79 := zrng n79
                  refine zr_get (idx := 25) (k := 1) (v := .int n79) (by decide +kernel) (by decide +kernel) hu81 rfl ?_
                  refine zp_seg (pc' := 197) (lv' := [(0, .ref m), (2, .int to), (4, .ref (m + 276 + 2 * Z9_53.toNatClampNeg)), (5, .ref (m + 276 + 2 * (Z9_53 + 1).toNatClampNeg)), (6, .ref (m + 275)), (7, .int y7_153)]) (st' := [.int 1, .int n79]) [(196, .iconst 1)] (by decide +kernel) rfl ?_
                  refine zp_if (i := .if_icmp .ne 12) (c := ¬ n79 = 1) (t := 209) (e := 200) (lv' := [(0, .ref m), (2, .int to), (4, .ref (m + 276 + 2 * Z9_53.toNatClampNeg)), (5, .ref (m + 276 + 2 * (Z9_53 + 1).toNatClampNeg)), (6, .ref (m + 275)), (7, .int y7_153)]) (st' := []) (by decide +kernel) rfl (fun cc197 => ?_) (fun cc197 => ?_)
                  ·
                    have f86 := zneI cc197
                    rw [show (1 : Int32).toInt = 1 from by decide] at f86
                    have hb87 : wL153 (m + 83) = some (.inl (13, zTo (m + 83) (zs g2 3 r137))) := (heqL153 (m + 83) ⟨⟨(zx_X16_solve_47 hgzZ9_53_0), (zx_X16_solve_48 hgzZ9_53_2), (zx_X16_solve_49)⟩, (zx_X16_solve_50)⟩).trans hc140
                    have hb88 : wL153 (m + 83 + 1) = some (.inr (0, 325, .inl fn2)) := ((heqL153 (m + 83 + 1) ⟨⟨(zx_X16_solve_52 hgzZ9_53_0), (zx_X16_solve_53 hgzZ9_53_2), (zx_X16_solve_54)⟩, (zx_X16_solve_55)⟩).trans (heq140 (m + 83 + 1) (zx_X16_solve_51))).trans hAn2
                    have hb89 : wL153 (m + 83 + 2) = some (.inr (0, 325, .inl fd2)) := ((heqL153 (m + 83 + 2) ⟨⟨(zx_X16_solve_57 hgzZ9_53_0), (zx_X16_solve_58 hgzZ9_53_2), (zx_X16_solve_59)⟩, (zx_X16_solve_60)⟩).trans (heq140 (m + 83 + 2) (zx_X16_solve_56))).trans hAd2
                    have hb90 : wL153 (m + 83 + 3) = some (.inr (0, 13, .inl fa2)) := ((heqL153 (m + 83 + 3) ⟨⟨(zx_X16_solve_62 hgzZ9_53_0), (zx_X16_solve_63 hgzZ9_53_2), (zx_X16_solve_64)⟩, (zx_X16_solve_65)⟩).trans (heq140 (m + 83 + 3) (zx_X16_solve_61))).trans hAa2
                    have hb91 : wL153 (m + 83 + 4) = some (.inr (0, 13, .inl fb2)) := ((heqL153 (m + 83 + 4) ⟨⟨(zx_X16_solve_67 hgzZ9_53_0), (zx_X16_solve_68 hgzZ9_53_2), (zx_X16_solve_69)⟩, (zx_X16_solve_70)⟩).trans (heq140 (m + 83 + 4) (zx_X16_solve_66))).trans hAb2
                    have hb92 : wL153 (m + 83 + 5) = some (.inr (0, 13, .inl fc2)) := ((heqL153 (m + 83 + 5) ⟨⟨(zx_X16_solve_72 hgzZ9_53_0), (zx_X16_solve_73 hgzZ9_53_2), (zx_X16_solve_74)⟩, (zx_X16_solve_75)⟩).trans (heq140 (m + 83 + 5) (zx_X16_solve_71))).trans hAc2
                    have hb93 : wL153 (m + 83 + 6) = some (.inr (0, 13, .inl fe2)) := ((heqL153 (m + 83 + 6) ⟨⟨(zx_X16_solve_77 hgzZ9_53_0), (zx_X16_solve_78 hgzZ9_53_2), (zx_X16_solve_79)⟩, (zx_X16_solve_80)⟩).trans (heq140 (m + 83 + 6) (zx_X16_solve_76))).trans hAe2
                    have hb94 : wL153 (m + 83 + 7) = some (.inr (0, 175, .inl fr2)) := ((heqL153 (m + 83 + 7) ⟨⟨(zx_X16_solve_82 hgzZ9_53_0), (zx_X16_solve_83 hgzZ9_53_2), (zx_X16_solve_84)⟩, (zx_X16_solve_85)⟩).trans (heq140 (m + 83 + 7) (zx_X16_solve_81))).trans hAr2
                    have hb95 : wL153 (m + 83 + 8) = some (.inr (0, 361, .inl fu2)) := ((heqL153 (m + 83 + 8) ⟨⟨(zx_X16_solve_87 hgzZ9_53_0), (zx_X16_solve_88 hgzZ9_53_2), (zx_X16_solve_89)⟩, (zx_X16_solve_90)⟩).trans (heq140 (m + 83 + 8) (zx_X16_solve_86))).trans hAu2
                    have hTi9 : zTi wL153 (m + 83) 1 := ⟨_, _, _, _, _, _, _, _, _, hb87, hb88, hb89, hb90, hb91, hb92, hb93, hb94, hb95, ⟨hK20, hKn2, hKd2, ⟨hx9.1, hKx2.2⟩, hKm2, hKl2, hKr2, hKu2, zKk_12 (Or.inl rfl) (hKk2.2.1 (Or.inl rfl)) (fun e => absurd e (by decide)) ⟨hx9.2, (hKk2.2.2.2.1 (Or.inl rfl)).2⟩⟩⟩
                    refine zp_seg (pc' := 210) (lv' := [(0, .ref m), (2, .int to), (4, .ref (m + 276 + 2 * Z9_53.toNatClampNeg)), (5, .ref (m + 276 + 2 * (Z9_53 + 1).toNatClampNeg)), (6, .ref (m + 275)), (7, .int y7_153)]) (st' := [.int (Int32.ofInt (-1))]) [(209, .iconst (-1))] (by decide +kernel) rfl ?_
                    have hoffend : ∀ x, (x < m + 0 ∨ m + 0 + 8322 ≤ x) → wL153 x = w x := fun x hx => ((heqL153 x ⟨⟨(zx_X16_solve_94 hx hgzZ9_53_0), (zx_X16_solve_95 hx hgzZ9_53_2), (zx_X16_solve_96 hx)⟩, (zx_X16_solve_97 hx)⟩).trans ((heq140 x (zx_X16_solve_93 hx)).trans ((heq113 x ⟨(zx_X16_solve_91 hx), (zx_X16_solve_92 hx hgzZ9_53_0)⟩).trans ((heq86 x (zx_X16_solve_8 hx hgzZ9_53_1)).trans ((heq75 x (zx_X16_solve_7 hx hgzZ9_53_0)).trans ((heq63 x ⟨(zx_X16_solve_6 hx), (zx_X16_solve_8 hx hgzZ9_53_1)⟩).trans ((heq57 x ⟨(zx_X16_solve_6 hx), (zx_X16_solve_7 hx hgzZ9_53_0)⟩).trans (heq53 x (zx_X16_solve_6 hx)))))))))
                    have hb96 := hb69.si ((hsi113.tr hsi140).tr hsiL153)
                    have hb97 : zSlo wL153 (m + 7486) := hSl0.ag (fun x hx1 hx2 => ((heqL153 x ⟨⟨(zx_X16_solve_101 hx1 hx2 hgzZ9_53_0), (zx_X16_solve_102 hx1 hx2 hgzZ9_53_2), (zx_X16_solve_103 hx1 hx2)⟩, (zx_X16_solve_104 hx1 hx2)⟩).trans ((heq140 x (zx_X16_solve_100 hx1 hx2)).trans ((heq113 x ⟨(zx_X16_solve_98 hx1 hx2), (zx_X16_solve_99 hx1 hx2 hgzZ9_53_0)⟩).trans ((heq86 x (zx_X16_solve_11 hx1 hx2 hgzZ9_53_1)).trans ((heq75 x (zx_X16_solve_10 hx1 hx2 hgzZ9_53_0)).trans ((heq63 x ⟨(zx_X16_solve_9 hx1 hx2), (zx_X16_solve_11 hx1 hx2 hgzZ9_53_1)⟩).trans ((heq57 x ⟨(zx_X16_solve_9 hx1 hx2), (zx_X16_solve_10 hx1 hx2 hgzZ9_53_0)⟩).trans (heq53 x (zx_X16_solve_9 hx1 hx2))))))))))
                    have hb98 : zPil wL153 (m + 6316) := hPl0.ag (fun x hx1 hx2 => ((heqL153 x ⟨⟨(zx_X16_solve_108 hx1 hx2 hgzZ9_53_0), (zx_X16_solve_109 hx1 hx2 hgzZ9_53_2), (zx_X16_solve_110 hx1 hx2)⟩, (zx_X16_solve_111 hx1 hx2)⟩).trans ((heq140 x (zx_X16_solve_107 hx1 hx2)).trans ((heq113 x ⟨(zx_X16_solve_105 hx1 hx2), (zx_X16_solve_106 hx1 hx2 hgzZ9_53_0)⟩).trans ((heq86 x (zx_X16_solve_17 hx1 hx2 hgzZ9_53_1)).trans ((heq75 x (zx_X16_solve_16 hx1 hx2 hgzZ9_53_0)).trans ((heq63 x ⟨(zx_X16_solve_15 hx1 hx2), (zx_X16_solve_17 hx1 hx2 hgzZ9_53_1)⟩).trans ((heq57 x ⟨(zx_X16_solve_15 hx1 hx2), (zx_X16_solve_16 hx1 hx2 hgzZ9_53_0)⟩).trans (heq53 x (zx_X16_solve_15 hx1 hx2))))))))))
                    have hb99 : zBya wL153 (m + 92) 4000 := hBo0.ag (fun x hx1 hx2 => ((heqL153 x ⟨⟨(zx_X16_solve_115 hx1 hx2 hgzZ9_53_0), (zx_X16_solve_116 hx1 hx2 hgzZ9_53_2), (zx_X16_solve_117 hx1 hx2)⟩, (zx_X16_solve_118 hx1 hx2)⟩).trans ((heq140 x (zx_X16_solve_114 hx1 hx2)).trans ((heq113 x ⟨(zx_X16_solve_112 hx1 hx2), (zx_X16_solve_113 hx1 hx2 hgzZ9_53_0)⟩).trans ((heq86 x (zx_X16_solve_20 hx1 hx2 hgzZ9_53_1)).trans ((heq75 x (zx_X16_solve_19 hx1 hx2 hgzZ9_53_0)).trans ((heq63 x ⟨(zx_X16_solve_18 hx1 hx2), (zx_X16_solve_20 hx1 hx2 hgzZ9_53_1)⟩).trans ((heq57 x ⟨(zx_X16_solve_18 hx1 hx2), (zx_X16_solve_19 hx1 hx2 hgzZ9_53_0)⟩).trans (heq53 x (zx_X16_solve_18 hx1 hx2))))))))))
                    have hb100 : zBya wL153 (m + 93) 4000 := hBl0.ag (fun x hx1 hx2 => ((heqL153 x ⟨⟨(zx_X16_solve_122 hx1 hx2 hgzZ9_53_0), (zx_X16_solve_123 hx1 hx2 hgzZ9_53_2), (zx_X16_solve_124 hx1 hx2)⟩, (zx_X16_solve_125 hx1 hx2)⟩).trans ((heq140 x (zx_X16_solve_121 hx1 hx2)).trans ((heq113 x ⟨(zx_X16_solve_119 hx1 hx2), (zx_X16_solve_120 hx1 hx2 hgzZ9_53_0)⟩).trans ((heq86 x (zx_X16_solve_23 hx1 hx2 hgzZ9_53_1)).trans ((heq75 x (zx_X16_solve_22 hx1 hx2 hgzZ9_53_0)).trans ((heq63 x ⟨(zx_X16_solve_21 hx1 hx2), (zx_X16_solve_23 hx1 hx2 hgzZ9_53_1)⟩).trans ((heq57 x ⟨(zx_X16_solve_21 hx1 hx2), (zx_X16_solve_22 hx1 hx2 hgzZ9_53_0)⟩).trans (heq53 x (zx_X16_solve_21 hx1 hx2))))))))))
                    have hb101 : zGr wL153 (m + 100) 48 48 := hGa0.ag (fun x hx1 hx2 => ((heqL153 x ⟨⟨(zx_X16_solve_129 hx1 hx2 hgzZ9_53_0), (zx_X16_solve_130 hx1 hx2 hgzZ9_53_2), (zx_X16_solve_131 hx1 hx2)⟩, (zx_X16_solve_132 hx1 hx2)⟩).trans ((heq140 x (zx_X16_solve_128 hx1 hx2)).trans ((heq113 x ⟨(zx_X16_solve_126 hx1 hx2), (zx_X16_solve_127 hx1 hx2 hgzZ9_53_0)⟩).trans ((heq86 x (zx_X16_solve_26 hx1 hx2 hgzZ9_53_1)).trans ((heq75 x (zx_X16_solve_25 hx1 hx2 hgzZ9_53_0)).trans ((heq63 x ⟨(zx_X16_solve_24 hx1 hx2), (zx_X16_solve_26 hx1 hx2 hgzZ9_53_1)⟩).trans ((heq57 x ⟨(zx_X16_solve_24 hx1 hx2), (zx_X16_solve_25 hx1 hx2 hgzZ9_53_0)⟩).trans (heq53 x (zx_X16_solve_24 hx1 hx2))))))))))
                    have hb102 : zGr wL153 (m + 212) 60 46 := hGb0.ag (fun x hx1 hx2 => ((heqL153 x ⟨⟨(zx_X16_solve_136 hx1 hx2 hgzZ9_53_0), (zx_X16_solve_137 hx1 hx2 hgzZ9_53_2), (zx_X16_solve_138 hx1 hx2)⟩, (zx_X16_solve_139 hx1 hx2)⟩).trans ((heq140 x (zx_X16_solve_135 hx1 hx2)).trans ((heq113 x ⟨(zx_X16_solve_133 hx1 hx2), (zx_X16_solve_134 hx1 hx2 hgzZ9_53_0)⟩).trans ((heq86 x (zx_X16_solve_29 hx1 hx2 hgzZ9_53_1)).trans ((heq75 x (zx_X16_solve_28 hx1 hx2 hgzZ9_53_0)).trans ((heq63 x ⟨(zx_X16_solve_27 hx1 hx2), (zx_X16_solve_29 hx1 hx2 hgzZ9_53_1)⟩).trans ((heq57 x ⟨(zx_X16_solve_27 hx1 hx2), (zx_X16_solve_28 hx1 hx2 hgzZ9_53_0)⟩).trans (heq53 x (zx_X16_solve_27 hx1 hx2))))))))))
                    have hb103 : zBd wL153 (m + 149) := hBd0.ag (fun x hx1 hx2 => ((heqL153 x ⟨⟨(zx_X16_solve_143 hx1 hx2 hgzZ9_53_0), (zx_X16_solve_144 hx1 hx2 hgzZ9_53_2), (zx_X16_solve_145 hx1 hx2)⟩, (zx_X16_solve_146 hx1 hx2)⟩).trans ((heq140 x (zx_X16_solve_142 hx1 hx2)).trans ((heq113 x ⟨(zx_X16_solve_140 hx1 hx2), (zx_X16_solve_141 hx1 hx2 hgzZ9_53_0)⟩).trans ((heq86 x (zx_X16_solve_32 hx1 hx2 hgzZ9_53_1)).trans ((heq75 x (zx_X16_solve_31 hx1 hx2 hgzZ9_53_0)).trans ((heq63 x ⟨(zx_X16_solve_30 hx1 hx2), (zx_X16_solve_32 hx1 hx2 hgzZ9_53_1)⟩).trans ((heq57 x ⟨(zx_X16_solve_30 hx1 hx2), (zx_X16_solve_31 hx1 hx2 hgzZ9_53_0)⟩).trans (heq53 x (zx_X16_solve_30 hx1 hx2))))))))))
                    have hb104 : wL153 (m + 94) = some (.inr (0, 60, .inl ff)) := ((heqL153 (m + 94) ⟨⟨(zx_X16_solve_150 hgzZ9_53_0), (zx_X16_solve_151 hgzZ9_53_2), (zx_X16_solve_152)⟩, (zx_X16_solve_153)⟩).trans ((heq140 (m + 94) (zx_X16_solve_149)).trans ((heq113 (m + 94) ⟨(zx_X16_solve_147), (zx_X16_solve_148 hgzZ9_53_0)⟩).trans ((heq86 (m + 94) (zx_X16_solve_35 hgzZ9_53_1)).trans ((heq75 (m + 94) (zx_X16_solve_34 hgzZ9_53_0)).trans ((heq63 (m + 94) ⟨(zx_X16_solve_33), (zx_X16_solve_35 hgzZ9_53_1)⟩).trans ((heq57 (m + 94) ⟨(zx_X16_solve_33), (zx_X16_solve_34 hgzZ9_53_0)⟩).trans (heq53 (m + 94) (zx_X16_solve_33))))))))).trans hAf0
                    refine zr_retI (by decide +kernel) rfl ?_
                    rw [← hPost]; exact ⟨rfl, _, rfl, (((((((hsi53.tr hsi57).tr hsi63).tr hsi75).tr hsi86).tr hsi113).tr hsi140).tr hsiL153), hoffend, ⟨_, _, hmL153, hb96, hb97, (zTi.m hTi9), hb98, ⟨_, hb104, hff⟩, hb99, hb100, hb101, hb102, hb103, hI12, hI24, hI29, hI31, hIn⟩, _, rfl, trivial⟩
                  ·
                    replace cc197 := Classical.not_not.mp cc197
                    have f106 := zeqI cc197
                    rw [show (1 : Int32).toInt = 1 from by decide] at f106
                    refine zp_seg (pc' := 202) (lv' := [(0, .ref m), (2, .int to), (4, .ref (m + 276 + 2 * Z9_53.toNatClampNeg)), (5, .ref (m + 276 + 2 * (Z9_53 + 1).toNatClampNeg)), (6, .ref (m + 275)), (7, .int y7_153)]) (st' := [.ref (m + 276 + 2 * (Z9_53 + 1).toNatClampNeg)]) [(200, .aload 5)] (by decide +kernel) rfl ?_
                    obtain ⟨n107, f108, hu109, hu110, hu111, hu112, hu113⟩ := id hUq
                    have kn107 := zrng n107
                    refine zr_get (idx := 25) (k := 1) (v := .int n107) (by decide +kernel) (by decide +kernel) hu109 rfl ?_
                    refine zp_seg (pc' := 206) (lv' := [(0, .ref m), (2, .int to), (4, .ref (m + 276 + 2 * Z9_53.toNatClampNeg)), (5, .ref (m + 276 + 2 * (Z9_53 + 1).toNatClampNeg)), (6, .ref (m + 275)), (7, .int y7_153)]) (st' := [.int 1, .int n107]) [(205, .iconst 1)] (by decide +kernel) rfl ?_
                    refine zp_if (i := .if_icmp .eq 5) (c := n107 = 1) (t := 211) (e := 209) (lv' := [(0, .ref m), (2, .int to), (4, .ref (m + 276 + 2 * Z9_53.toNatClampNeg)), (5, .ref (m + 276 + 2 * (Z9_53 + 1).toNatClampNeg)), (6, .ref (m + 275)), (7, .int y7_153)]) (st' := []) (by decide +kernel) rfl (fun cc206 => ?_) (fun cc206 => ?_)
                    ·
                      have f114 := zeqI cc206
                      rw [show (1 : Int32).toInt = 1 from by decide] at f114
                      refine zp_seg (pc' := 217) (lv' := [(8, .int 0), (7, .int 0), (0, .ref m), (2, .int to), (4, .ref (m + 276 + 2 * Z9_53.toNatClampNeg)), (5, .ref (m + 276 + 2 * (Z9_53 + 1).toNatClampNeg)), (6, .ref (m + 275))]) (st' := []) [(211, .iconst 0), (212, .istore 7), (214, .iconst 0), (215, .istore 8)] (by decide +kernel) rfl ?_
                      have hL217 : ∀ (mm217 : Nat) (y7_217 : Int32) (y8_217 : Int32), (0 ≤ y8_217.toInt) → (y8_217.toInt ≤ 101) → (120 - y8_217.toInt).toNat < mm217 → zP (d + 1) zq_X16_solve 217 [(0, .ref m), (2, .int to), (6, .ref (m + 275)), (7, .int y7_217), (8, .int y8_217)] [] wL153 sz 0 0 Post := by
                        intro mm217
                        induction mm217 with
                        | zero => intros; omega
                        | succ mm217 ih217 =>
                        intro y7_217 y8_217 hi217_0 hi217_1 hmu217
                        have ky7_217 := zrng y7_217
                        have ky8_217 := zrng y8_217
                        have hz115 : (y8_217.toNatClampNeg : Int) = y8_217.toInt := znat (by first | omega | decide)
                        refine zp_seg (pc' := 221) (lv' := [(0, .ref m), (2, .int to), (6, .ref (m + 275)), (7, .int y7_217), (8, .int y8_217)]) (st' := [.int 100, .int y8_217]) [(217, .iload 8), (219, .bipush 100)] (by decide +kernel) rfl ?_
                        refine zp_if (i := .if_icmp .gt 22) (c := 100 < y8_217) (t := 243) (e := 224) (lv' := [(0, .ref m), (2, .int to), (6, .ref (m + 275)), (7, .int y7_217), (8, .int y8_217)]) (st' := []) (by decide +kernel) rfl (fun cc221 => ?_) (fun cc221 => ?_)
                        ·
                          have f117 := zltI cc221
                          rw [show (100 : Int32).toInt = 100 from by decide] at f117
                          refine zp_seg (pc' := 247) (lv' := [(0, .ref m), (2, .int to), (6, .ref (m + 275)), (7, .int y7_217), (8, .int y8_217)]) (st' := [.int 12, .int y7_217]) [(243, .iload 7), (245, .bipush 12)] (by decide +kernel) rfl ?_
                          refine zp_if (i := .if_icmp .le 5) (c := y7_217 ≤ 12) (t := 252) (e := 250) (lv' := [(0, .ref m), (2, .int to), (6, .ref (m + 275)), (7, .int y7_217), (8, .int y8_217)]) (st' := []) (by decide +kernel) rfl (fun cc247 => ?_) (fun cc247 => ?_)
                          ·
                            have f119 := zleI cc247
                            rw [show (12 : Int32).toInt = 12 from by decide] at f119
                            refine zp_seg (pc' := 256) (lv' := [(8, .int (Int32.ofInt (-49))), (0, .ref m), (2, .int to), (6, .ref (m + 275)), (7, .int y7_217)]) (st' := []) [(252, .bipush (-49)), (254, .istore 8)] (by decide +kernel) rfl ?_
                            have hL256 : ∀ (mm256 : Nat) (wL256 : zM) (y8_256 : Int32) (um : Int32) (ua : Nat → Int32) (ub : Nat → Int32) (uc : Nat → Int32) (ue : Nat → Int32), (zSI wL153 wL256) → (∀ x, ((x < m + 83 ∨ m + 83 + 1 ≤ x) ∧ (x < m + 83 + 3 ∨ m + 83 + 3 + 4 ≤ x)) ∧ x ≠ m → wL256 x = wL153 x) → (-49 ≤ y8_256.toInt) → (y8_256.toInt ≤ 52) → (wL256 (m + 83) = some (.inl (13, zTo (m + 83) (zs (zs g2 3 r137) 5 um)))) → (wL256 (m + 83 + 3) = some (.inr (0, 13, .inl ua))) → (wL256 (m + 83 + 4) = some (.inr (0, 13, .inl ub))) → (wL256 (m + 83 + 5) = some (.inr (0, 13, .inl uc))) → (wL256 (m + 83 + 6) = some (.inr (0, 13, .inl ue))) → (wL256 m = some (.inl (15, zMo m (zs (zs (zs g 1 (Z9_53 + 1 + 1)) 3 Z9_53) 16 Z9_53) r))) → ((0 ≤ um.toInt ∧ um.toInt ≤ 13) ∧ zLn ua ub uc um.toNatClampNeg) → (60 - y8_256.toInt).toNat < mm256 → zP (d + 1) zq_X16_solve 256 [(0, .ref m), (2, .int to), (6, .ref (m + 275)), (8, .int y8_256)] [] wL256 sz 0 0 Post := by
                              intro mm256
                              induction mm256 with
                              | zero => intros; omega
                              | succ mm256 ih256 =>
                              intro wL256 y8_256 um ua ub uc ue hsiL256 heqL256 hi256_0 hi256_1 huT hua hub huc hue hmL256 hul hmu256
                              have ky8_256 := zrng y8_256
                              refine zp_seg (pc' := 260) (lv' := [(0, .ref m), (2, .int to), (6, .ref (m + 275)), (8, .int y8_256)]) (st' := [.int 51, .int y8_256]) [(256, .iload 8), (258, .bipush 51)] (by decide +kernel) rfl ?_
                              refine zp_if (i := .if_icmp .gt 41) (c := 51 < y8_256) (t := 301) (e := 263) (lv' := [(0, .ref m), (2, .int to), (6, .ref (m + 275)), (8, .int y8_256)]) (st' := []) (by decide +kernel) rfl (fun cc260 => ?_) (fun cc260 => ?_)
                              ·
                                have f120 := zltI cc260
                                rw [show (51 : Int32).toInt = 51 from by decide] at f120
                                refine zp_seg (pc' := 302) (lv' := [(0, .ref m), (2, .int to), (6, .ref (m + 275)), (8, .int y8_256)]) (st' := [.ref m]) [(301, .aload_n 0)] (by decide +kernel) rfl ?_
                                refine zr_get (idx := 453) (k := 21) (v := .ref (m + 83)) (by decide +kernel) (by decide +kernel) hmL256 rfl ?_
                                refine zr_callS (idx := 307) (j := 312) (by decide +kernel) (by decide +kernel) (by decide) (show zMe 312 = some zq_X16_name from rfl) rfl rfl (Nat.le_of_ble_eq_true rfl) rfl rfl (Nat.le_of_ble_eq_true rfl) (Nat.le_of_ble_eq_true rfl) (c_X16_name (w := wL256) (m + 83) huT) (by omega) (fun v305 w305 hp305 => ?_)
                                obtain ⟨K9_305, hsi305, heq305, hp305_0, hp305_1, rfl⟩ := hp305
                                have hT305 : w305 (m + 83) = some (.inl (13, zTo (m + 83) (zs (zs (zs g2 0 K9_305) 3 r137) 5 um))) := hp305_0
                                show zP _ _ _ _ [] _ _ _ _ _
                                have hb121 : w305 (m + 83 + 1) = some (.inr (0, 325, .inl fn2)) := ((heq305 (m + 83 + 1) (zx_X16_solve_154)).trans ((heqL256 (m + 83 + 1) ⟨⟨(zx_X16_solve_154), (zx_X16_solve_155)⟩, (zx_X16_solve_55)⟩).trans ((heqL153 (m + 83 + 1) ⟨⟨(zx_X16_solve_52 hgzZ9_53_0), (zx_X16_solve_53 hgzZ9_53_2), (zx_X16_solve_54)⟩, (zx_X16_solve_55)⟩).trans (heq140 (m + 83 + 1) (zx_X16_solve_51))))).trans hAn2
                                have hb122 : w305 (m + 83 + 2) = some (.inr (0, 325, .inl fd2)) := ((heq305 (m + 83 + 2) (zx_X16_solve_156)).trans ((heqL256 (m + 83 + 2) ⟨⟨(zx_X16_solve_156), (zx_X16_solve_157)⟩, (zx_X16_solve_60)⟩).trans ((heqL153 (m + 83 + 2) ⟨⟨(zx_X16_solve_57 hgzZ9_53_0), (zx_X16_solve_58 hgzZ9_53_2), (zx_X16_solve_59)⟩, (zx_X16_solve_60)⟩).trans (heq140 (m + 83 + 2) (zx_X16_solve_56))))).trans hAd2
                                have hb123 : w305 (m + 83 + 3) = some (.inr (0, 13, .inl ua)) := (heq305 (m + 83 + 3) (zx_X16_solve_158)).trans hua
                                have hb124 : w305 (m + 83 + 4) = some (.inr (0, 13, .inl ub)) := (heq305 (m + 83 + 4) (zx_X16_solve_159)).trans hub
                                have hb125 : w305 (m + 83 + 5) = some (.inr (0, 13, .inl uc)) := (heq305 (m + 83 + 5) (zx_X16_solve_160)).trans huc
                                have hb126 : w305 (m + 83 + 6) = some (.inr (0, 13, .inl ue)) := (heq305 (m + 83 + 6) (zx_X16_solve_161)).trans hue
                                have hb127 : w305 (m + 83 + 7) = some (.inr (0, 175, .inl fr2)) := ((heq305 (m + 83 + 7) (zx_X16_solve_162)).trans ((heqL256 (m + 83 + 7) ⟨⟨(zx_X16_solve_162), (zx_X16_solve_163)⟩, (zx_X16_solve_85)⟩).trans ((heqL153 (m + 83 + 7) ⟨⟨(zx_X16_solve_82 hgzZ9_53_0), (zx_X16_solve_83 hgzZ9_53_2), (zx_X16_solve_84)⟩, (zx_X16_solve_85)⟩).trans (heq140 (m + 83 + 7) (zx_X16_solve_81))))).trans hAr2
                                have hb128 : w305 (m + 83 + 8) = some (.inr (0, 361, .inl fu2)) := ((heq305 (m + 83 + 8) (zx_X16_solve_164)).trans ((heqL256 (m + 83 + 8) ⟨⟨(zx_X16_solve_164), (zx_X16_solve_165)⟩, (zx_X16_solve_90)⟩).trans ((heqL153 (m + 83 + 8) ⟨⟨(zx_X16_solve_87 hgzZ9_53_0), (zx_X16_solve_88 hgzZ9_53_2), (zx_X16_solve_89)⟩, (zx_X16_solve_90)⟩).trans (heq140 (m + 83 + 8) (zx_X16_solve_86))))).trans hAu2
                                have hTi9 : zTi w305 (m + 83) K9_305 := ⟨_, _, _, _, _, _, _, _, _, hT305, hb121, hb122, hb123, hb124, hb125, hb126, hb127, hb128, ⟨rfl, hKn2, hKd2, ⟨hx9.1, hKx2.2⟩, hul.1, hul.2, hKr2, hKu2, zKk_12 hp305_1 (hKk2.2.1 (Or.inl rfl)) (fun _ => hnn9) ⟨hx9.2, (hKk2.2.2.2.1 (Or.inl rfl)).2⟩⟩⟩
                                have hb129 : zSlo w305 (m + 7486) := hSl0.ag (fun x hx1 hx2 => ((heq305 x (zx_X16_solve_166 hx1 hx2)).trans ((heqL256 x ⟨⟨(zx_X16_solve_166 hx1 hx2), (zx_X16_solve_167 hx1 hx2)⟩, (zx_X16_solve_104 hx1 hx2)⟩).trans ((heqL153 x ⟨⟨(zx_X16_solve_101 hx1 hx2 hgzZ9_53_0), (zx_X16_solve_102 hx1 hx2 hgzZ9_53_2), (zx_X16_solve_103 hx1 hx2)⟩, (zx_X16_solve_104 hx1 hx2)⟩).trans ((heq140 x (zx_X16_solve_100 hx1 hx2)).trans ((heq113 x ⟨(zx_X16_solve_98 hx1 hx2), (zx_X16_solve_99 hx1 hx2 hgzZ9_53_0)⟩).trans ((heq86 x (zx_X16_solve_11 hx1 hx2 hgzZ9_53_1)).trans ((heq75 x (zx_X16_solve_10 hx1 hx2 hgzZ9_53_0)).trans ((heq63 x ⟨(zx_X16_solve_9 hx1 hx2), (zx_X16_solve_11 hx1 hx2 hgzZ9_53_1)⟩).trans ((heq57 x ⟨(zx_X16_solve_9 hx1 hx2), (zx_X16_solve_10 hx1 hx2 hgzZ9_53_0)⟩).trans (heq53 x (zx_X16_solve_9 hx1 hx2))))))))))))
                                obtain ⟨kT, hkT⟩ := hb129 to.toNatClampNeg (by omega)
                                refine zp_seg (pc' := 310) (lv' := [(0, .ref m), (2, .int to), (6, .ref (m + 275)), (8, .int y8_256)]) (st' := [.int to, .ref m]) [(308, .aload_n 0), (309, .iload_n 2)] (by decide +kernel) rfl ?_
                                have hb130 : w305 m = some (.inl (15, zMo m (zs (zs (zs g 1 (Z9_53 + 1 + 1)) 3 Z9_53) 16 Z9_53) r)) := (heq305 m (zx_X16_solve_168)).trans hmL256
                                have hb131 := hb69.si ((((hsi113.tr hsi140).tr hsiL153).tr hsiL256).tr hsi305)
                                refine zr_callV (idx := 558) (j := 338) (by decide +kernel) (by decide +kernel) (show zMe 338 = some zq_X16_keep from rfl) rfl rfl (Nat.le_of_ble_eq_true rfl) rfl rfl hb130 (Nat.le_of_ble_eq_true rfl) (Nat.le_of_ble_eq_true rfl) (c_X16_keep (w := w305) m to hb130 hb131 hTi9 hkT (by first | omega | decide | assumption | exact zr1_1 | exact zr1_0 | fail "num")) (by omega) (fun v310 w310 hp310 => ?_)
                                obtain ⟨hsi310, heq310, hp310_0, r310, rfl, hr310⟩ := hp310
                                have kr310 := zrng r310
                                show zP _ _ _ _ [.int r310] _ _ _ _ _
                                have hSl313 := hSl0.up (w' := w310) to.toNatClampNeg hp310_0 (fun x h1 h2 h3 => ((heq310 x (by omega)).trans ((heq305 x (by omega)).trans ((heqL256 x (by omega)).trans ((heqL153 x (by omega)).trans ((heq140 x (by omega)).trans ((heq113 x (by omega)).trans ((heq86 x (by omega)).trans ((heq75 x (by omega)).trans ((heq63 x (by omega)).trans ((heq57 x (by omega)).trans (heq53 x (by omega)))))))))))))
                                have hb132 : w310 m = some (.inl (15, zMo m (zs (zs (zs g 1 (Z9_53 + 1 + 1)) 3 Z9_53) 16 Z9_53) r)) := (heq310 m (by omega)).trans hb130
                                have hoffend : ∀ x, (x < m + 0 ∨ m + 0 + 8322 ≤ x) → w310 x = w x := fun x hx => ((heq310 x (by omega)).trans ((heq305 x (zx_X16_solve_169 hx)).trans ((heqL256 x ⟨⟨(zx_X16_solve_169 hx), (zx_X16_solve_170 hx)⟩, (zx_X16_solve_97 hx)⟩).trans ((heqL153 x ⟨⟨(zx_X16_solve_94 hx hgzZ9_53_0), (zx_X16_solve_95 hx hgzZ9_53_2), (zx_X16_solve_96 hx)⟩, (zx_X16_solve_97 hx)⟩).trans ((heq140 x (zx_X16_solve_93 hx)).trans ((heq113 x ⟨(zx_X16_solve_91 hx), (zx_X16_solve_92 hx hgzZ9_53_0)⟩).trans ((heq86 x (zx_X16_solve_8 hx hgzZ9_53_1)).trans ((heq75 x (zx_X16_solve_7 hx hgzZ9_53_0)).trans ((heq63 x ⟨(zx_X16_solve_6 hx), (zx_X16_solve_8 hx hgzZ9_53_1)⟩).trans ((heq57 x ⟨(zx_X16_solve_6 hx), (zx_X16_solve_7 hx hgzZ9_53_0)⟩).trans (heq53 x (zx_X16_solve_6 hx))))))))))))
                                have hb133 := hb131.si hsi310
                                have hb134 : zTi w310 (m + 83) K9_305 := hTi9.ag (fun x hx1 hx2 => (heq310 x (by omega)))
                                have hb135 : zPil w310 (m + 6316) := hPl0.ag (fun x hx1 hx2 => ((heq310 x (by omega)).trans ((heq305 x (zx_X16_solve_171 hx1 hx2)).trans ((heqL256 x ⟨⟨(zx_X16_solve_171 hx1 hx2), (zx_X16_solve_172 hx1 hx2)⟩, (zx_X16_solve_111 hx1 hx2)⟩).trans ((heqL153 x ⟨⟨(zx_X16_solve_108 hx1 hx2 hgzZ9_53_0), (zx_X16_solve_109 hx1 hx2 hgzZ9_53_2), (zx_X16_solve_110 hx1 hx2)⟩, (zx_X16_solve_111 hx1 hx2)⟩).trans ((heq140 x (zx_X16_solve_107 hx1 hx2)).trans ((heq113 x ⟨(zx_X16_solve_105 hx1 hx2), (zx_X16_solve_106 hx1 hx2 hgzZ9_53_0)⟩).trans ((heq86 x (zx_X16_solve_17 hx1 hx2 hgzZ9_53_1)).trans ((heq75 x (zx_X16_solve_16 hx1 hx2 hgzZ9_53_0)).trans ((heq63 x ⟨(zx_X16_solve_15 hx1 hx2), (zx_X16_solve_17 hx1 hx2 hgzZ9_53_1)⟩).trans ((heq57 x ⟨(zx_X16_solve_15 hx1 hx2), (zx_X16_solve_16 hx1 hx2 hgzZ9_53_0)⟩).trans (heq53 x (zx_X16_solve_15 hx1 hx2)))))))))))))
                                have hb136 : zBya w310 (m + 92) 4000 := hBo0.ag (fun x hx1 hx2 => ((heq310 x (by omega)).trans ((heq305 x (zx_X16_solve_173 hx1 hx2)).trans ((heqL256 x ⟨⟨(zx_X16_solve_173 hx1 hx2), (zx_X16_solve_174 hx1 hx2)⟩, (zx_X16_solve_118 hx1 hx2)⟩).trans ((heqL153 x ⟨⟨(zx_X16_solve_115 hx1 hx2 hgzZ9_53_0), (zx_X16_solve_116 hx1 hx2 hgzZ9_53_2), (zx_X16_solve_117 hx1 hx2)⟩, (zx_X16_solve_118 hx1 hx2)⟩).trans ((heq140 x (zx_X16_solve_114 hx1 hx2)).trans ((heq113 x ⟨(zx_X16_solve_112 hx1 hx2), (zx_X16_solve_113 hx1 hx2 hgzZ9_53_0)⟩).trans ((heq86 x (zx_X16_solve_20 hx1 hx2 hgzZ9_53_1)).trans ((heq75 x (zx_X16_solve_19 hx1 hx2 hgzZ9_53_0)).trans ((heq63 x ⟨(zx_X16_solve_18 hx1 hx2), (zx_X16_solve_20 hx1 hx2 hgzZ9_53_1)⟩).trans ((heq57 x ⟨(zx_X16_solve_18 hx1 hx2), (zx_X16_solve_19 hx1 hx2 hgzZ9_53_0)⟩).trans (heq53 x (zx_X16_solve_18 hx1 hx2)))))))))))))
                                have hb137 : zBya w310 (m + 93) 4000 := hBl0.ag (fun x hx1 hx2 => ((heq310 x (by omega)).trans ((heq305 x (zx_X16_solve_175 hx1 hx2)).trans ((heqL256 x ⟨⟨(zx_X16_solve_175 hx1 hx2), (zx_X16_solve_176 hx1 hx2)⟩, (zx_X16_solve_125 hx1 hx2)⟩).trans ((heqL153 x ⟨⟨(zx_X16_solve_122 hx1 hx2 hgzZ9_53_0), (zx_X16_solve_123 hx1 hx2 hgzZ9_53_2), (zx_X16_solve_124 hx1 hx2)⟩, (zx_X16_solve_125 hx1 hx2)⟩).trans ((heq140 x (zx_X16_solve_121 hx1 hx2)).trans ((heq113 x ⟨(zx_X16_solve_119 hx1 hx2), (zx_X16_solve_120 hx1 hx2 hgzZ9_53_0)⟩).trans ((heq86 x (zx_X16_solve_23 hx1 hx2 hgzZ9_53_1)).trans ((heq75 x (zx_X16_solve_22 hx1 hx2 hgzZ9_53_0)).trans ((heq63 x ⟨(zx_X16_solve_21 hx1 hx2), (zx_X16_solve_23 hx1 hx2 hgzZ9_53_1)⟩).trans ((heq57 x ⟨(zx_X16_solve_21 hx1 hx2), (zx_X16_solve_22 hx1 hx2 hgzZ9_53_0)⟩).trans (heq53 x (zx_X16_solve_21 hx1 hx2)))))))))))))
                                have hb138 : zGr w310 (m + 100) 48 48 := hGa0.ag (fun x hx1 hx2 => ((heq310 x (by omega)).trans ((heq305 x (zx_X16_solve_177 hx1 hx2)).trans ((heqL256 x ⟨⟨(zx_X16_solve_177 hx1 hx2), (zx_X16_solve_178 hx1 hx2)⟩, (zx_X16_solve_132 hx1 hx2)⟩).trans ((heqL153 x ⟨⟨(zx_X16_solve_129 hx1 hx2 hgzZ9_53_0), (zx_X16_solve_130 hx1 hx2 hgzZ9_53_2), (zx_X16_solve_131 hx1 hx2)⟩, (zx_X16_solve_132 hx1 hx2)⟩).trans ((heq140 x (zx_X16_solve_128 hx1 hx2)).trans ((heq113 x ⟨(zx_X16_solve_126 hx1 hx2), (zx_X16_solve_127 hx1 hx2 hgzZ9_53_0)⟩).trans ((heq86 x (zx_X16_solve_26 hx1 hx2 hgzZ9_53_1)).trans ((heq75 x (zx_X16_solve_25 hx1 hx2 hgzZ9_53_0)).trans ((heq63 x ⟨(zx_X16_solve_24 hx1 hx2), (zx_X16_solve_26 hx1 hx2 hgzZ9_53_1)⟩).trans ((heq57 x ⟨(zx_X16_solve_24 hx1 hx2), (zx_X16_solve_25 hx1 hx2 hgzZ9_53_0)⟩).trans (heq53 x (zx_X16_solve_24 hx1 hx2)))))))))))))
                                have hb139 : zGr w310 (m + 212) 60 46 := hGb0.ag (fun x hx1 hx2 => ((heq310 x (by omega)).trans ((heq305 x (zx_X16_solve_179 hx1 hx2)).trans ((heqL256 x ⟨⟨(zx_X16_solve_179 hx1 hx2), (zx_X16_solve_180 hx1 hx2)⟩, (zx_X16_solve_139 hx1 hx2)⟩).trans ((heqL153 x ⟨⟨(zx_X16_solve_136 hx1 hx2 hgzZ9_53_0), (zx_X16_solve_137 hx1 hx2 hgzZ9_53_2), (zx_X16_solve_138 hx1 hx2)⟩, (zx_X16_solve_139 hx1 hx2)⟩).trans ((heq140 x (zx_X16_solve_135 hx1 hx2)).trans ((heq113 x ⟨(zx_X16_solve_133 hx1 hx2), (zx_X16_solve_134 hx1 hx2 hgzZ9_53_0)⟩).trans ((heq86 x (zx_X16_solve_29 hx1 hx2 hgzZ9_53_1)).trans ((heq75 x (zx_X16_solve_28 hx1 hx2 hgzZ9_53_0)).trans ((heq63 x ⟨(zx_X16_solve_27 hx1 hx2), (zx_X16_solve_29 hx1 hx2 hgzZ9_53_1)⟩).trans ((heq57 x ⟨(zx_X16_solve_27 hx1 hx2), (zx_X16_solve_28 hx1 hx2 hgzZ9_53_0)⟩).trans (heq53 x (zx_X16_solve_27 hx1 hx2)))))))))))))
                                have hb140 : zBd w310 (m + 149) := hBd0.ag (fun x hx1 hx2 => ((heq310 x (by omega)).trans ((heq305 x (zx_X16_solve_181 hx1 hx2)).trans ((heqL256 x ⟨⟨(zx_X16_solve_181 hx1 hx2), (zx_X16_solve_182 hx1 hx2)⟩, (zx_X16_solve_146 hx1 hx2)⟩).trans ((heqL153 x ⟨⟨(zx_X16_solve_143 hx1 hx2 hgzZ9_53_0), (zx_X16_solve_144 hx1 hx2 hgzZ9_53_2), (zx_X16_solve_145 hx1 hx2)⟩, (zx_X16_solve_146 hx1 hx2)⟩).trans ((heq140 x (zx_X16_solve_142 hx1 hx2)).trans ((heq113 x ⟨(zx_X16_solve_140 hx1 hx2), (zx_X16_solve_141 hx1 hx2 hgzZ9_53_0)⟩).trans ((heq86 x (zx_X16_solve_32 hx1 hx2 hgzZ9_53_1)).trans ((heq75 x (zx_X16_solve_31 hx1 hx2 hgzZ9_53_0)).trans ((heq63 x ⟨(zx_X16_solve_30 hx1 hx2), (zx_X16_solve_32 hx1 hx2 hgzZ9_53_1)⟩).trans ((heq57 x ⟨(zx_X16_solve_30 hx1 hx2), (zx_X16_solve_31 hx1 hx2 hgzZ9_53_0)⟩).trans (heq53 x (zx_X16_solve_30 hx1 hx2)))))))))))))
                                have hb141 : w310 (m + 94) = some (.inr (0, 60, .inl ff)) := ((heq310 (m + 94) (by omega)).trans ((heq305 (m + 94) (zx_X16_solve_183)).trans ((heqL256 (m + 94) ⟨⟨(zx_X16_solve_183), (zx_X16_solve_184)⟩, (zx_X16_solve_153)⟩).trans ((heqL153 (m + 94) ⟨⟨(zx_X16_solve_150 hgzZ9_53_0), (zx_X16_solve_151 hgzZ9_53_2), (zx_X16_solve_152)⟩, (zx_X16_solve_153)⟩).trans ((heq140 (m + 94) (zx_X16_solve_149)).trans ((heq113 (m + 94) ⟨(zx_X16_solve_147), (zx_X16_solve_148 hgzZ9_53_0)⟩).trans ((heq86 (m + 94) (zx_X16_solve_35 hgzZ9_53_1)).trans ((heq75 (m + 94) (zx_X16_solve_34 hgzZ9_53_0)).trans ((heq63 (m + 94) ⟨(zx_X16_solve_33), (zx_X16_solve_35 hgzZ9_53_1)⟩).trans ((heq57 (m + 94) ⟨(zx_X16_solve_33), (zx_X16_solve_34 hgzZ9_53_0)⟩).trans (heq53 (m + 94) (zx_X16_solve_33)))))))))))).trans hAf0
                                refine zr_retI (by decide +kernel) rfl ?_
                                rw [← hPost]; exact ⟨rfl, _, rfl, ((((((((((hsi53.tr hsi57).tr hsi63).tr hsi75).tr hsi86).tr hsi113).tr hsi140).tr hsiL153).tr hsiL256).tr hsi305).tr hsi310), hoffend, ⟨_, _, hb132, hb133, hSl313, (zTi.m hb134), hb135, ⟨_, hb141, hff⟩, hb136, hb137, hb138, hb139, hb140, hI12, hI24, hI29, hI31, hIn⟩, _, rfl, trivial⟩
                              ·
                                have f142 := znltI cc260
                                rw [show (51 : Int32).toInt = 51 from by decide] at f142
                                refine zp_seg (pc' := 270) (lv' := [(0, .ref m), (2, .int to), (6, .ref (m + 275)), (8, .int y8_256)]) (st' := [.int (y8_256 + 49), .ref (m + 275)]) [(263, .aload 6), (265, .iload 8), (267, .bipush 49), (269, .iadd)] (by decide +kernel) rfl ?_
                                have k143 := zaddC y8_256 49 (n := 49) (by decide) (by omega) (by omega)
                                generalize ev270 : (y8_256 + 49 : Int32) = v270 at k143 ⊢
                                have kv270 := zrng v270
                                have hb144 : wL256 (m + 275) = some (.inr (0, 101, .inl hF)) := (heqL256 (m + 275) ⟨⟨(zx_X16_solve_185), (zx_X16_solve_186)⟩, (zx_X16_solve_187)⟩).trans hAh
                                refine zr_iald (by decide +kernel) hb144 (zin (by first | omega | decide) (by first | omega | decide)) ?_
                                have hz145 : (v270.toNatClampNeg : Int) = v270.toInt := znat (by first | omega | decide)
                                obtain ⟨x270, ex270⟩ : ∃ x9, x9 = hF (v270.toNatClampNeg) := ⟨_, rfl⟩
                                rw [← ex270]
                                have kx270 := zrng x270
                                have hJ295 : ∀ (wL295 : zM) (vm : Int32) (va : Nat → Int32) (vb : Nat → Int32) (vc : Nat → Int32) (ve : Nat → Int32), (zSI wL256 wL295) → (∀ x, ((x < m + 83 ∨ m + 83 + 1 ≤ x) ∧ (x < m + 83 + 3 ∨ m + 83 + 3 + 4 ≤ x)) ∧ x ≠ m → wL295 x = wL256 x) → (wL295 (m + 83) = some (.inl (13, zTo (m + 83) (zs (zs g2 3 r137) 5 vm)))) → (wL295 (m + 83 + 3) = some (.inr (0, 13, .inl va))) → (wL295 (m + 83 + 4) = some (.inr (0, 13, .inl vb))) → (wL295 (m + 83 + 5) = some (.inr (0, 13, .inl vc))) → (wL295 (m + 83 + 6) = some (.inr (0, 13, .inl ve))) → (wL295 m = some (.inl (15, zMo m (zs (zs (zs g 1 (Z9_53 + 1 + 1)) 3 Z9_53) 16 Z9_53) r))) → ((0 ≤ vm.toInt ∧ vm.toInt ≤ 13) ∧ zLn va vb vc vm.toNatClampNeg) → zP (d + 1) zq_X16_solve 295 [(0, .ref m), (2, .int to), (6, .ref (m + 275)), (8, .int y8_256)] [] wL295 sz 0 0 Post := by
                                  intro wL295 vm va vb vc ve hsiL295 heqL295 hvT hva hvb hvc hve hmL295 hvl
                                  refine zp_seg (pc' := 298) (lv' := [(8, .int (y8_256 + 1)), (0, .ref m), (2, .int to), (6, .ref (m + 275))]) (st' := []) [(295, .iinc 8 1)] (by decide +kernel) rfl ?_
                                  have k146 := zaddC y8_256 1 (n := 1) (by decide) (by omega) (by omega)
                                  generalize ev298 : (y8_256 + 1 : Int32) = v298 at k146 ⊢
                                  have kv298 := zrng v298
                                  refine zp_seg (pc' := 256) (lv' := [(8, .int v298), (0, .ref m), (2, .int to), (6, .ref (m + 275))]) (st' := []) [(298, .goto (-42))] (by decide +kernel) rfl ?_
                                  exact (ih256 wL295 v298 (vm) (va) (vb) (vc) (ve) (hsiL256.tr hsiL295) (fun x hx => ((heqL295 x ⟨⟨hx.1.1, hx.1.2⟩, hx.2⟩).trans (heqL256 x ⟨⟨hx.1.1, hx.1.2⟩, hx.2⟩))) (by first | assumption | omega | decide) (by first | assumption | omega | decide) (by
                                        exact hvT) hva hvb hvc hve hmL295 (by
                                        exact hvl) (by omega)).more (zfa1 rfl (zfa1 rfl (zfa1 rfl (zfa1 rfl (zfa0)))))
                                refine zp_if (i := .ifCond .eq 24) (c := x270 = 0) (t := 295) (e := 274) (lv' := [(0, .ref m), (2, .int to), (6, .ref (m + 275)), (8, .int y8_256)]) (st' := []) (by decide +kernel) rfl (fun cc271 => ?_) (fun cc271 => ?_)
                                ·
                                  have f147 := zeqI cc271
                                  rw [show (0 : Int32).toInt = 0 from by decide] at f147
                                  exact (hJ295 wL256 (um) (ua) (ub) (uc) (ue) zSI.rf (fun _ _ => rfl) (by
                                        exact huT) hua hub huc hue hmL256 (by
                                        first | exact hp292_5 | exact hul)).more (zfa1 rfl (zfa1 rfl (zfa1 rfl (zfa1 rfl (zfa0)))))
                                ·
                                  have f148 := zneI cc271
                                  rw [show (0 : Int32).toInt = 0 from by decide] at f148
                                  refine zp_seg (pc' := 275) (lv' := [(0, .ref m), (2, .int to), (6, .ref (m + 275)), (8, .int y8_256)]) (st' := [.ref m]) [(274, .aload_n 0)] (by decide +kernel) rfl ?_
                                  refine zr_get (idx := 453) (k := 21) (v := .ref (m + 83)) (by decide +kernel) (by decide +kernel) hmL256 rfl ?_
                                  refine zp_seg (pc' := 284) (lv' := [(0, .ref m), (2, .int to), (6, .ref (m + 275)), (8, .int y8_256)]) (st' := [.int (y8_256 - 1), .int 0, .int 1, .ref (m + 83)]) [(278, .iconst 1), (279, .iconst 0), (280, .iload 8), (282, .iconst 1), (283, .isub)] (by decide +kernel) rfl ?_
                                  have k149 := zsubC y8_256 1 (n := 1) (by decide) (by omega) (by omega)
                                  generalize ev284 : (y8_256 - 1 : Int32) = v284 at k149 ⊢
                                  have kv284 := zrng v284
                                  refine zp_seg (pc' := 291) (lv' := [(0, .ref m), (2, .int to), (6, .ref (m + 275)), (8, .int y8_256)]) (st' := [.int (y8_256 + 49), .ref (m + 275), .int v284, .int 0, .int 1, .ref (m + 83)]) [(284, .aload 6), (286, .iload 8), (288, .bipush 49), (290, .iadd)] (by decide +kernel) rfl ?_
                                  have k150 := zaddC y8_256 49 (n := 49) (by decide) (by omega) (by omega)
                                  generalize ev291 : (y8_256 + 49 : Int32) = v291 at k150 ⊢
                                  have kv291 := zrng v291
                                  refine zr_iald (by decide +kernel) hb144 (zin (by first | omega | decide) (by first | omega | decide)) ?_
                                  have hz151 : (v291.toNatClampNeg : Int) = v291.toInt := znat (by first | omega | decide)
                                  obtain ⟨x291, ex291⟩ : ∃ x9, x9 = hF (v291.toNatClampNeg) := ⟨_, rfl⟩
                                  rw [← ex291]
                                  have kx291 := zrng x291
                                  refine zr_callS (idx := 284) (j := 309) (by decide +kernel) (by decide +kernel) (by decide) (show zMe 309 = some zq_X16_factor from rfl) rfl rfl (Nat.le_of_ble_eq_true rfl) rfl rfl (Nat.le_of_ble_eq_true rfl) (Nat.le_of_ble_eq_true rfl) (c_X16_factor (w := wL256) (m + 83) 1 0 v284 x291 huT hua hub huc hue (by exact hul.1) (by exact hul.2) (by first | omega | decide | assumption | exact zr1_1 | exact zr1_0 | fail "num") (by first | omega | decide | assumption | exact zr1_1 | exact zr1_0 | fail "num") (by exact Or.inl (by decide)) (by first | omega | decide | assumption | exact zr1_1 | exact zr1_0 | fail "num")) (by omega) (fun v292 w292 hp292 => ?_)
                                  obtain ⟨M9_292, Fa_292, Fb_292, Fc_292, Fe_292, hsi292, heq292, hp292_0, hp292_1, hp292_2, hp292_3, hp292_4, hp292_5, rfl⟩ := hp292
                                  have hT292 : w292 (m + 83) = some (.inl (13, zTo (m + 83) (zs (zs g2 3 r137) 5 M9_292))) := hp292_0
                                  show zP _ _ _ _ [] _ _ _ _ _
                                  have hb152 : w292 m = some (.inl (15, zMo m (zs (zs (zs g 1 (Z9_53 + 1 + 1)) 3 Z9_53) 16 Z9_53) r)) := (heq292 m ⟨(zx_X16_solve_168), (zx_X16_solve_188)⟩).trans hmL256
                                  exact (hJ295 w292 (M9_292) (Fa_292) (Fb_292) (Fc_292) (Fe_292) hsi292 (fun x hx => (heq292 x ⟨hx.1.1, hx.1.2⟩)) (by
                                        exact hT292) hp292_1 hp292_2 hp292_3 hp292_4 hb152 (by
                                        first | exact hp292_5 | exact hul)).more (zfa1 rfl (zfa1 rfl (zfa1 rfl (zfa1 rfl (zfa0)))))
                            have hb154 : wL153 (m + 83) = some (.inl (13, zTo (m + 83) (zs g2 3 r137))) := (heqL153 (m + 83) ⟨⟨(zx_X16_solve_47 hgzZ9_53_0), (zx_X16_solve_48 hgzZ9_53_2), (zx_X16_solve_49)⟩, (zx_X16_solve_50)⟩).trans hc140
                            have hb155 : wL153 (m + 83 + 3) = some (.inr (0, 13, .inl fa2)) := ((heqL153 (m + 83 + 3) ⟨⟨(zx_X16_solve_62 hgzZ9_53_0), (zx_X16_solve_63 hgzZ9_53_2), (zx_X16_solve_64)⟩, (zx_X16_solve_65)⟩).trans (heq140 (m + 83 + 3) (zx_X16_solve_61))).trans hAa2
                            have hb156 : wL153 (m + 83 + 4) = some (.inr (0, 13, .inl fb2)) := ((heqL153 (m + 83 + 4) ⟨⟨(zx_X16_solve_67 hgzZ9_53_0), (zx_X16_solve_68 hgzZ9_53_2), (zx_X16_solve_69)⟩, (zx_X16_solve_70)⟩).trans (heq140 (m + 83 + 4) (zx_X16_solve_66))).trans hAb2
                            have hb157 : wL153 (m + 83 + 5) = some (.inr (0, 13, .inl fc2)) := ((heqL153 (m + 83 + 5) ⟨⟨(zx_X16_solve_72 hgzZ9_53_0), (zx_X16_solve_73 hgzZ9_53_2), (zx_X16_solve_74)⟩, (zx_X16_solve_75)⟩).trans (heq140 (m + 83 + 5) (zx_X16_solve_71))).trans hAc2
                            have hb158 : wL153 (m + 83 + 6) = some (.inr (0, 13, .inl fe2)) := ((heqL153 (m + 83 + 6) ⟨⟨(zx_X16_solve_77 hgzZ9_53_0), (zx_X16_solve_78 hgzZ9_53_2), (zx_X16_solve_79)⟩, (zx_X16_solve_80)⟩).trans (heq140 (m + 83 + 6) (zx_X16_solve_76))).trans hAe2
                            exact (hL256 _ wL153 (Int32.ofInt (-49)) ((g2 5)) (fa2) (fb2) (fc2) (fe2) zSI.rf (fun _ _ => rfl) (by first | assumption | omega | decide) (by first | assumption | omega | decide) (by
                                  exact hb154) hb155 hb156 hb157 hb158 hmL153 (by
                                  exact ⟨hKm2, hKl2⟩) (Nat.lt_succ_self _)).more (zfa1 rfl (zfa1 rfl (zfa1 rfl (zfa1 rfl (zfa0)))))
                          ·
                            have f160 := znleI cc247
                            rw [show (12 : Int32).toInt = 12 from by decide] at f160
                            have hb161 : wL153 (m + 83) = some (.inl (13, zTo (m + 83) (zs g2 3 r137))) := (heqL153 (m + 83) ⟨⟨(zx_X16_solve_47 hgzZ9_53_0), (zx_X16_solve_48 hgzZ9_53_2), (zx_X16_solve_49)⟩, (zx_X16_solve_50)⟩).trans hc140
                            have hb162 : wL153 (m + 83 + 1) = some (.inr (0, 325, .inl fn2)) := ((heqL153 (m + 83 + 1) ⟨⟨(zx_X16_solve_52 hgzZ9_53_0), (zx_X16_solve_53 hgzZ9_53_2), (zx_X16_solve_54)⟩, (zx_X16_solve_55)⟩).trans (heq140 (m + 83 + 1) (zx_X16_solve_51))).trans hAn2
                            have hb163 : wL153 (m + 83 + 2) = some (.inr (0, 325, .inl fd2)) := ((heqL153 (m + 83 + 2) ⟨⟨(zx_X16_solve_57 hgzZ9_53_0), (zx_X16_solve_58 hgzZ9_53_2), (zx_X16_solve_59)⟩, (zx_X16_solve_60)⟩).trans (heq140 (m + 83 + 2) (zx_X16_solve_56))).trans hAd2
                            have hb164 : wL153 (m + 83 + 3) = some (.inr (0, 13, .inl fa2)) := ((heqL153 (m + 83 + 3) ⟨⟨(zx_X16_solve_62 hgzZ9_53_0), (zx_X16_solve_63 hgzZ9_53_2), (zx_X16_solve_64)⟩, (zx_X16_solve_65)⟩).trans (heq140 (m + 83 + 3) (zx_X16_solve_61))).trans hAa2
                            have hb165 : wL153 (m + 83 + 4) = some (.inr (0, 13, .inl fb2)) := ((heqL153 (m + 83 + 4) ⟨⟨(zx_X16_solve_67 hgzZ9_53_0), (zx_X16_solve_68 hgzZ9_53_2), (zx_X16_solve_69)⟩, (zx_X16_solve_70)⟩).trans (heq140 (m + 83 + 4) (zx_X16_solve_66))).trans hAb2
                            have hb166 : wL153 (m + 83 + 5) = some (.inr (0, 13, .inl fc2)) := ((heqL153 (m + 83 + 5) ⟨⟨(zx_X16_solve_72 hgzZ9_53_0), (zx_X16_solve_73 hgzZ9_53_2), (zx_X16_solve_74)⟩, (zx_X16_solve_75)⟩).trans (heq140 (m + 83 + 5) (zx_X16_solve_71))).trans hAc2
                            have hb167 : wL153 (m + 83 + 6) = some (.inr (0, 13, .inl fe2)) := ((heqL153 (m + 83 + 6) ⟨⟨(zx_X16_solve_77 hgzZ9_53_0), (zx_X16_solve_78 hgzZ9_53_2), (zx_X16_solve_79)⟩, (zx_X16_solve_80)⟩).trans (heq140 (m + 83 + 6) (zx_X16_solve_76))).trans hAe2
                            have hb168 : wL153 (m + 83 + 7) = some (.inr (0, 175, .inl fr2)) := ((heqL153 (m + 83 + 7) ⟨⟨(zx_X16_solve_82 hgzZ9_53_0), (zx_X16_solve_83 hgzZ9_53_2), (zx_X16_solve_84)⟩, (zx_X16_solve_85)⟩).trans (heq140 (m + 83 + 7) (zx_X16_solve_81))).trans hAr2
                            have hb169 : wL153 (m + 83 + 8) = some (.inr (0, 361, .inl fu2)) := ((heqL153 (m + 83 + 8) ⟨⟨(zx_X16_solve_87 hgzZ9_53_0), (zx_X16_solve_88 hgzZ9_53_2), (zx_X16_solve_89)⟩, (zx_X16_solve_90)⟩).trans (heq140 (m + 83 + 8) (zx_X16_solve_86))).trans hAu2
                            have hTi9 : zTi wL153 (m + 83) 1 := ⟨_, _, _, _, _, _, _, _, _, hb161, hb162, hb163, hb164, hb165, hb166, hb167, hb168, hb169, ⟨hK20, hKn2, hKd2, ⟨hx9.1, hKx2.2⟩, hKm2, hKl2, hKr2, hKu2, zKk_12 (Or.inl rfl) (hKk2.2.1 (Or.inl rfl)) (fun e => absurd e (by decide)) ⟨hx9.2, (hKk2.2.2.2.1 (Or.inl rfl)).2⟩⟩⟩
                            refine zp_seg (pc' := 251) (lv' := [(0, .ref m), (2, .int to), (6, .ref (m + 275)), (7, .int y7_217), (8, .int y8_217)]) (st' := [.int (Int32.ofInt (-1))]) [(250, .iconst (-1))] (by decide +kernel) rfl ?_
                            have hoffend : ∀ x, (x < m + 0 ∨ m + 0 + 8322 ≤ x) → wL153 x = w x := fun x hx => ((heqL153 x ⟨⟨(zx_X16_solve_94 hx hgzZ9_53_0), (zx_X16_solve_95 hx hgzZ9_53_2), (zx_X16_solve_96 hx)⟩, (zx_X16_solve_97 hx)⟩).trans ((heq140 x (zx_X16_solve_93 hx)).trans ((heq113 x ⟨(zx_X16_solve_91 hx), (zx_X16_solve_92 hx hgzZ9_53_0)⟩).trans ((heq86 x (zx_X16_solve_8 hx hgzZ9_53_1)).trans ((heq75 x (zx_X16_solve_7 hx hgzZ9_53_0)).trans ((heq63 x ⟨(zx_X16_solve_6 hx), (zx_X16_solve_8 hx hgzZ9_53_1)⟩).trans ((heq57 x ⟨(zx_X16_solve_6 hx), (zx_X16_solve_7 hx hgzZ9_53_0)⟩).trans (heq53 x (zx_X16_solve_6 hx)))))))))
                            have hb170 := hb69.si ((hsi113.tr hsi140).tr hsiL153)
                            have hb171 : zSlo wL153 (m + 7486) := hSl0.ag (fun x hx1 hx2 => ((heqL153 x ⟨⟨(zx_X16_solve_101 hx1 hx2 hgzZ9_53_0), (zx_X16_solve_102 hx1 hx2 hgzZ9_53_2), (zx_X16_solve_103 hx1 hx2)⟩, (zx_X16_solve_104 hx1 hx2)⟩).trans ((heq140 x (zx_X16_solve_100 hx1 hx2)).trans ((heq113 x ⟨(zx_X16_solve_98 hx1 hx2), (zx_X16_solve_99 hx1 hx2 hgzZ9_53_0)⟩).trans ((heq86 x (zx_X16_solve_11 hx1 hx2 hgzZ9_53_1)).trans ((heq75 x (zx_X16_solve_10 hx1 hx2 hgzZ9_53_0)).trans ((heq63 x ⟨(zx_X16_solve_9 hx1 hx2), (zx_X16_solve_11 hx1 hx2 hgzZ9_53_1)⟩).trans ((heq57 x ⟨(zx_X16_solve_9 hx1 hx2), (zx_X16_solve_10 hx1 hx2 hgzZ9_53_0)⟩).trans (heq53 x (zx_X16_solve_9 hx1 hx2))))))))))
                            have hb172 : zPil wL153 (m + 6316) := hPl0.ag (fun x hx1 hx2 => ((heqL153 x ⟨⟨(zx_X16_solve_108 hx1 hx2 hgzZ9_53_0), (zx_X16_solve_109 hx1 hx2 hgzZ9_53_2), (zx_X16_solve_110 hx1 hx2)⟩, (zx_X16_solve_111 hx1 hx2)⟩).trans ((heq140 x (zx_X16_solve_107 hx1 hx2)).trans ((heq113 x ⟨(zx_X16_solve_105 hx1 hx2), (zx_X16_solve_106 hx1 hx2 hgzZ9_53_0)⟩).trans ((heq86 x (zx_X16_solve_17 hx1 hx2 hgzZ9_53_1)).trans ((heq75 x (zx_X16_solve_16 hx1 hx2 hgzZ9_53_0)).trans ((heq63 x ⟨(zx_X16_solve_15 hx1 hx2), (zx_X16_solve_17 hx1 hx2 hgzZ9_53_1)⟩).trans ((heq57 x ⟨(zx_X16_solve_15 hx1 hx2), (zx_X16_solve_16 hx1 hx2 hgzZ9_53_0)⟩).trans (heq53 x (zx_X16_solve_15 hx1 hx2))))))))))
                            have hb173 : zBya wL153 (m + 92) 4000 := hBo0.ag (fun x hx1 hx2 => ((heqL153 x ⟨⟨(zx_X16_solve_115 hx1 hx2 hgzZ9_53_0), (zx_X16_solve_116 hx1 hx2 hgzZ9_53_2), (zx_X16_solve_117 hx1 hx2)⟩, (zx_X16_solve_118 hx1 hx2)⟩).trans ((heq140 x (zx_X16_solve_114 hx1 hx2)).trans ((heq113 x ⟨(zx_X16_solve_112 hx1 hx2), (zx_X16_solve_113 hx1 hx2 hgzZ9_53_0)⟩).trans ((heq86 x (zx_X16_solve_20 hx1 hx2 hgzZ9_53_1)).trans ((heq75 x (zx_X16_solve_19 hx1 hx2 hgzZ9_53_0)).trans ((heq63 x ⟨(zx_X16_solve_18 hx1 hx2), (zx_X16_solve_20 hx1 hx2 hgzZ9_53_1)⟩).trans ((heq57 x ⟨(zx_X16_solve_18 hx1 hx2), (zx_X16_solve_19 hx1 hx2 hgzZ9_53_0)⟩).trans (heq53 x (zx_X16_solve_18 hx1 hx2))))))))))
                            have hb174 : zBya wL153 (m + 93) 4000 := hBl0.ag (fun x hx1 hx2 => ((heqL153 x ⟨⟨(zx_X16_solve_122 hx1 hx2 hgzZ9_53_0), (zx_X16_solve_123 hx1 hx2 hgzZ9_53_2), (zx_X16_solve_124 hx1 hx2)⟩, (zx_X16_solve_125 hx1 hx2)⟩).trans ((heq140 x (zx_X16_solve_121 hx1 hx2)).trans ((heq113 x ⟨(zx_X16_solve_119 hx1 hx2), (zx_X16_solve_120 hx1 hx2 hgzZ9_53_0)⟩).trans ((heq86 x (zx_X16_solve_23 hx1 hx2 hgzZ9_53_1)).trans ((heq75 x (zx_X16_solve_22 hx1 hx2 hgzZ9_53_0)).trans ((heq63 x ⟨(zx_X16_solve_21 hx1 hx2), (zx_X16_solve_23 hx1 hx2 hgzZ9_53_1)⟩).trans ((heq57 x ⟨(zx_X16_solve_21 hx1 hx2), (zx_X16_solve_22 hx1 hx2 hgzZ9_53_0)⟩).trans (heq53 x (zx_X16_solve_21 hx1 hx2))))))))))
                            have hb175 : zGr wL153 (m + 100) 48 48 := hGa0.ag (fun x hx1 hx2 => ((heqL153 x ⟨⟨(zx_X16_solve_129 hx1 hx2 hgzZ9_53_0), (zx_X16_solve_130 hx1 hx2 hgzZ9_53_2), (zx_X16_solve_131 hx1 hx2)⟩, (zx_X16_solve_132 hx1 hx2)⟩).trans ((heq140 x (zx_X16_solve_128 hx1 hx2)).trans ((heq113 x ⟨(zx_X16_solve_126 hx1 hx2), (zx_X16_solve_127 hx1 hx2 hgzZ9_53_0)⟩).trans ((heq86 x (zx_X16_solve_26 hx1 hx2 hgzZ9_53_1)).trans ((heq75 x (zx_X16_solve_25 hx1 hx2 hgzZ9_53_0)).trans ((heq63 x ⟨(zx_X16_solve_24 hx1 hx2), (zx_X16_solve_26 hx1 hx2 hgzZ9_53_1)⟩).trans ((heq57 x ⟨(zx_X16_solve_24 hx1 hx2), (zx_X16_solve_25 hx1 hx2 hgzZ9_53_0)⟩).trans (heq53 x (zx_X16_solve_24 hx1 hx2))))))))))
                            have hb176 : zGr wL153 (m + 212) 60 46 := hGb0.ag (fun x hx1 hx2 => ((heqL153 x ⟨⟨(zx_X16_solve_136 hx1 hx2 hgzZ9_53_0), (zx_X16_solve_137 hx1 hx2 hgzZ9_53_2), (zx_X16_solve_138 hx1 hx2)⟩, (zx_X16_solve_139 hx1 hx2)⟩).trans ((heq140 x (zx_X16_solve_135 hx1 hx2)).trans ((heq113 x ⟨(zx_X16_solve_133 hx1 hx2), (zx_X16_solve_134 hx1 hx2 hgzZ9_53_0)⟩).trans ((heq86 x (zx_X16_solve_29 hx1 hx2 hgzZ9_53_1)).trans ((heq75 x (zx_X16_solve_28 hx1 hx2 hgzZ9_53_0)).trans ((heq63 x ⟨(zx_X16_solve_27 hx1 hx2), (zx_X16_solve_29 hx1 hx2 hgzZ9_53_1)⟩).trans ((heq57 x ⟨(zx_X16_solve_27 hx1 hx2), (zx_X16_solve_28 hx1 hx2 hgzZ9_53_0)⟩).trans (heq53 x (zx_X16_solve_27 hx1 hx2))))))))))
                            have hb177 : zBd wL153 (m + 149) := hBd0.ag (fun x hx1 hx2 => ((heqL153 x ⟨⟨(zx_X16_solve_143 hx1 hx2 hgzZ9_53_0), (zx_X16_solve_144 hx1 hx2 hgzZ9_53_2), (zx_X16_solve_145 hx1 hx2)⟩, (zx_X16_solve_146 hx1 hx2)⟩).trans ((heq140 x (zx_X16_solve_142 hx1 hx2)).trans ((heq113 x ⟨(zx_X16_solve_140 hx1 hx2), (zx_X16_solve_141 hx1 hx2 hgzZ9_53_0)⟩).trans ((heq86 x (zx_X16_solve_32 hx1 hx2 hgzZ9_53_1)).trans ((heq75 x (zx_X16_solve_31 hx1 hx2 hgzZ9_53_0)).trans ((heq63 x ⟨(zx_X16_solve_30 hx1 hx2), (zx_X16_solve_32 hx1 hx2 hgzZ9_53_1)⟩).trans ((heq57 x ⟨(zx_X16_solve_30 hx1 hx2), (zx_X16_solve_31 hx1 hx2 hgzZ9_53_0)⟩).trans (heq53 x (zx_X16_solve_30 hx1 hx2))))))))))
                            have hb178 : wL153 (m + 94) = some (.inr (0, 60, .inl ff)) := ((heqL153 (m + 94) ⟨⟨(zx_X16_solve_150 hgzZ9_53_0), (zx_X16_solve_151 hgzZ9_53_2), (zx_X16_solve_152)⟩, (zx_X16_solve_153)⟩).trans ((heq140 (m + 94) (zx_X16_solve_149)).trans ((heq113 (m + 94) ⟨(zx_X16_solve_147), (zx_X16_solve_148 hgzZ9_53_0)⟩).trans ((heq86 (m + 94) (zx_X16_solve_35 hgzZ9_53_1)).trans ((heq75 (m + 94) (zx_X16_solve_34 hgzZ9_53_0)).trans ((heq63 (m + 94) ⟨(zx_X16_solve_33), (zx_X16_solve_35 hgzZ9_53_1)⟩).trans ((heq57 (m + 94) ⟨(zx_X16_solve_33), (zx_X16_solve_34 hgzZ9_53_0)⟩).trans (heq53 (m + 94) (zx_X16_solve_33))))))))).trans hAf0
                            refine zr_retI (by decide +kernel) rfl ?_
                            rw [← hPost]; exact ⟨rfl, _, rfl, (((((((hsi53.tr hsi57).tr hsi63).tr hsi75).tr hsi86).tr hsi113).tr hsi140).tr hsiL153), hoffend, ⟨_, _, hmL153, hb170, hb171, (zTi.m hTi9), hb172, ⟨_, hb178, hff⟩, hb173, hb174, hb175, hb176, hb177, hI12, hI24, hI29, hI31, hIn⟩, _, rfl, trivial⟩
                        ·
                          have f181 := znltI cc221
                          rw [show (100 : Int32).toInt = 100 from by decide] at f181
                          refine zp_seg (pc' := 230) (lv' := [(0, .ref m), (2, .int to), (6, .ref (m + 275)), (7, .int y7_217), (8, .int y8_217)]) (st' := [.int y8_217, .ref (m + 275), .int y7_217]) [(224, .iload 7), (226, .aload 6), (228, .iload 8)] (by decide +kernel) rfl ?_
                          refine zr_iald (by decide +kernel) hAh (zin (by first | omega | decide) (by first | omega | decide)) ?_
                          obtain ⟨x230, ex230⟩ : ∃ x9, x9 = hF (y8_217.toNatClampNeg) := ⟨_, rfl⟩
                          rw [← ex230]
                          have kx230 := zrng x230
                          refine zr_abs (idx := 273) (by decide +kernel) (by decide +kernel) (by omega) (Nat.le_of_ble_eq_true rfl) ?_
                          obtain ⟨m182, em182, hm182⟩ := zabsI x230
                          rw [← em182]
                          have km182 := zrng m182
                          refine zp_seg (pc' := 235) (lv' := [(0, .ref m), (2, .int to), (6, .ref (m + 275)), (7, .int y7_217), (8, .int y8_217)]) (st' := [.int (y7_217 + m182)]) [(234, .iadd)] (by decide +kernel) rfl ?_
                          have k183 := zaddM y7_217 m182
                          generalize ev235 : (y7_217 + m182 : Int32) = v235 at k183 ⊢
                          have kv235 := zrng v235
                          refine zp_seg (pc' := 240) (lv' := [(8, .int (y8_217 + 1)), (7, .int v235), (0, .ref m), (2, .int to), (6, .ref (m + 275))]) (st' := []) [(235, .istore 7), (237, .iinc 8 1)] (by decide +kernel) rfl ?_
                          have k184 := zaddC y8_217 1 (n := 1) (by decide) (by omega) (by omega)
                          generalize ev240 : (y8_217 + 1 : Int32) = v240 at k184 ⊢
                          have kv240 := zrng v240
                          refine zp_seg (pc' := 217) (lv' := [(8, .int v240), (7, .int v235), (0, .ref m), (2, .int to), (6, .ref (m + 275))]) (st' := []) [(240, .goto (-23))] (by decide +kernel) rfl ?_
                          have hz185 : (v240.toNatClampNeg : Int) = v240.toInt := znat (by first | omega | decide)
                          exact (ih217 v235 v240 (by first | assumption | omega | decide) (by first | assumption | omega | decide) (by omega)).more (zfa1 rfl (zfa1 rfl (zfa1 rfl (zfa1 rfl (zfa1 rfl (zfa0))))))
                      have hl186 : (0 : Int32).toInt = 0 := by decide
                      have hz187 : ((0 : Int32).toNatClampNeg : Int) = 0 := by decide
                      exact (hL217 _ 0 0 (by first | assumption | omega | decide) (by first | assumption | omega | decide) (Nat.lt_succ_self _)).more (zfa1 rfl (zfa1 rfl (zfa1 rfl (zfa1 rfl (zfa1 rfl (zfa0))))))
                    ·
                      have f188 := zneI cc206
                      rw [show (1 : Int32).toInt = 1 from by decide] at f188
                      have hb189 : wL153 (m + 83) = some (.inl (13, zTo (m + 83) (zs g2 3 r137))) := (heqL153 (m + 83) ⟨⟨(zx_X16_solve_47 hgzZ9_53_0), (zx_X16_solve_48 hgzZ9_53_2), (zx_X16_solve_49)⟩, (zx_X16_solve_50)⟩).trans hc140
                      have hb190 : wL153 (m + 83 + 1) = some (.inr (0, 325, .inl fn2)) := ((heqL153 (m + 83 + 1) ⟨⟨(zx_X16_solve_52 hgzZ9_53_0), (zx_X16_solve_53 hgzZ9_53_2), (zx_X16_solve_54)⟩, (zx_X16_solve_55)⟩).trans (heq140 (m + 83 + 1) (zx_X16_solve_51))).trans hAn2
                      have hb191 : wL153 (m + 83 + 2) = some (.inr (0, 325, .inl fd2)) := ((heqL153 (m + 83 + 2) ⟨⟨(zx_X16_solve_57 hgzZ9_53_0), (zx_X16_solve_58 hgzZ9_53_2), (zx_X16_solve_59)⟩, (zx_X16_solve_60)⟩).trans (heq140 (m + 83 + 2) (zx_X16_solve_56))).trans hAd2
                      have hb192 : wL153 (m + 83 + 3) = some (.inr (0, 13, .inl fa2)) := ((heqL153 (m + 83 + 3) ⟨⟨(zx_X16_solve_62 hgzZ9_53_0), (zx_X16_solve_63 hgzZ9_53_2), (zx_X16_solve_64)⟩, (zx_X16_solve_65)⟩).trans (heq140 (m + 83 + 3) (zx_X16_solve_61))).trans hAa2
                      have hb193 : wL153 (m + 83 + 4) = some (.inr (0, 13, .inl fb2)) := ((heqL153 (m + 83 + 4) ⟨⟨(zx_X16_solve_67 hgzZ9_53_0), (zx_X16_solve_68 hgzZ9_53_2), (zx_X16_solve_69)⟩, (zx_X16_solve_70)⟩).trans (heq140 (m + 83 + 4) (zx_X16_solve_66))).trans hAb2
                      have hb194 : wL153 (m + 83 + 5) = some (.inr (0, 13, .inl fc2)) := ((heqL153 (m + 83 + 5) ⟨⟨(zx_X16_solve_72 hgzZ9_53_0), (zx_X16_solve_73 hgzZ9_53_2), (zx_X16_solve_74)⟩, (zx_X16_solve_75)⟩).trans (heq140 (m + 83 + 5) (zx_X16_solve_71))).trans hAc2
                      have hb195 : wL153 (m + 83 + 6) = some (.inr (0, 13, .inl fe2)) := ((heqL153 (m + 83 + 6) ⟨⟨(zx_X16_solve_77 hgzZ9_53_0), (zx_X16_solve_78 hgzZ9_53_2), (zx_X16_solve_79)⟩, (zx_X16_solve_80)⟩).trans (heq140 (m + 83 + 6) (zx_X16_solve_76))).trans hAe2
                      have hb196 : wL153 (m + 83 + 7) = some (.inr (0, 175, .inl fr2)) := ((heqL153 (m + 83 + 7) ⟨⟨(zx_X16_solve_82 hgzZ9_53_0), (zx_X16_solve_83 hgzZ9_53_2), (zx_X16_solve_84)⟩, (zx_X16_solve_85)⟩).trans (heq140 (m + 83 + 7) (zx_X16_solve_81))).trans hAr2
                      have hb197 : wL153 (m + 83 + 8) = some (.inr (0, 361, .inl fu2)) := ((heqL153 (m + 83 + 8) ⟨⟨(zx_X16_solve_87 hgzZ9_53_0), (zx_X16_solve_88 hgzZ9_53_2), (zx_X16_solve_89)⟩, (zx_X16_solve_90)⟩).trans (heq140 (m + 83 + 8) (zx_X16_solve_86))).trans hAu2
                      have hTi9 : zTi wL153 (m + 83) 1 := ⟨_, _, _, _, _, _, _, _, _, hb189, hb190, hb191, hb192, hb193, hb194, hb195, hb196, hb197, ⟨hK20, hKn2, hKd2, ⟨hx9.1, hKx2.2⟩, hKm2, hKl2, hKr2, hKu2, zKk_12 (Or.inl rfl) (hKk2.2.1 (Or.inl rfl)) (fun e => absurd e (by decide)) ⟨hx9.2, (hKk2.2.2.2.1 (Or.inl rfl)).2⟩⟩⟩
                      refine zp_seg (pc' := 210) (lv' := [(0, .ref m), (2, .int to), (4, .ref (m + 276 + 2 * Z9_53.toNatClampNeg)), (5, .ref (m + 276 + 2 * (Z9_53 + 1).toNatClampNeg)), (6, .ref (m + 275)), (7, .int y7_153)]) (st' := [.int (Int32.ofInt (-1))]) [(209, .iconst (-1))] (by decide +kernel) rfl ?_
                      have hoffend : ∀ x, (x < m + 0 ∨ m + 0 + 8322 ≤ x) → wL153 x = w x := fun x hx => ((heqL153 x ⟨⟨(zx_X16_solve_94 hx hgzZ9_53_0), (zx_X16_solve_95 hx hgzZ9_53_2), (zx_X16_solve_96 hx)⟩, (zx_X16_solve_97 hx)⟩).trans ((heq140 x (zx_X16_solve_93 hx)).trans ((heq113 x ⟨(zx_X16_solve_91 hx), (zx_X16_solve_92 hx hgzZ9_53_0)⟩).trans ((heq86 x (zx_X16_solve_8 hx hgzZ9_53_1)).trans ((heq75 x (zx_X16_solve_7 hx hgzZ9_53_0)).trans ((heq63 x ⟨(zx_X16_solve_6 hx), (zx_X16_solve_8 hx hgzZ9_53_1)⟩).trans ((heq57 x ⟨(zx_X16_solve_6 hx), (zx_X16_solve_7 hx hgzZ9_53_0)⟩).trans (heq53 x (zx_X16_solve_6 hx)))))))))
                      have hb198 := hb69.si ((hsi113.tr hsi140).tr hsiL153)
                      have hb199 : zSlo wL153 (m + 7486) := hSl0.ag (fun x hx1 hx2 => ((heqL153 x ⟨⟨(zx_X16_solve_101 hx1 hx2 hgzZ9_53_0), (zx_X16_solve_102 hx1 hx2 hgzZ9_53_2), (zx_X16_solve_103 hx1 hx2)⟩, (zx_X16_solve_104 hx1 hx2)⟩).trans ((heq140 x (zx_X16_solve_100 hx1 hx2)).trans ((heq113 x ⟨(zx_X16_solve_98 hx1 hx2), (zx_X16_solve_99 hx1 hx2 hgzZ9_53_0)⟩).trans ((heq86 x (zx_X16_solve_11 hx1 hx2 hgzZ9_53_1)).trans ((heq75 x (zx_X16_solve_10 hx1 hx2 hgzZ9_53_0)).trans ((heq63 x ⟨(zx_X16_solve_9 hx1 hx2), (zx_X16_solve_11 hx1 hx2 hgzZ9_53_1)⟩).trans ((heq57 x ⟨(zx_X16_solve_9 hx1 hx2), (zx_X16_solve_10 hx1 hx2 hgzZ9_53_0)⟩).trans (heq53 x (zx_X16_solve_9 hx1 hx2))))))))))
                      have hb200 : zPil wL153 (m + 6316) := hPl0.ag (fun x hx1 hx2 => ((heqL153 x ⟨⟨(zx_X16_solve_108 hx1 hx2 hgzZ9_53_0), (zx_X16_solve_109 hx1 hx2 hgzZ9_53_2), (zx_X16_solve_110 hx1 hx2)⟩, (zx_X16_solve_111 hx1 hx2)⟩).trans ((heq140 x (zx_X16_solve_107 hx1 hx2)).trans ((heq113 x ⟨(zx_X16_solve_105 hx1 hx2), (zx_X16_solve_106 hx1 hx2 hgzZ9_53_0)⟩).trans ((heq86 x (zx_X16_solve_17 hx1 hx2 hgzZ9_53_1)).trans ((heq75 x (zx_X16_solve_16 hx1 hx2 hgzZ9_53_0)).trans ((heq63 x ⟨(zx_X16_solve_15 hx1 hx2), (zx_X16_solve_17 hx1 hx2 hgzZ9_53_1)⟩).trans ((heq57 x ⟨(zx_X16_solve_15 hx1 hx2), (zx_X16_solve_16 hx1 hx2 hgzZ9_53_0)⟩).trans (heq53 x (zx_X16_solve_15 hx1 hx2))))))))))
                      have hb201 : zBya wL153 (m + 92) 4000 := hBo0.ag (fun x hx1 hx2 => ((heqL153 x ⟨⟨(zx_X16_solve_115 hx1 hx2 hgzZ9_53_0), (zx_X16_solve_116 hx1 hx2 hgzZ9_53_2), (zx_X16_solve_117 hx1 hx2)⟩, (zx_X16_solve_118 hx1 hx2)⟩).trans ((heq140 x (zx_X16_solve_114 hx1 hx2)).trans ((heq113 x ⟨(zx_X16_solve_112 hx1 hx2), (zx_X16_solve_113 hx1 hx2 hgzZ9_53_0)⟩).trans ((heq86 x (zx_X16_solve_20 hx1 hx2 hgzZ9_53_1)).trans ((heq75 x (zx_X16_solve_19 hx1 hx2 hgzZ9_53_0)).trans ((heq63 x ⟨(zx_X16_solve_18 hx1 hx2), (zx_X16_solve_20 hx1 hx2 hgzZ9_53_1)⟩).trans ((heq57 x ⟨(zx_X16_solve_18 hx1 hx2), (zx_X16_solve_19 hx1 hx2 hgzZ9_53_0)⟩).trans (heq53 x (zx_X16_solve_18 hx1 hx2))))))))))
                      have hb202 : zBya wL153 (m + 93) 4000 := hBl0.ag (fun x hx1 hx2 => ((heqL153 x ⟨⟨(zx_X16_solve_122 hx1 hx2 hgzZ9_53_0), (zx_X16_solve_123 hx1 hx2 hgzZ9_53_2), (zx_X16_solve_124 hx1 hx2)⟩, (zx_X16_solve_125 hx1 hx2)⟩).trans ((heq140 x (zx_X16_solve_121 hx1 hx2)).trans ((heq113 x ⟨(zx_X16_solve_119 hx1 hx2), (zx_X16_solve_120 hx1 hx2 hgzZ9_53_0)⟩).trans ((heq86 x (zx_X16_solve_23 hx1 hx2 hgzZ9_53_1)).trans ((heq75 x (zx_X16_solve_22 hx1 hx2 hgzZ9_53_0)).trans ((heq63 x ⟨(zx_X16_solve_21 hx1 hx2), (zx_X16_solve_23 hx1 hx2 hgzZ9_53_1)⟩).trans ((heq57 x ⟨(zx_X16_solve_21 hx1 hx2), (zx_X16_solve_22 hx1 hx2 hgzZ9_53_0)⟩).trans (heq53 x (zx_X16_solve_21 hx1 hx2))))))))))
                      have hb203 : zGr wL153 (m + 100) 48 48 := hGa0.ag (fun x hx1 hx2 => ((heqL153 x ⟨⟨(zx_X16_solve_129 hx1 hx2 hgzZ9_53_0), (zx_X16_solve_130 hx1 hx2 hgzZ9_53_2), (zx_X16_solve_131 hx1 hx2)⟩, (zx_X16_solve_132 hx1 hx2)⟩).trans ((heq140 x (zx_X16_solve_128 hx1 hx2)).trans ((heq113 x ⟨(zx_X16_solve_126 hx1 hx2), (zx_X16_solve_127 hx1 hx2 hgzZ9_53_0)⟩).trans ((heq86 x (zx_X16_solve_26 hx1 hx2 hgzZ9_53_1)).trans ((heq75 x (zx_X16_solve_25 hx1 hx2 hgzZ9_53_0)).trans ((heq63 x ⟨(zx_X16_solve_24 hx1 hx2), (zx_X16_solve_26 hx1 hx2 hgzZ9_53_1)⟩).trans ((heq57 x ⟨(zx_X16_solve_24 hx1 hx2), (zx_X16_solve_25 hx1 hx2 hgzZ9_53_0)⟩).trans (heq53 x (zx_X16_solve_24 hx1 hx2))))))))))
                      have hb204 : zGr wL153 (m + 212) 60 46 := hGb0.ag (fun x hx1 hx2 => ((heqL153 x ⟨⟨(zx_X16_solve_136 hx1 hx2 hgzZ9_53_0), (zx_X16_solve_137 hx1 hx2 hgzZ9_53_2), (zx_X16_solve_138 hx1 hx2)⟩, (zx_X16_solve_139 hx1 hx2)⟩).trans ((heq140 x (zx_X16_solve_135 hx1 hx2)).trans ((heq113 x ⟨(zx_X16_solve_133 hx1 hx2), (zx_X16_solve_134 hx1 hx2 hgzZ9_53_0)⟩).trans ((heq86 x (zx_X16_solve_29 hx1 hx2 hgzZ9_53_1)).trans ((heq75 x (zx_X16_solve_28 hx1 hx2 hgzZ9_53_0)).trans ((heq63 x ⟨(zx_X16_solve_27 hx1 hx2), (zx_X16_solve_29 hx1 hx2 hgzZ9_53_1)⟩).trans ((heq57 x ⟨(zx_X16_solve_27 hx1 hx2), (zx_X16_solve_28 hx1 hx2 hgzZ9_53_0)⟩).trans (heq53 x (zx_X16_solve_27 hx1 hx2))))))))))
                      have hb205 : zBd wL153 (m + 149) := hBd0.ag (fun x hx1 hx2 => ((heqL153 x ⟨⟨(zx_X16_solve_143 hx1 hx2 hgzZ9_53_0), (zx_X16_solve_144 hx1 hx2 hgzZ9_53_2), (zx_X16_solve_145 hx1 hx2)⟩, (zx_X16_solve_146 hx1 hx2)⟩).trans ((heq140 x (zx_X16_solve_142 hx1 hx2)).trans ((heq113 x ⟨(zx_X16_solve_140 hx1 hx2), (zx_X16_solve_141 hx1 hx2 hgzZ9_53_0)⟩).trans ((heq86 x (zx_X16_solve_32 hx1 hx2 hgzZ9_53_1)).trans ((heq75 x (zx_X16_solve_31 hx1 hx2 hgzZ9_53_0)).trans ((heq63 x ⟨(zx_X16_solve_30 hx1 hx2), (zx_X16_solve_32 hx1 hx2 hgzZ9_53_1)⟩).trans ((heq57 x ⟨(zx_X16_solve_30 hx1 hx2), (zx_X16_solve_31 hx1 hx2 hgzZ9_53_0)⟩).trans (heq53 x (zx_X16_solve_30 hx1 hx2))))))))))
                      have hb206 : wL153 (m + 94) = some (.inr (0, 60, .inl ff)) := ((heqL153 (m + 94) ⟨⟨(zx_X16_solve_150 hgzZ9_53_0), (zx_X16_solve_151 hgzZ9_53_2), (zx_X16_solve_152)⟩, (zx_X16_solve_153)⟩).trans ((heq140 (m + 94) (zx_X16_solve_149)).trans ((heq113 (m + 94) ⟨(zx_X16_solve_147), (zx_X16_solve_148 hgzZ9_53_0)⟩).trans ((heq86 (m + 94) (zx_X16_solve_35 hgzZ9_53_1)).trans ((heq75 (m + 94) (zx_X16_solve_34 hgzZ9_53_0)).trans ((heq63 (m + 94) ⟨(zx_X16_solve_33), (zx_X16_solve_35 hgzZ9_53_1)⟩).trans ((heq57 (m + 94) ⟨(zx_X16_solve_33), (zx_X16_solve_34 hgzZ9_53_0)⟩).trans (heq53 (m + 94) (zx_X16_solve_33))))))))).trans hAf0
                      refine zr_retI (by decide +kernel) rfl ?_
                      rw [← hPost]; exact ⟨rfl, _, rfl, (((((((hsi53.tr hsi57).tr hsi63).tr hsi75).tr hsi86).tr hsi113).tr hsi140).tr hsiL153), hoffend, ⟨_, _, hmL153, hb198, hb199, (zTi.m hTi9), hb200, ⟨_, hb206, hff⟩, hb201, hb202, hb203, hb204, hb205, hI12, hI24, hI29, hI31, hIn⟩, _, rfl, trivial⟩
                ·
                  have f209 := znltI cc157
                  rw [show (51 : Int32).toInt = 51 from by decide] at f209
                  refine zp_seg (pc' := 167) (lv' := [(0, .ref m), (2, .int to), (4, .ref (m + 276 + 2 * Z9_53.toNatClampNeg)), (5, .ref (m + 276 + 2 * (Z9_53 + 1).toNatClampNeg)), (6, .ref (m + 275)), (7, .int y7_153)]) (st' := [.int (y7_153 + 49), .ref (m + 275)]) [(160, .aload 6), (162, .iload 7), (164, .bipush 49), (166, .iadd)] (by decide +kernel) rfl ?_
                  have k210 := zaddC y7_153 49 (n := 49) (by decide) (by omega) (by omega)
                  generalize ev167 : (y7_153 + 49 : Int32) = v167 at k210 ⊢
                  have kv167 := zrng v167
                  refine zp_seg (pc' := 172) (lv' := [(0, .ref m), (2, .int to), (4, .ref (m + 276 + 2 * Z9_53.toNatClampNeg)), (5, .ref (m + 276 + 2 * (Z9_53 + 1).toNatClampNeg)), (6, .ref (m + 275)), (7, .int y7_153)]) (st' := [.int y7_153, .ref (m + 276 + 2 * Z9_53.toNatClampNeg), .ref m, .int v167, .ref (m + 275)]) [(167, .aload_n 0), (168, .aload 4), (170, .iload 7)] (by decide +kernel) rfl ?_
                  have hb211 := hb69.si ((hsi113.tr hsi140).tr hsiL153)
                  refine zr_callV (idx := 827) (j := 424) (by decide +kernel) (by decide +kernel) (show zMe 424 = some zq_X16_strip from rfl) rfl rfl (Nat.le_of_ble_eq_true rfl) rfl rfl hmL153 (Nat.le_of_ble_eq_true rfl) (Nat.le_of_ble_eq_true rfl) (c_X16_strip (w := wL153) (g1 := (Z9_53 + 1 + 1)) m (m + 276 + 2 * Z9_53.toNatClampNeg) y7_153 hmL153 hb211 hUp (by first | omega | decide | assumption | exact zr1_1 | exact zr1_0 | fail "num") (by first | omega | decide | assumption | exact zr1_1 | exact zr1_0 | fail "num") (by first | omega | decide | assumption | exact zr1_1 | exact zr1_0 | fail "num") (by first | omega | decide | assumption | exact zr1_1 | exact zr1_0 | fail "num") rfl) (by omega) (fun v172 w172 hp172 => ?_)
                  obtain ⟨P9_172, hsi172, heq172, hp172_0, hp172_1, hp172_2, r172, rfl, hr172⟩ := hp172
                  have hM172 : w172 m = some (.inl (15, zMo m (zs (zs (zs g 1 (Z9_53 + 1 + 1)) 3 Z9_53) 16 Z9_53) r)) := hp172_0
                  have kr172 := zrng r172
                  show zP _ _ _ _ [.int r172, .int v167, .ref (m + 275)] _ _ _ _ _
                  refine zp_seg (pc' := 180) (lv' := [(0, .ref m), (2, .int to), (4, .ref (m + 276 + 2 * Z9_53.toNatClampNeg)), (5, .ref (m + 276 + 2 * (Z9_53 + 1).toNatClampNeg)), (6, .ref (m + 275)), (7, .int y7_153)]) (st' := [.int y7_153, .ref (m + 276 + 2 * (Z9_53 + 1).toNatClampNeg), .ref m, .int r172, .int v167, .ref (m + 275)]) [(175, .aload_n 0), (176, .aload 5), (178, .iload 7)] (by decide +kernel) rfl ?_
                  have hb212 := hb211.si hsi172
                  have hb213 : zU w172 (m + 276 + 2 * (Z9_53 + 1).toNatClampNeg) 1000 q := hUq.ag (fun x hx1 hx2 => (heq172 x ⟨(zx_X16_solve_189 hx1 hx2 hgzZ9_53_1), (zx_X16_solve_2 hx1 hx2 hgzZ9_53_0 hgzZ9_53_1), (zx_X16_solve_190 hx1 hx2 hgzZ9_53_1 hgzZ9_53_2)⟩))
                  refine zr_callV (idx := 827) (j := 424) (by decide +kernel) (by decide +kernel) (show zMe 424 = some zq_X16_strip from rfl) rfl rfl (Nat.le_of_ble_eq_true rfl) rfl rfl hM172 (Nat.le_of_ble_eq_true rfl) (Nat.le_of_ble_eq_true rfl) (c_X16_strip (w := w172) (g1 := (Z9_53 + 1 + 1)) m (m + 276 + 2 * (Z9_53 + 1).toNatClampNeg) y7_153 hM172 hb212 hb213 (by first | omega | decide | assumption | exact zr1_1 | exact zr1_0 | fail "num") (by first | omega | decide | assumption | exact zr1_1 | exact zr1_0 | fail "num") (by first | omega | decide | assumption | exact zr1_1 | exact zr1_0 | fail "num") (by first | omega | decide | assumption | exact zr1_1 | exact zr1_0 | fail "num") rfl) (by omega) (fun v180 w180 hp180 => ?_)
                  obtain ⟨P9_180, hsi180, heq180, hp180_0, hp180_1, hp180_2, r180, rfl, hr180⟩ := hp180
                  have hM180 : w180 m = some (.inl (15, zMo m (zs (zs (zs g 1 (Z9_53 + 1 + 1)) 3 Z9_53) 16 Z9_53) r)) := hp180_0
                  have kr180 := zrng r180
                  show zP _ _ _ _ [.int r180, .int r172, .int v167, .ref (m + 275)] _ _ _ _ _
                  refine zp_seg (pc' := 184) (lv' := [(0, .ref m), (2, .int to), (4, .ref (m + 276 + 2 * Z9_53.toNatClampNeg)), (5, .ref (m + 276 + 2 * (Z9_53 + 1).toNatClampNeg)), (6, .ref (m + 275)), (7, .int y7_153)]) (st' := [.int (r172 - r180), .int v167, .ref (m + 275)]) [(183, .isub)] (by decide +kernel) rfl ?_
                  have k214 := zsubM r172 r180
                  generalize ev184 : (r172 - r180 : Int32) = v184 at k214 ⊢
                  have kv184 := zrng v184
                  have hb215 : w180 (m + 275) = some (.inr (0, 101, .inl hF)) := ((heq180 (m + 275) ⟨(zx_X16_solve_191), (zx_X16_solve_194 hgzZ9_53_1), (zx_X16_solve_193 hgzZ9_53_2)⟩).trans (heq172 (m + 275) ⟨(zx_X16_solve_191), (zx_X16_solve_192 hgzZ9_53_0), (zx_X16_solve_193 hgzZ9_53_2)⟩)).trans hAh
                  have hz216 : (v167.toNatClampNeg : Int) = v167.toInt := znat (by first | omega | decide)
                  refine zr_iast (by decide +kernel) hb215 (zin (by first | omega | decide) (by first | omega | decide)) ?_
                  show zP (d + 1) zq_X16_solve 185 [(0, .ref m), (2, .int to), (4, .ref (m + 276 + 2 * Z9_53.toNatClampNeg)), (5, .ref (m + 276 + 2 * (Z9_53 + 1).toNatClampNeg)), (6, .ref (m + 275)), (7, .int y7_153)] [] (zup w180 (m + 275) (.inr (0, 101, .inl (upd hF (v167.toNatClampNeg) v184)))) sz 0 0 Post
                  obtain ⟨w184, ew184⟩ : ∃ wz9, wz9 = zup w180 (m + 275) (.inr (0, 101, .inl (upd hF (v167.toNatClampNeg) v184))) := ⟨_, rfl⟩
                  have hsi184 : zSI w180 w184 := by rw [ew184]; exact zSI.arr _ hb215
                  have heq184 : ∀ x, x ≠ m + 275 → w184 x = w180 x := fun x hx => by rw [ew184]; exact zup_n hx
                  have hc184 : w184 (m + 275) = some (.inr (0, 101, .inl (upd hF (v167.toNatClampNeg) v184))) := by rw [ew184]; exact zup_s
                  rw [← ew184]
                  clear ew184
                  refine zp_seg (pc' := 188) (lv' := [(7, .int (y7_153 + 1)), (0, .ref m), (2, .int to), (4, .ref (m + 276 + 2 * Z9_53.toNatClampNeg)), (5, .ref (m + 276 + 2 * (Z9_53 + 1).toNatClampNeg)), (6, .ref (m + 275))]) (st' := []) [(185, .iinc 7 1)] (by decide +kernel) rfl ?_
                  have k217 := zaddC y7_153 1 (n := 1) (by decide) (by omega) (by omega)
                  generalize ev188 : (y7_153 + 1 : Int32) = v188 at k217 ⊢
                  have kv188 := zrng v188
                  refine zp_seg (pc' := 153) (lv' := [(7, .int v188), (0, .ref m), (2, .int to), (4, .ref (m + 276 + 2 * Z9_53.toNatClampNeg)), (5, .ref (m + 276 + 2 * (Z9_53 + 1).toNatClampNeg)), (6, .ref (m + 275))]) (st' := []) [(188, .goto (-35))] (by decide +kernel) rfl ?_
                  have hb218 : zU w184 (m + 276 + 2 * Z9_53.toNatClampNeg) 1000 P9_172 := hp172_1.ag (fun x hx1 hx2 => ((heq184 x (zx_X16_solve_200 hx1 hx2 hgzZ9_53_0)).trans (heq180 x ⟨(zx_X16_solve_0 hx1 hx2 hgzZ9_53_0), (zx_X16_solve_1 hx1 hx2 hgzZ9_53_0 hgzZ9_53_1), (zx_X16_solve_199 hx1 hx2 hgzZ9_53_0 hgzZ9_53_2)⟩)))
                  have hb219 : zU w184 (m + 276 + 2 * (Z9_53 + 1).toNatClampNeg) 1000 P9_180 := hp180_1.ag (fun x hx1 hx2 => (heq184 x (zx_X16_solve_201 hx1 hx2 hgzZ9_53_1)))
                  have hb220 : w184 m = some (.inl (15, zMo m (zs (zs (zs g 1 (Z9_53 + 1 + 1)) 3 Z9_53) 16 Z9_53) r)) := (heq184 m (zx_X16_solve_202)).trans hM180
                  exact (ih153 w184 v188 (P9_172) (P9_180) ((upd hF (v167.toNatClampNeg) v184)) (((hsiL153.tr hsi172).tr hsi180).tr hsi184) (fun x hx => ((heq184 x (zx_X16_solve_198 hx.1.2.2)).trans ((heq180 x ⟨(zx_X16_solve_195 hx.2), (zx_X16_solve_197 hx.1.1 hx.1.2.1 hgzZ9_53_0 hgzZ9_53_1 hgzZ9_53_2), hx.1.2.1⟩).trans ((heq172 x ⟨(zx_X16_solve_195 hx.2), (zx_X16_solve_196 hx.1.1 hx.1.2.1 hgzZ9_53_0 hgzZ9_53_2), hx.1.2.1⟩).trans (heqL153 x ⟨⟨hx.1.1, hx.1.2.1, hx.1.2.2⟩, hx.2⟩))))) (by first | assumption | omega | decide) (by first | assumption | omega | decide) hb218 hb219 hc184 hb220 (by
                        have h1 := hp172_2
                        have h2 := hp180_2
                        omega) (by omega)).more (zfa1 rfl (zfa1 rfl (zfa1 rfl (zfa1 rfl (zfa1 rfl (zfa1 rfl (zfa0)))))))
              have hb222 : zU w140 (m + 276 + 2 * Z9_53.toNatClampNeg) 1000 (zaOf (fun i => zf (fr1 ((0 : Int32).toNatClampNeg + i))) 25) := hb72.ag (fun x hx1 hx2 => (heq140 x (zx_X16_solve_203 hx1 hx2 hgzZ9_53_0)))
              have hb223 : zU w140 (m + 276 + 2 * (Z9_53 + 1).toNatClampNeg) 1000 (zaOf (fun i => zf (fr1 ((25 : Int32).toNatClampNeg + i))) 25) := hb74.ag (fun x hx1 hx2 => (heq140 x (zx_X16_solve_204 hx1 hx2 hgzZ9_53_1)))
              have hb224 := hb69.si (hsi113.tr hsi140)
              obtain ⟨f225, hb226⟩ := hb224.ia_275
              exact (hL153 _ w140 (Int32.ofInt (-49)) ((zaOf (fun i => zf (fr1 ((0 : Int32).toNatClampNeg + i))) 25)) ((zaOf (fun i => zf (fr1 ((25 : Int32).toNatClampNeg + i))) 25)) (f225) zSI.rf (fun _ _ => rfl) (by first | assumption | omega | decide) (by first | assumption | omega | decide) hb222 hb223 hb226 hb76 (by
                    exact ⟨hln7, hln8⟩) (Nat.lt_succ_self _)).more (zfa1 rfl (zfa1 rfl (zfa1 rfl (zfa1 rfl (zfa1 rfl (zfa1 rfl (zfa0)))))))
            ·
              replace cc102 := Classical.not_not.mp cc102
              have f227 := zeqI cc102
              rw [show (0 : Int32).toInt = 0 from by decide] at f227
              refine zp_seg (pc' := 106) (lv' := [(5, .ref (m + 276 + 2 * (Z9_53 + 1).toNatClampNeg)), (4, .ref (m + 276 + 2 * Z9_53.toNatClampNeg)), (0, .ref m), (2, .int to), (3, .ref (m + 7486 + 9 * s9.toNatClampNeg))]) (st' := [.int (Int32.ofInt (-1))]) [(105, .iconst (-1))] (by decide +kernel) rfl ?_
              have hb228 : w86 m = some (.inl (15, zMo m (zs (zs (zs g 1 (Z9_53 + 1 + 1)) 3 Z9_53) 16 Z9_53) r)) := ((heq86 m (zx_X16_solve_5 hgzZ9_53_1)).trans (heq75 m (zx_X16_solve_4 hgzZ9_53_0))).trans hM63
              have hoffend : ∀ x, (x < m + 0 ∨ m + 0 + 8322 ≤ x) → w86 x = w x := fun x hx => ((heq86 x (zx_X16_solve_8 hx hgzZ9_53_1)).trans ((heq75 x (zx_X16_solve_7 hx hgzZ9_53_0)).trans ((heq63 x ⟨(zx_X16_solve_6 hx), (zx_X16_solve_8 hx hgzZ9_53_1)⟩).trans ((heq57 x ⟨(zx_X16_solve_6 hx), (zx_X16_solve_7 hx hgzZ9_53_0)⟩).trans (heq53 x (zx_X16_solve_6 hx))))))
              have hb229 := hb29.si ((hsi63.tr hsi75).tr hsi86)
              have hb230 : zSlo w86 (m + 7486) := hSl0.ag (fun x hx1 hx2 => ((heq86 x (zx_X16_solve_11 hx1 hx2 hgzZ9_53_1)).trans ((heq75 x (zx_X16_solve_10 hx1 hx2 hgzZ9_53_0)).trans ((heq63 x ⟨(zx_X16_solve_9 hx1 hx2), (zx_X16_solve_11 hx1 hx2 hgzZ9_53_1)⟩).trans ((heq57 x ⟨(zx_X16_solve_9 hx1 hx2), (zx_X16_solve_10 hx1 hx2 hgzZ9_53_0)⟩).trans (heq53 x (zx_X16_solve_9 hx1 hx2)))))))
              have hb231 : zTm w86 (m + 83) := hMd0.ag (fun x hx1 hx2 => ((heq86 x (zx_X16_solve_14 hx1 hx2 hgzZ9_53_1)).trans ((heq75 x (zx_X16_solve_13 hx1 hx2 hgzZ9_53_0)).trans ((heq63 x ⟨(zx_X16_solve_12 hx1 hx2), (zx_X16_solve_14 hx1 hx2 hgzZ9_53_1)⟩).trans ((heq57 x ⟨(zx_X16_solve_12 hx1 hx2), (zx_X16_solve_13 hx1 hx2 hgzZ9_53_0)⟩).trans (heq53 x (zx_X16_solve_12 hx1 hx2)))))))
              have hb232 : zPil w86 (m + 6316) := hPl0.ag (fun x hx1 hx2 => ((heq86 x (zx_X16_solve_17 hx1 hx2 hgzZ9_53_1)).trans ((heq75 x (zx_X16_solve_16 hx1 hx2 hgzZ9_53_0)).trans ((heq63 x ⟨(zx_X16_solve_15 hx1 hx2), (zx_X16_solve_17 hx1 hx2 hgzZ9_53_1)⟩).trans ((heq57 x ⟨(zx_X16_solve_15 hx1 hx2), (zx_X16_solve_16 hx1 hx2 hgzZ9_53_0)⟩).trans (heq53 x (zx_X16_solve_15 hx1 hx2)))))))
              have hb233 : zBya w86 (m + 92) 4000 := hBo0.ag (fun x hx1 hx2 => ((heq86 x (zx_X16_solve_20 hx1 hx2 hgzZ9_53_1)).trans ((heq75 x (zx_X16_solve_19 hx1 hx2 hgzZ9_53_0)).trans ((heq63 x ⟨(zx_X16_solve_18 hx1 hx2), (zx_X16_solve_20 hx1 hx2 hgzZ9_53_1)⟩).trans ((heq57 x ⟨(zx_X16_solve_18 hx1 hx2), (zx_X16_solve_19 hx1 hx2 hgzZ9_53_0)⟩).trans (heq53 x (zx_X16_solve_18 hx1 hx2)))))))
              have hb234 : zBya w86 (m + 93) 4000 := hBl0.ag (fun x hx1 hx2 => ((heq86 x (zx_X16_solve_23 hx1 hx2 hgzZ9_53_1)).trans ((heq75 x (zx_X16_solve_22 hx1 hx2 hgzZ9_53_0)).trans ((heq63 x ⟨(zx_X16_solve_21 hx1 hx2), (zx_X16_solve_23 hx1 hx2 hgzZ9_53_1)⟩).trans ((heq57 x ⟨(zx_X16_solve_21 hx1 hx2), (zx_X16_solve_22 hx1 hx2 hgzZ9_53_0)⟩).trans (heq53 x (zx_X16_solve_21 hx1 hx2)))))))
              have hb235 : zGr w86 (m + 100) 48 48 := hGa0.ag (fun x hx1 hx2 => ((heq86 x (zx_X16_solve_26 hx1 hx2 hgzZ9_53_1)).trans ((heq75 x (zx_X16_solve_25 hx1 hx2 hgzZ9_53_0)).trans ((heq63 x ⟨(zx_X16_solve_24 hx1 hx2), (zx_X16_solve_26 hx1 hx2 hgzZ9_53_1)⟩).trans ((heq57 x ⟨(zx_X16_solve_24 hx1 hx2), (zx_X16_solve_25 hx1 hx2 hgzZ9_53_0)⟩).trans (heq53 x (zx_X16_solve_24 hx1 hx2)))))))
              have hb236 : zGr w86 (m + 212) 60 46 := hGb0.ag (fun x hx1 hx2 => ((heq86 x (zx_X16_solve_29 hx1 hx2 hgzZ9_53_1)).trans ((heq75 x (zx_X16_solve_28 hx1 hx2 hgzZ9_53_0)).trans ((heq63 x ⟨(zx_X16_solve_27 hx1 hx2), (zx_X16_solve_29 hx1 hx2 hgzZ9_53_1)⟩).trans ((heq57 x ⟨(zx_X16_solve_27 hx1 hx2), (zx_X16_solve_28 hx1 hx2 hgzZ9_53_0)⟩).trans (heq53 x (zx_X16_solve_27 hx1 hx2)))))))
              have hb237 : zBd w86 (m + 149) := hBd0.ag (fun x hx1 hx2 => ((heq86 x (zx_X16_solve_32 hx1 hx2 hgzZ9_53_1)).trans ((heq75 x (zx_X16_solve_31 hx1 hx2 hgzZ9_53_0)).trans ((heq63 x ⟨(zx_X16_solve_30 hx1 hx2), (zx_X16_solve_32 hx1 hx2 hgzZ9_53_1)⟩).trans ((heq57 x ⟨(zx_X16_solve_30 hx1 hx2), (zx_X16_solve_31 hx1 hx2 hgzZ9_53_0)⟩).trans (heq53 x (zx_X16_solve_30 hx1 hx2)))))))
              have hb238 : w86 (m + 94) = some (.inr (0, 60, .inl ff)) := ((heq86 (m + 94) (zx_X16_solve_35 hgzZ9_53_1)).trans ((heq75 (m + 94) (zx_X16_solve_34 hgzZ9_53_0)).trans ((heq63 (m + 94) ⟨(zx_X16_solve_33), (zx_X16_solve_35 hgzZ9_53_1)⟩).trans ((heq57 (m + 94) ⟨(zx_X16_solve_33), (zx_X16_solve_34 hgzZ9_53_0)⟩).trans (heq53 (m + 94) (zx_X16_solve_33)))))).trans hAf0
              refine zr_retI (by decide +kernel) rfl ?_
              rw [← hPost]; exact ⟨rfl, _, rfl, ((((hsi53.tr hsi57).tr hsi63).tr hsi75).tr hsi86), hoffend, ⟨_, _, hb228, hb229, hb230, hb231, hb232, ⟨_, hb238, hff⟩, hb233, hb234, hb235, hb236, hb237, hI12, hI24, hI29, hI31, hIn⟩, _, rfl, trivial⟩
        ·
          have k240 := zrng (g1 10)
          have f242 := zneI cc47
          rw [show (1 : Int32).toInt = 1 from by decide] at f242
          refine zp_seg (pc' := 51) (lv' := [(0, .ref m), (2, .int to), (3, .ref (m + 7486 + 9 * s9.toNatClampNeg))]) (st' := [.int (Int32.ofInt (-1))]) [(50, .iconst (-1))] (by decide +kernel) rfl ?_
          have hoffend : ∀ x, (x < m + 0 ∨ m + 0 + 8322 ≤ x) → w x = w x := fun x hx => rfl
          refine zr_retI (by decide +kernel) rfl ?_
          rw [← hPost]; exact ⟨rfl, _, rfl, zSI.rf, hoffend, ⟨_, _, hm, hR_m, hSl0, hMd0, hPl0, ⟨_, hAf0, hff⟩, hBo0, hBl0, hGa0, hGb0, hBd0, hI12, hI24, hI29, hI31, hIn⟩, _, rfl, trivial⟩
      refine zp_if (i := .if_icmp .eq 14) (c := (g1 0) = 3) (t := 42) (e := 31) (lv' := [(3, .ref (m + 7486 + 9 * s9.toNatClampNeg)), (0, .ref m), (1, .int s9), (2, .int to)]) (st' := []) (by decide +kernel) rfl (fun cc28 => ?_) (fun cc28 => ?_)
      ·
        have k244 := zrng (g1 0)
        have f246 := zeqI cc28
        rw [show (3 : Int32).toInt = 3 from by decide] at f246
        exact (hJ42 trivial ).more (zfa1 rfl (zfa1 rfl (zfa1 rfl (zfa0))))
      ·
        have k247 := zrng (g1 0)
        have f249 := zneI cc28
        rw [show (3 : Int32).toInt = 3 from by decide] at f249
        refine zp_seg (pc' := 32) (lv' := [(3, .ref (m + 7486 + 9 * s9.toNatClampNeg)), (0, .ref m), (1, .int s9), (2, .int to)]) (st' := [.ref (m + 7486 + 9 * s9.toNatClampNeg)]) [(31, .aload_n 3)] (by decide +kernel) rfl ?_
        refine zr_get (idx := 202) (k := 0) (v := .int (g1 0)) (by decide +kernel) (by decide +kernel) hT1 rfl ?_
        refine zp_seg (pc' := 36) (lv' := [(3, .ref (m + 7486 + 9 * s9.toNatClampNeg)), (0, .ref m), (1, .int s9), (2, .int to)]) (st' := [.int 4, .int (g1 0)]) [(35, .iconst 4)] (by decide +kernel) rfl ?_
        refine zp_if (i := .if_icmp .eq 6) (c := (g1 0) = 4) (t := 42) (e := 39) (lv' := [(3, .ref (m + 7486 + 9 * s9.toNatClampNeg)), (0, .ref m), (1, .int s9), (2, .int to)]) (st' := []) (by decide +kernel) rfl (fun cc36 => ?_) (fun cc36 => ?_)
        ·
          have f251 := zeqI cc36
          rw [show (4 : Int32).toInt = 4 from by decide] at f251
          exact (hJ42 trivial ).more (zfa1 rfl (zfa1 rfl (zfa1 rfl (zfa0))))
        ·
          have f253 := zneI cc36
          rw [show (4 : Int32).toInt = 4 from by decide] at f253
          refine zp_seg (pc' := 41) (lv' := [(3, .ref (m + 7486 + 9 * s9.toNatClampNeg)), (0, .ref m), (1, .int s9), (2, .int to)]) (st' := [.int (Int32.ofInt (-3))]) [(39, .bipush (-3))] (by decide +kernel) rfl ?_
          have hoffend : ∀ x, (x < m + 0 ∨ m + 0 + 8322 ≤ x) → w x = w x := fun x hx => rfl
          refine zr_retI (by decide +kernel) rfl ?_
          rw [← hPost]; exact ⟨rfl, _, rfl, zSI.rf, hoffend, ⟨_, _, hm, hR_m, hSl0, hMd0, hPl0, ⟨_, hAf0, hff⟩, hBo0, hBl0, hGa0, hGb0, hBd0, hI12, hI24, hI29, hI31, hIn⟩, _, rfl, trivial⟩
    ·
      replace cc11 := Classical.not_not.mp cc11
      have f255 := zeqI cc11
      rw [show (0 : Int32).toInt = 0 from by decide] at f255
      refine zp_seg (pc' := 15) (lv' := [(0, .ref m), (1, .int s9), (2, .int to)]) (st' := [.int (Int32.ofInt (-1))]) [(14, .iconst (-1))] (by decide +kernel) rfl ?_
      have hoffend : ∀ x, (x < m + 0 ∨ m + 0 + 8322 ≤ x) → w x = w x := fun x hx => rfl
      refine zr_retI (by decide +kernel) rfl ?_
      rw [← hPost]; exact ⟨rfl, _, rfl, zSI.rf, hoffend, ⟨_, _, hm, hR_m, hSl0, hMd0, hPl0, ⟨_, hAf0, hff⟩, hBo0, hBl0, hGa0, hGb0, hBd0, hI12, hI24, hI29, hI31, hIn⟩, _, rfl, trivial⟩
