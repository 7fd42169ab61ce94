theorem zx_X16_work_0 {m x : Nat} (h0 : m + 83 ≤ x) (h1 : x < m + 83 + 9) : x < m ∨ m + 1 ≤ x := by omega
theorem zx_X16_work_1 {m : Nat}  : m < m + 83 ∨ m + 83 + 9 ≤ m := by omega
theorem zx_X16_work_2 {GZ9_139_0 m x : Nat} (h0 : m + 596 + 130 * GZ9_139_0 ≤ x) (h1 : x < m + 596 + 130 * GZ9_139_0 + 130) (h2 : GZ9_139_0 = 0) : x < m ∨ m + 1 ≤ x := by omega
theorem zx_X16_work_3 {GZ9_139_0 GZ9_139_1 m x : Nat} (h0 : m + 596 + 130 * GZ9_139_0 ≤ x) (h1 : x < m + 596 + 130 * GZ9_139_0 + 130) (h2 : GZ9_139_0 = 0) (h3 : GZ9_139_1 = 1) : x < m + 596 + 130 * GZ9_139_1 ∨ m + 596 + 130 * GZ9_139_1 + 130 ≤ x := by omega
theorem zx_X16_work_4 {GZ9_139_0 GZ9_139_2 m x : Nat} (h0 : m + 596 + 130 * GZ9_139_0 ≤ x) (h1 : x < m + 596 + 130 * GZ9_139_0 + 130) (h2 : GZ9_139_0 = 0) (h3 : GZ9_139_2 = 2) : x < m + 596 + 130 * GZ9_139_2 ∨ m + 596 + 130 * GZ9_139_2 + 130 ≤ x := by omega
theorem zx_X16_work_5 {GZ9_139_0 GZ9_139_3 m x : Nat} (h0 : m + 596 + 130 * GZ9_139_0 ≤ x) (h1 : x < m + 596 + 130 * GZ9_139_0 + 130) (h2 : GZ9_139_0 = 0) (h3 : GZ9_139_3 = 3) : x < m + 596 + 130 * GZ9_139_3 ∨ m + 596 + 130 * GZ9_139_3 + 130 ≤ x := by omega
theorem zx_X16_work_6 {GZ9_139_1 m x : Nat} (h0 : m + 596 + 130 * GZ9_139_1 ≤ x) (h1 : x < m + 596 + 130 * GZ9_139_1 + 130) (h2 : GZ9_139_1 = 1) : x < m ∨ m + 1 ≤ x := by omega
theorem zx_X16_work_7 {GZ9_139_1 GZ9_139_2 m x : Nat} (h0 : m + 596 + 130 * GZ9_139_1 ≤ x) (h1 : x < m + 596 + 130 * GZ9_139_1 + 130) (h2 : GZ9_139_1 = 1) (h3 : GZ9_139_2 = 2) : x < m + 596 + 130 * GZ9_139_2 ∨ m + 596 + 130 * GZ9_139_2 + 130 ≤ x := by omega
theorem zx_X16_work_8 {GZ9_139_1 GZ9_139_3 m x : Nat} (h0 : m + 596 + 130 * GZ9_139_1 ≤ x) (h1 : x < m + 596 + 130 * GZ9_139_1 + 130) (h2 : GZ9_139_1 = 1) (h3 : GZ9_139_3 = 3) : x < m + 596 + 130 * GZ9_139_3 ∨ m + 596 + 130 * GZ9_139_3 + 130 ≤ x := by omega
theorem zx_X16_work_9 {GZ9_139_0 GZ9_139_1 m x : Nat} (h0 : m + 596 + 130 * GZ9_139_1 ≤ x) (h1 : x < m + 596 + 130 * GZ9_139_1 + 130) (h2 : GZ9_139_0 = 0) (h3 : GZ9_139_1 = 1) : x < m + 596 + 130 * GZ9_139_0 ∨ m + 596 + 130 * GZ9_139_0 + 130 ≤ x := by omega
theorem zx_X16_work_10 {GZ9_139_0 GZ9_139_3 m x : Nat} (h0 : m + 596 + 130 * GZ9_139_3 ≤ x) (h1 : x < m + 596 + 130 * GZ9_139_3 + 130) (h2 : GZ9_139_0 = 0) (h3 : GZ9_139_3 = 3) : x < m + 596 + 130 * GZ9_139_0 ∨ m + 596 + 130 * GZ9_139_0 + 130 ≤ x := by omega
theorem zx_X16_work_11 {GZ9_139_1 GZ9_139_3 m x : Nat} (h0 : m + 596 + 130 * GZ9_139_3 ≤ x) (h1 : x < m + 596 + 130 * GZ9_139_3 + 130) (h2 : GZ9_139_1 = 1) (h3 : GZ9_139_3 = 3) : x < m + 596 + 130 * GZ9_139_1 ∨ m + 596 + 130 * GZ9_139_1 + 130 ≤ x := by omega
theorem zx_X16_work_12 {GZ9_139_0 m : Nat} (h0 : GZ9_139_0 = 0) : m < m + 596 + 130 * GZ9_139_0 ∨ m + 596 + 130 * GZ9_139_0 + 130 ≤ m := by omega
theorem zx_X16_work_13 {GZ9_139_1 m : Nat} (h0 : GZ9_139_1 = 1) : m < m + 596 + 130 * GZ9_139_1 ∨ m + 596 + 130 * GZ9_139_1 + 130 ≤ m := by omega
theorem zx_X16_work_14 {GZ9_139_3 m : Nat} (h0 : GZ9_139_3 = 3) : m < m + 596 + 130 * GZ9_139_3 ∨ m + 596 + 130 * GZ9_139_3 + 130 ≤ m := by omega
theorem zx_X16_work_15 {m x : Nat} (h0 : x < m + 0 ∨ m + 0 + 8322 ≤ x) : x < m ∨ m + 1 ≤ x := by omega
theorem zx_X16_work_16 {m x : Nat} (h0 : x < m + 0 ∨ m + 0 + 8322 ≤ x) : x < m + 83 ∨ m + 83 + 9 ≤ x := by omega
theorem zx_X16_work_17 {GZ9_139_0 m x : Nat} (h0 : x < m + 0 ∨ m + 0 + 8322 ≤ x) (h1 : GZ9_139_0 = 0) : x < m + 596 + 130 * GZ9_139_0 ∨ m + 596 + 130 * GZ9_139_0 + 130 ≤ x := by omega
theorem zx_X16_work_18 {GZ9_139_1 m x : Nat} (h0 : x < m + 0 ∨ m + 0 + 8322 ≤ x) (h1 : GZ9_139_1 = 1) : x < m + 596 + 130 * GZ9_139_1 ∨ m + 596 + 130 * GZ9_139_1 + 130 ≤ x := by omega
theorem zx_X16_work_19 {GZ9_139_2 m x : Nat} (h0 : x < m + 0 ∨ m + 0 + 8322 ≤ x) (h1 : GZ9_139_2 = 2) : x < m + 596 + 130 * GZ9_139_2 ∨ m + 596 + 130 * GZ9_139_2 + 130 ≤ x := by omega
theorem zx_X16_work_20 {GZ9_139_3 m x : Nat} (h0 : x < m + 0 ∨ m + 0 + 8322 ≤ x) (h1 : GZ9_139_3 = 3) : x < m + 596 + 130 * GZ9_139_3 ∨ m + 596 + 130 * GZ9_139_3 + 130 ≤ x := by omega
theorem zx_X16_work_21 {m x : Nat} (h0 : x < m + 0 ∨ m + 0 + 8322 ≤ x) : x < m + 100 ∨ m + 100 + 49 ≤ x := by omega
theorem zx_X16_work_22 {m x : Nat} (h0 : x < m + 0 ∨ m + 0 + 8322 ≤ x) : x < m + 276 ∨ m + 276 + 320 ≤ x := by omega
theorem zx_X16_work_23 {GZ9_139_4 m x : Nat} (h0 : x < m + 0 ∨ m + 0 + 8322 ≤ x) (h1 : GZ9_139_4 = 4) : x < m + 596 + 130 * GZ9_139_4 ∨ m + 596 + 130 * GZ9_139_4 + (5720 - 130 * GZ9_139_4) ≤ x := by omega
theorem zx_X16_work_24 {m x : Nat} (h0 : x < m + 0 ∨ m + 0 + 8322 ≤ x) : x < m + 3 ∨ m + 3 + 1 ≤ x := by omega
theorem zx_X16_work_25 {m x : Nat} (h0 : x < m + 0 ∨ m + 0 + 8322 ≤ x) : x < m + 5 ∨ m + 5 + 64 ≤ x := by omega
theorem zx_X16_work_26 {m x : Nat} (h0 : x < m + 0 ∨ m + 0 + 8322 ≤ x) : x ≠ m := by omega
theorem zx_X16_work_27 {m x : Nat} (h0 : m + 7486 ≤ x) (h1 : x < m + 7486 + 108) : x < m ∨ m + 1 ≤ x := by omega
theorem zx_X16_work_28 {m x : Nat} (h0 : m + 7486 ≤ x) (h1 : x < m + 7486 + 108) : x < m + 83 ∨ m + 83 + 9 ≤ x := by omega
theorem zx_X16_work_29 {GZ9_139_0 m x : Nat} (h0 : m + 7486 ≤ x) (h1 : x < m + 7486 + 108) (h2 : GZ9_139_0 = 0) : x < m + 596 + 130 * GZ9_139_0 ∨ m + 596 + 130 * GZ9_139_0 + 130 ≤ x := by omega
theorem zx_X16_work_30 {GZ9_139_1 m x : Nat} (h0 : m + 7486 ≤ x) (h1 : x < m + 7486 + 108) (h2 : GZ9_139_1 = 1) : x < m + 596 + 130 * GZ9_139_1 ∨ m + 596 + 130 * GZ9_139_1 + 130 ≤ x := by omega
theorem zx_X16_work_31 {GZ9_139_2 m x : Nat} (h0 : m + 7486 ≤ x) (h1 : x < m + 7486 + 108) (h2 : GZ9_139_2 = 2) : x < m + 596 + 130 * GZ9_139_2 ∨ m + 596 + 130 * GZ9_139_2 + 130 ≤ x := by omega
theorem zx_X16_work_32 {GZ9_139_3 m x : Nat} (h0 : m + 7486 ≤ x) (h1 : x < m + 7486 + 108) (h2 : GZ9_139_3 = 3) : x < m + 596 + 130 * GZ9_139_3 ∨ m + 596 + 130 * GZ9_139_3 + 130 ≤ x := by omega
theorem zx_X16_work_33 {m x : Nat} (h0 : m + 7486 ≤ x) (h1 : x < m + 7486 + 108) : x < m + 100 ∨ m + 100 + 49 ≤ x := by omega
theorem zx_X16_work_34 {m x : Nat} (h0 : m + 7486 ≤ x) (h1 : x < m + 7486 + 108) : x < m + 276 ∨ m + 276 + 320 ≤ x := by omega
theorem zx_X16_work_35 {GZ9_139_4 m x : Nat} (h0 : m + 7486 ≤ x) (h1 : x < m + 7486 + 108) (h2 : GZ9_139_4 = 4) : x < m + 596 + 130 * GZ9_139_4 ∨ m + 596 + 130 * GZ9_139_4 + (5720 - 130 * GZ9_139_4) ≤ x := by omega
theorem zx_X16_work_36 {m x : Nat} (h0 : m + 7486 ≤ x) (h1 : x < m + 7486 + 108) : x < m + 3 ∨ m + 3 + 1 ≤ x := by omega
theorem zx_X16_work_37 {m x : Nat} (h0 : m + 7486 ≤ x) (h1 : x < m + 7486 + 108) : x < m + 5 ∨ m + 5 + 64 ≤ x := by omega
theorem zx_X16_work_38 {m x : Nat} (h0 : m + 7486 ≤ x) (h1 : x < m + 7486 + 108) : x ≠ m := by omega
theorem zx_X16_work_39 {GZ9_139_0 m x : Nat} (h0 : m + 83 ≤ x) (h1 : x < m + 83 + 9) (h2 : GZ9_139_0 = 0) : x < m + 596 + 130 * GZ9_139_0 ∨ m + 596 + 130 * GZ9_139_0 + 130 ≤ x := by omega
theorem zx_X16_work_40 {GZ9_139_1 m x : Nat} (h0 : m + 83 ≤ x) (h1 : x < m + 83 + 9) (h2 : GZ9_139_1 = 1) : x < m + 596 + 130 * GZ9_139_1 ∨ m + 596 + 130 * GZ9_139_1 + 130 ≤ x := by omega
theorem zx_X16_work_41 {GZ9_139_2 m x : Nat} (h0 : m + 83 ≤ x) (h1 : x < m + 83 + 9) (h2 : GZ9_139_2 = 2) : x < m + 596 + 130 * GZ9_139_2 ∨ m + 596 + 130 * GZ9_139_2 + 130 ≤ x := by omega
theorem zx_X16_work_42 {GZ9_139_3 m x : Nat} (h0 : m + 83 ≤ x) (h1 : x < m + 83 + 9) (h2 : GZ9_139_3 = 3) : x < m + 596 + 130 * GZ9_139_3 ∨ m + 596 + 130 * GZ9_139_3 + 130 ≤ x := by omega
theorem zx_X16_work_43 {m x : Nat} (h0 : m + 83 ≤ x) (h1 : x < m + 83 + 9) : x < m + 100 ∨ m + 100 + 49 ≤ x := by omega
theorem zx_X16_work_44 {m x : Nat} (h0 : m + 83 ≤ x) (h1 : x < m + 83 + 9) : x < m + 276 ∨ m + 276 + 320 ≤ x := by omega
theorem zx_X16_work_45 {GZ9_139_4 m x : Nat} (h0 : m + 83 ≤ x) (h1 : x < m + 83 + 9) (h2 : GZ9_139_4 = 4) : x < m + 596 + 130 * GZ9_139_4 ∨ m + 596 + 130 * GZ9_139_4 + (5720 - 130 * GZ9_139_4) ≤ x := by omega
theorem zx_X16_work_46 {m x : Nat} (h0 : m + 83 ≤ x) (h1 : x < m + 83 + 9) : x < m + 3 ∨ m + 3 + 1 ≤ x := by omega
theorem zx_X16_work_47 {m x : Nat} (h0 : m + 83 ≤ x) (h1 : x < m + 83 + 9) : x < m + 5 ∨ m + 5 + 64 ≤ x := by omega
theorem zx_X16_work_48 {m x : Nat} (h0 : m + 83 ≤ x) (h1 : x < m + 83 + 9) : x ≠ m := by omega
theorem zx_X16_work_49 {m x : Nat} (h0 : m + 6316 ≤ x) (h1 : x < m + 6316 + 1170) : x < m ∨ m + 1 ≤ x := by omega
theorem zx_X16_work_50 {m x : Nat} (h0 : m + 6316 ≤ x) (h1 : x < m + 6316 + 1170) : x < m + 83 ∨ m + 83 + 9 ≤ x := by omega
theorem zx_X16_work_51 {GZ9_139_0 m x : Nat} (h0 : m + 6316 ≤ x) (h1 : x < m + 6316 + 1170) (h2 : GZ9_139_0 = 0) : x < m + 596 + 130 * GZ9_139_0 ∨ m + 596 + 130 * GZ9_139_0 + 130 ≤ x := by omega
theorem zx_X16_work_52 {GZ9_139_1 m x : Nat} (h0 : m + 6316 ≤ x) (h1 : x < m + 6316 + 1170) (h2 : GZ9_139_1 = 1) : x < m + 596 + 130 * GZ9_139_1 ∨ m + 596 + 130 * GZ9_139_1 + 130 ≤ x := by omega
theorem zx_X16_work_53 {GZ9_139_2 m x : Nat} (h0 : m + 6316 ≤ x) (h1 : x < m + 6316 + 1170) (h2 : GZ9_139_2 = 2) : x < m + 596 + 130 * GZ9_139_2 ∨ m + 596 + 130 * GZ9_139_2 + 130 ≤ x := by omega
theorem zx_X16_work_54 {GZ9_139_3 m x : Nat} (h0 : m + 6316 ≤ x) (h1 : x < m + 6316 + 1170) (h2 : GZ9_139_3 = 3) : x < m + 596 + 130 * GZ9_139_3 ∨ m + 596 + 130 * GZ9_139_3 + 130 ≤ x := by omega
theorem zx_X16_work_55 {m x : Nat} (h0 : m + 6316 ≤ x) (h1 : x < m + 6316 + 1170) : x < m + 100 ∨ m + 100 + 49 ≤ x := by omega
theorem zx_X16_work_56 {m x : Nat} (h0 : m + 6316 ≤ x) (h1 : x < m + 6316 + 1170) : x < m + 276 ∨ m + 276 + 320 ≤ x := by omega
theorem zx_X16_work_57 {GZ9_139_4 m x : Nat} (h0 : m + 6316 ≤ x) (h1 : x < m + 6316 + 1170) (h2 : GZ9_139_4 = 4) : x < m + 596 + 130 * GZ9_139_4 ∨ m + 596 + 130 * GZ9_139_4 + (5720 - 130 * GZ9_139_4) ≤ x := by omega
theorem zx_X16_work_58 {m x : Nat} (h0 : m + 6316 ≤ x) (h1 : x < m + 6316 + 1170) : x < m + 3 ∨ m + 3 + 1 ≤ x := by omega
theorem zx_X16_work_59 {m x : Nat} (h0 : m + 6316 ≤ x) (h1 : x < m + 6316 + 1170) : x < m + 5 ∨ m + 5 + 64 ≤ x := by omega
theorem zx_X16_work_60 {m x : Nat} (h0 : m + 6316 ≤ x) (h1 : x < m + 6316 + 1170) : x ≠ m := by omega
theorem zx_X16_work_61 {m x : Nat} (h0 : m + 92 ≤ x) (h1 : x < m + 92 + 1) : x < m ∨ m + 1 ≤ x := by omega
theorem zx_X16_work_62 {m x : Nat} (h0 : m + 92 ≤ x) (h1 : x < m + 92 + 1) : x < m + 83 ∨ m + 83 + 9 ≤ x := by omega
theorem zx_X16_work_63 {GZ9_139_0 m x : Nat} (h0 : m + 92 ≤ x) (h1 : x < m + 92 + 1) (h2 : GZ9_139_0 = 0) : x < m + 596 + 130 * GZ9_139_0 ∨ m + 596 + 130 * GZ9_139_0 + 130 ≤ x := by omega
theorem zx_X16_work_64 {GZ9_139_1 m x : Nat} (h0 : m + 92 ≤ x) (h1 : x < m + 92 + 1) (h2 : GZ9_139_1 = 1) : x < m + 596 + 130 * GZ9_139_1 ∨ m + 596 + 130 * GZ9_139_1 + 130 ≤ x := by omega
theorem zx_X16_work_65 {GZ9_139_2 m x : Nat} (h0 : m + 92 ≤ x) (h1 : x < m + 92 + 1) (h2 : GZ9_139_2 = 2) : x < m + 596 + 130 * GZ9_139_2 ∨ m + 596 + 130 * GZ9_139_2 + 130 ≤ x := by omega
theorem zx_X16_work_66 {GZ9_139_3 m x : Nat} (h0 : m + 92 ≤ x) (h1 : x < m + 92 + 1) (h2 : GZ9_139_3 = 3) : x < m + 596 + 130 * GZ9_139_3 ∨ m + 596 + 130 * GZ9_139_3 + 130 ≤ x := by omega
theorem zx_X16_work_67 {m x : Nat} (h0 : m + 92 ≤ x) (h1 : x < m + 92 + 1) : x < m + 100 ∨ m + 100 + 49 ≤ x := by omega
theorem zx_X16_work_68 {m x : Nat} (h0 : m + 92 ≤ x) (h1 : x < m + 92 + 1) : x < m + 276 ∨ m + 276 + 320 ≤ x := by omega
theorem zx_X16_work_69 {GZ9_139_4 m x : Nat} (h0 : m + 92 ≤ x) (h1 : x < m + 92 + 1) (h2 : GZ9_139_4 = 4) : x < m + 596 + 130 * GZ9_139_4 ∨ m + 596 + 130 * GZ9_139_4 + (5720 - 130 * GZ9_139_4) ≤ x := by omega
theorem zx_X16_work_70 {m x : Nat} (h0 : m + 92 ≤ x) (h1 : x < m + 92 + 1) : x < m + 3 ∨ m + 3 + 1 ≤ x := by omega
theorem zx_X16_work_71 {m x : Nat} (h0 : m + 92 ≤ x) (h1 : x < m + 92 + 1) : x < m + 5 ∨ m + 5 + 64 ≤ x := by omega
theorem zx_X16_work_72 {m x : Nat} (h0 : m + 92 ≤ x) (h1 : x < m + 92 + 1) : x ≠ m := by omega
theorem zx_X16_work_73 {m x : Nat} (h0 : m + 93 ≤ x) (h1 : x < m + 93 + 1) : x < m ∨ m + 1 ≤ x := by omega
theorem zx_X16_work_74 {m x : Nat} (h0 : m + 93 ≤ x) (h1 : x < m + 93 + 1) : x < m + 83 ∨ m + 83 + 9 ≤ x := by omega
theorem zx_X16_work_75 {GZ9_139_0 m x : Nat} (h0 : m + 93 ≤ x) (h1 : x < m + 93 + 1) (h2 : GZ9_139_0 = 0) : x < m + 596 + 130 * GZ9_139_0 ∨ m + 596 + 130 * GZ9_139_0 + 130 ≤ x := by omega
theorem zx_X16_work_76 {GZ9_139_1 m x : Nat} (h0 : m + 93 ≤ x) (h1 : x < m + 93 + 1) (h2 : GZ9_139_1 = 1) : x < m + 596 + 130 * GZ9_139_1 ∨ m + 596 + 130 * GZ9_139_1 + 130 ≤ x := by omega
theorem zx_X16_work_77 {GZ9_139_2 m x : Nat} (h0 : m + 93 ≤ x) (h1 : x < m + 93 + 1) (h2 : GZ9_139_2 = 2) : x < m + 596 + 130 * GZ9_139_2 ∨ m + 596 + 130 * GZ9_139_2 + 130 ≤ x := by omega
theorem zx_X16_work_78 {GZ9_139_3 m x : Nat} (h0 : m + 93 ≤ x) (h1 : x < m + 93 + 1) (h2 : GZ9_139_3 = 3) : x < m + 596 + 130 * GZ9_139_3 ∨ m + 596 + 130 * GZ9_139_3 + 130 ≤ x := by omega
theorem zx_X16_work_79 {m x : Nat} (h0 : m + 93 ≤ x) (h1 : x < m + 93 + 1) : x < m + 100 ∨ m + 100 + 49 ≤ x := by omega
theorem zx_X16_work_80 {m x : Nat} (h0 : m + 93 ≤ x) (h1 : x < m + 93 + 1) : x < m + 276 ∨ m + 276 + 320 ≤ x := by omega
theorem zx_X16_work_81 {GZ9_139_4 m x : Nat} (h0 : m + 93 ≤ x) (h1 : x < m + 93 + 1) (h2 : GZ9_139_4 = 4) : x < m + 596 + 130 * GZ9_139_4 ∨ m + 596 + 130 * GZ9_139_4 + (5720 - 130 * GZ9_139_4) ≤ x := by omega
theorem zx_X16_work_82 {m x : Nat} (h0 : m + 93 ≤ x) (h1 : x < m + 93 + 1) : x < m + 3 ∨ m + 3 + 1 ≤ x := by omega
theorem zx_X16_work_83 {m x : Nat} (h0 : m + 93 ≤ x) (h1 : x < m + 93 + 1) : x < m + 5 ∨ m + 5 + 64 ≤ x := by omega
theorem zx_X16_work_84 {m x : Nat} (h0 : m + 93 ≤ x) (h1 : x < m + 93 + 1) : x ≠ m := by omega
theorem zx_X16_work_85 {m x : Nat} (h0 : m + 212 ≤ x) (h1 : x < m + 212 + 61) : x < m ∨ m + 1 ≤ x := by omega
theorem zx_X16_work_86 {m x : Nat} (h0 : m + 212 ≤ x) (h1 : x < m + 212 + 61) : x < m + 83 ∨ m + 83 + 9 ≤ x := by omega
theorem zx_X16_work_87 {GZ9_139_0 m x : Nat} (h0 : m + 212 ≤ x) (h1 : x < m + 212 + 61) (h2 : GZ9_139_0 = 0) : x < m + 596 + 130 * GZ9_139_0 ∨ m + 596 + 130 * GZ9_139_0 + 130 ≤ x := by omega
theorem zx_X16_work_88 {GZ9_139_1 m x : Nat} (h0 : m + 212 ≤ x) (h1 : x < m + 212 + 61) (h2 : GZ9_139_1 = 1) : x < m + 596 + 130 * GZ9_139_1 ∨ m + 596 + 130 * GZ9_139_1 + 130 ≤ x := by omega
theorem zx_X16_work_89 {GZ9_139_2 m x : Nat} (h0 : m + 212 ≤ x) (h1 : x < m + 212 + 61) (h2 : GZ9_139_2 = 2) : x < m + 596 + 130 * GZ9_139_2 ∨ m + 596 + 130 * GZ9_139_2 + 130 ≤ x := by omega
theorem zx_X16_work_90 {GZ9_139_3 m x : Nat} (h0 : m + 212 ≤ x) (h1 : x < m + 212 + 61) (h2 : GZ9_139_3 = 3) : x < m + 596 + 130 * GZ9_139_3 ∨ m + 596 + 130 * GZ9_139_3 + 130 ≤ x := by omega
theorem zx_X16_work_91 {m x : Nat} (h0 : m + 212 ≤ x) (h1 : x < m + 212 + 61) : x < m + 100 ∨ m + 100 + 49 ≤ x := by omega
theorem zx_X16_work_92 {m x : Nat} (h0 : m + 212 ≤ x) (h1 : x < m + 212 + 61) : x < m + 276 ∨ m + 276 + 320 ≤ x := by omega
theorem zx_X16_work_93 {GZ9_139_4 m x : Nat} (h0 : m + 212 ≤ x) (h1 : x < m + 212 + 61) (h2 : GZ9_139_4 = 4) : x < m + 596 + 130 * GZ9_139_4 ∨ m + 596 + 130 * GZ9_139_4 + (5720 - 130 * GZ9_139_4) ≤ x := by omega
theorem zx_X16_work_94 {m x : Nat} (h0 : m + 212 ≤ x) (h1 : x < m + 212 + 61) : x < m + 3 ∨ m + 3 + 1 ≤ x := by omega
theorem zx_X16_work_95 {m x : Nat} (h0 : m + 212 ≤ x) (h1 : x < m + 212 + 61) : x < m + 5 ∨ m + 5 + 64 ≤ x := by omega
theorem zx_X16_work_96 {m x : Nat} (h0 : m + 212 ≤ x) (h1 : x < m + 212 + 61) : x ≠ m := by omega
theorem zx_X16_work_97 {m x : Nat} (h0 : m + 149 ≤ x) (h1 : x < m + 149 + 27) : x < m ∨ m + 1 ≤ x := by omega
theorem zx_X16_work_98 {m x : Nat} (h0 : m + 149 ≤ x) (h1 : x < m + 149 + 27) : x < m + 83 ∨ m + 83 + 9 ≤ x := by omega
theorem zx_X16_work_99 {GZ9_139_0 m x : Nat} (h0 : m + 149 ≤ x) (h1 : x < m + 149 + 27) (h2 : GZ9_139_0 = 0) : x < m + 596 + 130 * GZ9_139_0 ∨ m + 596 + 130 * GZ9_139_0 + 130 ≤ x := by omega
theorem zx_X16_work_100 {GZ9_139_1 m x : Nat} (h0 : m + 149 ≤ x) (h1 : x < m + 149 + 27) (h2 : GZ9_139_1 = 1) : x < m + 596 + 130 * GZ9_139_1 ∨ m + 596 + 130 * GZ9_139_1 + 130 ≤ x := by omega
theorem zx_X16_work_101 {GZ9_139_2 m x : Nat} (h0 : m + 149 ≤ x) (h1 : x < m + 149 + 27) (h2 : GZ9_139_2 = 2) : x < m + 596 + 130 * GZ9_139_2 ∨ m + 596 + 130 * GZ9_139_2 + 130 ≤ x := by omega
theorem zx_X16_work_102 {GZ9_139_3 m x : Nat} (h0 : m + 149 ≤ x) (h1 : x < m + 149 + 27) (h2 : GZ9_139_3 = 3) : x < m + 596 + 130 * GZ9_139_3 ∨ m + 596 + 130 * GZ9_139_3 + 130 ≤ x := by omega
theorem zx_X16_work_103 {m x : Nat} (h0 : m + 149 ≤ x) (h1 : x < m + 149 + 27) : x < m + 100 ∨ m + 100 + 49 ≤ x := by omega
theorem zx_X16_work_104 {m x : Nat} (h0 : m + 149 ≤ x) (h1 : x < m + 149 + 27) : x < m + 276 ∨ m + 276 + 320 ≤ x := by omega
theorem zx_X16_work_105 {GZ9_139_4 m x : Nat} (h0 : m + 149 ≤ x) (h1 : x < m + 149 + 27) (h2 : GZ9_139_4 = 4) : x < m + 596 + 130 * GZ9_139_4 ∨ m + 596 + 130 * GZ9_139_4 + (5720 - 130 * GZ9_139_4) ≤ x := by omega
theorem zx_X16_work_106 {m x : Nat} (h0 : m + 149 ≤ x) (h1 : x < m + 149 + 27) : x < m + 3 ∨ m + 3 + 1 ≤ x := by omega
theorem zx_X16_work_107 {m x : Nat} (h0 : m + 149 ≤ x) (h1 : x < m + 149 + 27) : x < m + 5 ∨ m + 5 + 64 ≤ x := by omega
theorem zx_X16_work_108 {m x : Nat} (h0 : m + 149 ≤ x) (h1 : x < m + 149 + 27) : x ≠ m := by omega
theorem zx_X16_work_109 {m : Nat}  : (m + 94) < m ∨ m + 1 ≤ (m + 94) := by omega
theorem zx_X16_work_110 {m : Nat}  : (m + 94) < m + 83 ∨ m + 83 + 9 ≤ (m + 94) := by omega
theorem zx_X16_work_111 {GZ9_139_0 m : Nat} (h0 : GZ9_139_0 = 0) : (m + 94) < m + 596 + 130 * GZ9_139_0 ∨ m + 596 + 130 * GZ9_139_0 + 130 ≤ (m + 94) := by omega
theorem zx_X16_work_112 {GZ9_139_1 m : Nat} (h0 : GZ9_139_1 = 1) : (m + 94) < m + 596 + 130 * GZ9_139_1 ∨ m + 596 + 130 * GZ9_139_1 + 130 ≤ (m + 94) := by omega
theorem zx_X16_work_113 {GZ9_139_2 m : Nat} (h0 : GZ9_139_2 = 2) : (m + 94) < m + 596 + 130 * GZ9_139_2 ∨ m + 596 + 130 * GZ9_139_2 + 130 ≤ (m + 94) := by omega
theorem zx_X16_work_114 {GZ9_139_3 m : Nat} (h0 : GZ9_139_3 = 3) : (m + 94) < m + 596 + 130 * GZ9_139_3 ∨ m + 596 + 130 * GZ9_139_3 + 130 ≤ (m + 94) := by omega
theorem zx_X16_work_115 {m : Nat}  : (m + 94) < m + 100 ∨ m + 100 + 49 ≤ (m + 94) := by omega
theorem zx_X16_work_116 {m : Nat}  : (m + 94) < m + 276 ∨ m + 276 + 320 ≤ (m + 94) := by omega
theorem zx_X16_work_117 {GZ9_139_4 m : Nat} (h0 : GZ9_139_4 = 4) : (m + 94) < m + 596 + 130 * GZ9_139_4 ∨ m + 596 + 130 * GZ9_139_4 + (5720 - 130 * GZ9_139_4) ≤ (m + 94) := by omega
theorem zx_X16_work_118 {m : Nat}  : (m + 94) < m + 3 ∨ m + 3 + 1 ≤ (m + 94) := by omega
theorem zx_X16_work_119 {m : Nat}  : (m + 94) < m + 5 ∨ m + 5 + 64 ≤ (m + 94) := by omega
theorem zx_X16_work_120 {m : Nat}  : (m + 94) ≠ m := by omega
theorem zx_X16_work_121 {GZ9_139_3 m x : Nat} (h0 : m + 596 + 130 * GZ9_139_3 ≤ x) (h1 : x < m + 596 + 130 * GZ9_139_3 + 130) (h2 : GZ9_139_3 = 3) : x < m ∨ m + 1 ≤ x := by omega
theorem zx_X16_work_122 {GZ9_139_3 m x : Nat} (h0 : m + 596 + 130 * GZ9_139_3 ≤ x) (h1 : x < m + 596 + 130 * GZ9_139_3 + 130) (h2 : GZ9_139_3 = 3) : x < m + 100 ∨ m + 100 + 49 ≤ x := by omega
theorem zx_X16_work_123 {GZ9_139_3 m x : Nat} (h0 : m + 596 + 130 * GZ9_139_3 ≤ x) (h1 : x < m + 596 + 130 * GZ9_139_3 + 130) (h2 : GZ9_139_3 = 3) : x < m + 276 ∨ m + 276 + 320 ≤ x := by omega
theorem zx_X16_work_124 {GZ9_139_2 GZ9_139_3 m x : Nat} (h0 : m + 596 + 130 * GZ9_139_3 ≤ x) (h1 : x < m + 596 + 130 * GZ9_139_3 + 130) (h2 : GZ9_139_2 = 2) (h3 : GZ9_139_3 = 3) : x < m + 596 + 130 * GZ9_139_2 ∨ m + 596 + 130 * GZ9_139_2 + 130 ≤ x := by omega
theorem zx_X16_work_125 {GZ9_139_3 GZ9_139_4 m x : Nat} (h0 : m + 596 + 130 * GZ9_139_3 ≤ x) (h1 : x < m + 596 + 130 * GZ9_139_3 + 130) (h2 : GZ9_139_3 = 3) (h3 : GZ9_139_4 = 4) : x < m + 596 + 130 * GZ9_139_4 ∨ m + 596 + 130 * GZ9_139_4 + (5720 - 130 * GZ9_139_4) ≤ x := by omega
theorem zx_X16_work_126 {GZ9_139_3 m x : Nat} (h0 : m + 596 + 130 * GZ9_139_3 ≤ x) (h1 : x < m + 596 + 130 * GZ9_139_3 + 130) (h2 : GZ9_139_3 = 3) : x < m + 3 ∨ m + 3 + 1 ≤ x := by omega
theorem zx_X16_work_127 {GZ9_139_3 m x : Nat} (h0 : m + 596 + 130 * GZ9_139_3 ≤ x) (h1 : x < m + 596 + 130 * GZ9_139_3 + 130) (h2 : GZ9_139_3 = 3) : x < m + 5 ∨ m + 5 + 64 ≤ x := by omega
theorem zx_X16_work_128 {GZ9_139_3 m x : Nat} (h0 : m + 596 + 130 * GZ9_139_3 ≤ x) (h1 : x < m + 596 + 130 * GZ9_139_3 + 130) (h2 : GZ9_139_3 = 3) : x ≠ m := by omega
theorem zx_X16_work_129 {m : Nat}  : (m + 83) < m + 83 + 1 ∨ m + 83 + 1 + 2 ≤ (m + 83) := by omega
theorem zx_X16_work_130 {m : Nat}  : (m + 83 + 3) < m + 83 + 1 ∨ m + 83 + 1 + 2 ≤ (m + 83 + 3) := by omega
theorem zx_X16_work_131 {m : Nat}  : (m + 83 + 4) < m + 83 + 1 ∨ m + 83 + 1 + 2 ≤ (m + 83 + 4) := by omega
theorem zx_X16_work_132 {m : Nat}  : (m + 83 + 5) < m + 83 + 1 ∨ m + 83 + 1 + 2 ≤ (m + 83 + 5) := by omega
theorem zx_X16_work_133 {m : Nat}  : (m + 83 + 6) < m + 83 + 1 ∨ m + 83 + 1 + 2 ≤ (m + 83 + 6) := by omega
theorem zx_X16_work_134 {m : Nat}  : (m + 83 + 7) < m + 83 + 1 ∨ m + 83 + 1 + 2 ≤ (m + 83 + 7) := by omega
theorem zx_X16_work_135 {m : Nat}  : (m + 83 + 8) < m + 83 + 1 ∨ m + 83 + 1 + 2 ≤ (m + 83 + 8) := by omega
theorem zx_X16_work_136 {m : Nat}  : m < m + 83 + 1 ∨ m + 83 + 1 + 2 ≤ m := by omega
theorem zx_X16_work_137 {m x : Nat} (h0 : x < m + 0 ∨ m + 0 + 8322 ≤ x) : x < m + 83 + 1 ∨ m + 83 + 1 + 2 ≤ x := by omega
theorem zx_X16_work_138 {m x : Nat} (h0 : m + 7486 ≤ x) (h1 : x < m + 7486 + 108) : x < m + 83 + 1 ∨ m + 83 + 1 + 2 ≤ x := by omega
theorem zx_X16_work_139 {m x : Nat} (h0 : m + 6316 ≤ x) (h1 : x < m + 6316 + 1170) : x < m + 83 + 1 ∨ m + 83 + 1 + 2 ≤ x := by omega
theorem zx_X16_work_140 {m x : Nat} (h0 : m + 92 ≤ x) (h1 : x < m + 92 + 1) : x < m + 83 + 1 ∨ m + 83 + 1 + 2 ≤ x := by omega
theorem zx_X16_work_141 {m x : Nat} (h0 : m + 93 ≤ x) (h1 : x < m + 93 + 1) : x < m + 83 + 1 ∨ m + 83 + 1 + 2 ≤ x := by omega
theorem zx_X16_work_142 {m x : Nat} (h0 : m + 100 ≤ x) (h1 : x < m + 100 + 49) : x < m + 83 + 1 ∨ m + 83 + 1 + 2 ≤ x := by omega
theorem zx_X16_work_143 {m x : Nat} (h0 : m + 212 ≤ x) (h1 : x < m + 212 + 61) : x < m + 83 + 1 ∨ m + 83 + 1 + 2 ≤ x := by omega
theorem zx_X16_work_144 {m x : Nat} (h0 : m + 149 ≤ x) (h1 : x < m + 149 + 27) : x < m + 83 + 1 ∨ m + 83 + 1 + 2 ≤ x := by omega
theorem zx_X16_work_145 {m : Nat}  : (m + 94) < m + 83 + 1 ∨ m + 83 + 1 + 2 ≤ (m + 94) := by omega
theorem zx_X16_work_146 {m x : Nat} (h0 : m + 100 ≤ x) (h1 : x < m + 100 + 49) : x < m ∨ m + 1 ≤ x := by omega
theorem zx_X16_work_147 {m x : Nat} (h0 : m + 100 ≤ x) (h1 : x < m + 100 + 49) : x < m + 83 ∨ m + 83 + 9 ≤ x := by omega
theorem zx_X16_work_148 {GZ9_139_0 m x : Nat} (h0 : m + 100 ≤ x) (h1 : x < m + 100 + 49) (h2 : GZ9_139_0 = 0) : x < m + 596 + 130 * GZ9_139_0 ∨ m + 596 + 130 * GZ9_139_0 + 130 ≤ x := by omega
theorem zx_X16_work_149 {GZ9_139_1 m x : Nat} (h0 : m + 100 ≤ x) (h1 : x < m + 100 + 49) (h2 : GZ9_139_1 = 1) : x < m + 596 + 130 * GZ9_139_1 ∨ m + 596 + 130 * GZ9_139_1 + 130 ≤ x := by omega
theorem zx_X16_work_150 {GZ9_139_2 m x : Nat} (h0 : m + 100 ≤ x) (h1 : x < m + 100 + 49) (h2 : GZ9_139_2 = 2) : x < m + 596 + 130 * GZ9_139_2 ∨ m + 596 + 130 * GZ9_139_2 + 130 ≤ x := by omega
theorem zx_X16_work_151 {GZ9_139_3 m x : Nat} (h0 : m + 100 ≤ x) (h1 : x < m + 100 + 49) (h2 : GZ9_139_3 = 3) : x < m + 596 + 130 * GZ9_139_3 ∨ m + 596 + 130 * GZ9_139_3 + 130 ≤ x := by omega
theorem zx_X16_work_152 {GZ9_139_2 m x : Nat} (h0 : m + 596 + 130 * GZ9_139_2 ≤ x) (h1 : x < m + 596 + 130 * GZ9_139_2 + 130) (h2 : GZ9_139_2 = 2) : x < m ∨ m + 1 ≤ x := by omega
theorem zx_X16_work_153 {GZ9_139_2 GZ9_139_3 m x : Nat} (h0 : m + 596 + 130 * GZ9_139_2 ≤ x) (h1 : x < m + 596 + 130 * GZ9_139_2 + 130) (h2 : GZ9_139_2 = 2) (h3 : GZ9_139_3 = 3) : x < m + 596 + 130 * GZ9_139_3 ∨ m + 596 + 130 * GZ9_139_3 + 130 ≤ x := by omega
theorem zx_X16_work_154 {GZ9_139_0 GZ9_139_2 m x : Nat} (h0 : m + 596 + 130 * GZ9_139_2 ≤ x) (h1 : x < m + 596 + 130 * GZ9_139_2 + 130) (h2 : GZ9_139_0 = 0) (h3 : GZ9_139_2 = 2) : x < m + 596 + 130 * GZ9_139_0 ∨ m + 596 + 130 * GZ9_139_0 + 130 ≤ x := by omega
theorem zx_X16_work_155 {GZ9_139_1 GZ9_139_2 m x : Nat} (h0 : m + 596 + 130 * GZ9_139_2 ≤ x) (h1 : x < m + 596 + 130 * GZ9_139_2 + 130) (h2 : GZ9_139_1 = 1) (h3 : GZ9_139_2 = 2) : x < m + 596 + 130 * GZ9_139_1 ∨ m + 596 + 130 * GZ9_139_1 + 130 ≤ x := by omega
theorem zx_X16_work_156 {GZ9_139_0 m x : Nat} (h0 : x < m + 276 ∨ m + 276 + 320 ≤ x) (h1 : GZ9_139_0 = 0) : x < m + 276 + 2 * GZ9_139_0 ∨ m + 276 + 2 * GZ9_139_0 + (320 - 2 * GZ9_139_0) ≤ x := by omega
theorem zx_X16_work_157 {GZ9_139_2 m : Nat} (h0 : GZ9_139_2 = 2) : m < m + 596 + 130 * GZ9_139_2 ∨ m + 596 + 130 * GZ9_139_2 + 130 ≤ m := by omega
theorem zx_X16_work_158 {GZ9_139_0 m : Nat} (h0 : GZ9_139_0 = 0) : m < m + 276 + 2 * GZ9_139_0 ∨ m + 276 + 2 * GZ9_139_0 + (320 - 2 * GZ9_139_0) ≤ m := by omega
theorem zx_X16_work_159 {GZ9_139_4 m : Nat} (h0 : GZ9_139_4 = 4) : m < m + 596 + 130 * GZ9_139_4 ∨ m + 596 + 130 * GZ9_139_4 + (5720 - 130 * GZ9_139_4) ≤ m := by omega
theorem zx_X16_work_160 {m : Nat}  : m < m + 3 ∨ m + 3 + 1 ≤ m := by omega
theorem zx_X16_work_161 {m : Nat}  : m < m + 5 ∨ m + 5 + 64 ≤ m := by omega
theorem zx_X16_work_162 {GZ9_139_0 m x : Nat} (h0 : m + 100 ≤ x) (h1 : x < m + 100 + 49) (h2 : GZ9_139_0 = 0) : x < m + 276 + 2 * GZ9_139_0 ∨ m + 276 + 2 * GZ9_139_0 + (320 - 2 * GZ9_139_0) ≤ x := by omega
theorem zx_X16_work_163 {GZ9_139_4 m x : Nat} (h0 : m + 100 ≤ x) (h1 : x < m + 100 + 49) (h2 : GZ9_139_4 = 4) : x < m + 596 + 130 * GZ9_139_4 ∨ m + 596 + 130 * GZ9_139_4 + (5720 - 130 * GZ9_139_4) ≤ x := by omega
theorem zx_X16_work_164 {m x : Nat} (h0 : m + 100 ≤ x) (h1 : x < m + 100 + 49) : x < m + 3 ∨ m + 3 + 1 ≤ x := by omega
theorem zx_X16_work_165 {m x : Nat} (h0 : m + 100 ≤ x) (h1 : x < m + 100 + 49) : x < m + 5 ∨ m + 5 + 64 ≤ x := by omega
theorem zx_X16_work_166 {m : Nat}  : m < m + 78 ∨ m + 78 + 1 ≤ m := by omega
theorem zx_X16_work_167 {GZ9_139_0 m : Nat} (h0 : GZ9_139_0 = 0) : m < m + 596 + 130 * GZ9_139_0 ∨ m + 596 + 130 * GZ9_139_0 + (5720 - 130 * GZ9_139_0) ≤ m := by omega
theorem zx_X16_work_168 {m x : Nat} (h0 : x < m + 0 ∨ m + 0 + 8322 ≤ x) : x < m + 78 ∨ m + 78 + 1 ≤ x := by omega
theorem zx_X16_work_169 {GZ9_139_0 m x : Nat} (h0 : x < m + 0 ∨ m + 0 + 8322 ≤ x) (h1 : GZ9_139_0 = 0) : x < m + 276 + 2 * GZ9_139_0 ∨ m + 276 + 2 * GZ9_139_0 + (320 - 2 * GZ9_139_0) ≤ x := by omega
theorem zx_X16_work_170 {GZ9_139_0 m x : Nat} (h0 : x < m + 0 ∨ m + 0 + 8322 ≤ x) (h1 : GZ9_139_0 = 0) : x < m + 596 + 130 * GZ9_139_0 ∨ m + 596 + 130 * GZ9_139_0 + (5720 - 130 * GZ9_139_0) ≤ x := by omega
theorem zx_X16_work_171 {m x : Nat} (h0 : m + 7486 ≤ x) (h1 : x < m + 7486 + 108) : x < m + 78 ∨ m + 78 + 1 ≤ x := by omega
theorem zx_X16_work_172 {GZ9_139_0 m x : Nat} (h0 : m + 7486 ≤ x) (h1 : x < m + 7486 + 108) (h2 : GZ9_139_0 = 0) : x < m + 276 + 2 * GZ9_139_0 ∨ m + 276 + 2 * GZ9_139_0 + (320 - 2 * GZ9_139_0) ≤ x := by omega
theorem zx_X16_work_173 {GZ9_139_0 m x : Nat} (h0 : m + 7486 ≤ x) (h1 : x < m + 7486 + 108) (h2 : GZ9_139_0 = 0) : x < m + 596 + 130 * GZ9_139_0 ∨ m + 596 + 130 * GZ9_139_0 + (5720 - 130 * GZ9_139_0) ≤ x := by omega
theorem zx_X16_work_174 {m x : Nat} (h0 : m + 6316 ≤ x) (h1 : x < m + 6316 + 1170) : x < m + 78 ∨ m + 78 + 1 ≤ x := by omega
theorem zx_X16_work_175 {GZ9_139_0 m x : Nat} (h0 : m + 6316 ≤ x) (h1 : x < m + 6316 + 1170) (h2 : GZ9_139_0 = 0) : x < m + 276 + 2 * GZ9_139_0 ∨ m + 276 + 2 * GZ9_139_0 + (320 - 2 * GZ9_139_0) ≤ x := by omega
theorem zx_X16_work_176 {GZ9_139_0 m x : Nat} (h0 : m + 6316 ≤ x) (h1 : x < m + 6316 + 1170) (h2 : GZ9_139_0 = 0) : x < m + 596 + 130 * GZ9_139_0 ∨ m + 596 + 130 * GZ9_139_0 + (5720 - 130 * GZ9_139_0) ≤ x := by omega
theorem zx_X16_work_177 {m x : Nat} (h0 : m + 92 ≤ x) (h1 : x < m + 92 + 1) : x < m + 78 ∨ m + 78 + 1 ≤ x := by omega
theorem zx_X16_work_178 {GZ9_139_0 m x : Nat} (h0 : m + 92 ≤ x) (h1 : x < m + 92 + 1) (h2 : GZ9_139_0 = 0) : x < m + 276 + 2 * GZ9_139_0 ∨ m + 276 + 2 * GZ9_139_0 + (320 - 2 * GZ9_139_0) ≤ x := by omega
theorem zx_X16_work_179 {GZ9_139_0 m x : Nat} (h0 : m + 92 ≤ x) (h1 : x < m + 92 + 1) (h2 : GZ9_139_0 = 0) : x < m + 596 + 130 * GZ9_139_0 ∨ m + 596 + 130 * GZ9_139_0 + (5720 - 130 * GZ9_139_0) ≤ x := by omega
theorem zx_X16_work_180 {m x : Nat} (h0 : m + 93 ≤ x) (h1 : x < m + 93 + 1) : x < m + 78 ∨ m + 78 + 1 ≤ x := by omega
theorem zx_X16_work_181 {GZ9_139_0 m x : Nat} (h0 : m + 93 ≤ x) (h1 : x < m + 93 + 1) (h2 : GZ9_139_0 = 0) : x < m + 276 + 2 * GZ9_139_0 ∨ m + 276 + 2 * GZ9_139_0 + (320 - 2 * GZ9_139_0) ≤ x := by omega
theorem zx_X16_work_182 {GZ9_139_0 m x : Nat} (h0 : m + 93 ≤ x) (h1 : x < m + 93 + 1) (h2 : GZ9_139_0 = 0) : x < m + 596 + 130 * GZ9_139_0 ∨ m + 596 + 130 * GZ9_139_0 + (5720 - 130 * GZ9_139_0) ≤ x := by omega
theorem zx_X16_work_183 {m x : Nat} (h0 : m + 100 ≤ x) (h1 : x < m + 100 + 49) : x < m + 78 ∨ m + 78 + 1 ≤ x := by omega
theorem zx_X16_work_184 {GZ9_139_0 m x : Nat} (h0 : m + 100 ≤ x) (h1 : x < m + 100 + 49) (h2 : GZ9_139_0 = 0) : x < m + 596 + 130 * GZ9_139_0 ∨ m + 596 + 130 * GZ9_139_0 + (5720 - 130 * GZ9_139_0) ≤ x := by omega
theorem zx_X16_work_185 {m x : Nat} (h0 : m + 212 ≤ x) (h1 : x < m + 212 + 61) : x < m + 78 ∨ m + 78 + 1 ≤ x := by omega
theorem zx_X16_work_186 {GZ9_139_0 m x : Nat} (h0 : m + 212 ≤ x) (h1 : x < m + 212 + 61) (h2 : GZ9_139_0 = 0) : x < m + 276 + 2 * GZ9_139_0 ∨ m + 276 + 2 * GZ9_139_0 + (320 - 2 * GZ9_139_0) ≤ x := by omega
theorem zx_X16_work_187 {GZ9_139_0 m x : Nat} (h0 : m + 212 ≤ x) (h1 : x < m + 212 + 61) (h2 : GZ9_139_0 = 0) : x < m + 596 + 130 * GZ9_139_0 ∨ m + 596 + 130 * GZ9_139_0 + (5720 - 130 * GZ9_139_0) ≤ x := by omega
theorem zx_X16_work_188 {m x : Nat} (h0 : m + 149 ≤ x) (h1 : x < m + 149 + 27) : x < m + 78 ∨ m + 78 + 1 ≤ x := by omega
theorem zx_X16_work_189 {GZ9_139_0 m x : Nat} (h0 : m + 149 ≤ x) (h1 : x < m + 149 + 27) (h2 : GZ9_139_0 = 0) : x < m + 276 + 2 * GZ9_139_0 ∨ m + 276 + 2 * GZ9_139_0 + (320 - 2 * GZ9_139_0) ≤ x := by omega
theorem zx_X16_work_190 {GZ9_139_0 m x : Nat} (h0 : m + 149 ≤ x) (h1 : x < m + 149 + 27) (h2 : GZ9_139_0 = 0) : x < m + 596 + 130 * GZ9_139_0 ∨ m + 596 + 130 * GZ9_139_0 + (5720 - 130 * GZ9_139_0) ≤ x := by omega
theorem zx_X16_work_191 {m : Nat}  : (m + 94) < m + 78 ∨ m + 78 + 1 ≤ (m + 94) := by omega
theorem zx_X16_work_192 {GZ9_139_0 m : Nat} (h0 : GZ9_139_0 = 0) : (m + 94) < m + 276 + 2 * GZ9_139_0 ∨ m + 276 + 2 * GZ9_139_0 + (320 - 2 * GZ9_139_0) ≤ (m + 94) := by omega
theorem zx_X16_work_193 {GZ9_139_0 m : Nat} (h0 : GZ9_139_0 = 0) : (m + 94) < m + 596 + 130 * GZ9_139_0 ∨ m + 596 + 130 * GZ9_139_0 + (5720 - 130 * GZ9_139_0) ≤ (m + 94) := by omega
set_option maxHeartbeats 8000000 in
set_option maxRecDepth 100000 in
theorem c_X16_work {w : zM} {n9 : Int32} (m : Nat) (op : Int32) (s9 : Int32) (s8 : Int32) (to : Int32) (hI : zInv w m n9) : zCon 12 zq_X16_work [.ref m, .int op, .int s9, .int s8, .int to] w (fun v9 w9' => zSI w w9' ∧ (∀ x, (x < m + 0 ∨ m + 0 + 8322 ≤ x) → w9' x = w x) ∧ zInv w9' m n9 ∧ ∃ r9 : Int32, v9 = some (.int r9) ∧ True) := by
  intro d sz hd
  obtain ⟨d, rfl⟩ : ∃ d9, d = d9 + 1 := ⟨d - 1, by omega⟩
  generalize hPost : (fun (r9' : Option (Option Value)) (w9' : zM) (z9 : Nat) => z9 = sz ∧ ∃ v9, r9' = some v9 ∧ (zSI w w9' ∧ (∀ x, (x < m + 0 ∨ m + 0 + 8322 ≤ x) → w9' x = w x) ∧ zInv w9' m n9 ∧ ∃ r9 : Int32, v9 = some (.int r9) ∧ True)) = Post
  show zP (d + 1) zq_X16_work 0 [(0, .ref m), (1, .int op), (2, .int s9), (3, .int s8), (4, .int to)] [] w sz 0 0 Post
  have k1 := zrng op
  have k2 := zrng s9
  have k3 := zrng s8
  have k4 := zrng to
  obtain ⟨g, r, hm, hR_m, hSl0, hMd0, hPl0, ⟨ff, hAf0, hff⟩, hBo0, hBl0, hGa0, hGb0, hBd0, hI12, hI24, hI29, hI31, hIn⟩ := hI
  have k5 := zrng (g 12)
  have hz6 : ((g 12).toNatClampNeg : Int) = (g 12).toInt := znat (by first | omega | decide)
  have k7 := zrng (g 24)
  have hz8 : ((g 24).toNatClampNeg : Int) = (g 24).toInt := znat (by first | omega | decide)
  have k9 := zrng (g 29)
  have hz10 : ((g 29).toNatClampNeg : Int) = (g 29).toInt := znat (by first | omega | decide)
  have k11 := zrng (g 31)
  have hz12 : ((g 31).toNatClampNeg : Int) = (g 31).toInt := znat (by first | omega | decide)
  refine zp_seg (pc' := 1) (lv' := [(0, .ref m), (1, .int op), (2, .int s9), (3, .int s8), (4, .int to)]) (st' := [.int s9]) [(0, .iload_n 2)] (by decide +kernel) rfl ?_
  refine zr_callS (idx := 551) (j := 336) (by decide +kernel) (by decide +kernel) (by decide) (show zMe 336 = some zq_X16_isSlot from rfl) rfl rfl (Nat.le_of_ble_eq_true rfl) rfl rfl (Nat.le_of_ble_eq_true rfl) (Nat.le_of_ble_eq_true rfl) (c_X16_isSlot (w := w) s9 ) (by omega) (fun v1 w1 hp1 => ?_)
  obtain ⟨hpw1, r1, rfl, hrb1, hr1⟩ := hp1
  replace hpw1 := hpw1.symm
  subst hpw1
  have kr1 := zrng r1
  show zP _ _ _ _ [.int r1] _ _ _ _ _
  refine zp_if (i := .ifCond .eq 18) (c := r1 = 0) (t := 22) (e := 7) (lv' := [(0, .ref m), (1, .int op), (2, .int s9), (3, .int s8), (4, .int to)]) (st' := []) (by decide +kernel) rfl (fun cc4 => ?_) (fun cc4 => ?_)
  ·
    have f14 := zeqI cc4
    rw [show (0 : Int32).toInt = 0 from by decide] at f14
    refine zp_seg (pc' := 23) (lv' := [(0, .ref m), (1, .int op), (2, .int s9), (3, .int s8), (4, .int to)]) (st' := [.int (Int32.ofInt (-1))]) [(22, .iconst (-1))] (by decide +kernel) rfl ?_
    have hoffend : ∀ x, (x < m + 0 ∨ m + 0 + 8322 ≤ x) → w x = w x := fun x hx => rfl
    refine zr_retI (by decide +kernel) rfl ?_
    rw [← hPost]; exact ⟨rfl, _, rfl, zSI.rf, hoffend, ⟨_, _, hm, hR_m, hSl0, hMd0, hPl0, ⟨_, hAf0, hff⟩, hBo0, hBl0, hGa0, hGb0, hBd0, hI12, hI24, hI29, hI31, hIn⟩, _, rfl, trivial⟩
  ·
    have f17 := zneI cc4
    rw [show (0 : Int32).toInt = 0 from by decide] at f17
    refine zp_seg (pc' := 8) (lv' := [(0, .ref m), (1, .int op), (2, .int s9), (3, .int s8), (4, .int to)]) (st' := [.int s8]) [(7, .iload_n 3)] (by decide +kernel) rfl ?_
    refine zr_callS (idx := 551) (j := 336) (by decide +kernel) (by decide +kernel) (by decide) (show zMe 336 = some zq_X16_isSlot from rfl) rfl rfl (Nat.le_of_ble_eq_true rfl) rfl rfl (Nat.le_of_ble_eq_true rfl) (Nat.le_of_ble_eq_true rfl) (c_X16_isSlot (w := w) s8 ) (by omega) (fun v8 w8 hp8 => ?_)
    obtain ⟨hpw8, r8, rfl, hrb8, hr8⟩ := hp8
    replace hpw8 := hpw8.symm
    subst hpw8
    have kr8 := zrng r8
    show zP _ _ _ _ [.int r8] _ _ _ _ _
    refine zp_if (i := .ifCond .eq 11) (c := r8 = 0) (t := 22) (e := 14) (lv' := [(0, .ref m), (1, .int op), (2, .int s9), (3, .int s8), (4, .int to)]) (st' := []) (by decide +kernel) rfl (fun cc11 => ?_) (fun cc11 => ?_)
    ·
      have f18 := zeqI cc11
      rw [show (0 : Int32).toInt = 0 from by decide] at f18
      refine zp_seg (pc' := 23) (lv' := [(0, .ref m), (1, .int op), (2, .int s9), (3, .int s8), (4, .int to)]) (st' := [.int (Int32.ofInt (-1))]) [(22, .iconst (-1))] (by decide +kernel) rfl ?_
      have hoffend : ∀ x, (x < m + 0 ∨ m + 0 + 8322 ≤ x) → w x = w x := fun x hx => rfl
      refine zr_retI (by decide +kernel) rfl ?_
      rw [← hPost]; exact ⟨rfl, _, rfl, zSI.rf, hoffend, ⟨_, _, hm, hR_m, hSl0, hMd0, hPl0, ⟨_, hAf0, hff⟩, hBo0, hBl0, hGa0, hGb0, hBd0, hI12, hI24, hI29, hI31, hIn⟩, _, rfl, trivial⟩
    ·
      have f20 := zneI cc11
      rw [show (0 : Int32).toInt = 0 from by decide] at f20
      refine zp_seg (pc' := 16) (lv' := [(0, .ref m), (1, .int op), (2, .int s9), (3, .int s8), (4, .int to)]) (st' := [.int to]) [(14, .iload 4)] (by decide +kernel) rfl ?_
      refine zr_callS (idx := 551) (j := 336) (by decide +kernel) (by decide +kernel) (by decide) (show zMe 336 = some zq_X16_isSlot from rfl) rfl rfl (Nat.le_of_ble_eq_true rfl) rfl rfl (Nat.le_of_ble_eq_true rfl) (Nat.le_of_ble_eq_true rfl) (c_X16_isSlot (w := w) to ) (by omega) (fun v16 w16 hp16 => ?_)
      obtain ⟨hpw16, r16, rfl, hrb16, hr16⟩ := hp16
      replace hpw16 := hpw16.symm
      subst hpw16
      have kr16 := zrng r16
      show zP _ _ _ _ [.int r16] _ _ _ _ _
      refine zp_if (i := .ifCond .ne 5) (c := ¬ r16 = 0) (t := 24) (e := 22) (lv' := [(0, .ref m), (1, .int op), (2, .int s9), (3, .int s8), (4, .int to)]) (st' := []) (by decide +kernel) rfl (fun cc19 => ?_) (fun cc19 => ?_)
      ·
        have f21 := zneI cc19
        rw [show (0 : Int32).toInt = 0 from by decide] at f21
        have his1 := hr1 (hrb1.resolve_left cc4)
        have his2 := hr8 (hrb8.resolve_left cc11)
        have his3 := hr16 (hrb16.resolve_left cc19)
        have hz22 : (to.toNatClampNeg : Int) = to.toInt := znat (by first | omega | decide)
        refine zp_seg (pc' := 25) (lv' := [(0, .ref m), (1, .int op), (2, .int s9), (3, .int s8), (4, .int to)]) (st' := [.ref m]) [(24, .aload_n 0)] (by decide +kernel) rfl ?_
        refine zr_get (idx := 450) (k := 20) (v := .ref (m + 82)) (by decide +kernel) (by decide +kernel) hm rfl ?_
        refine zp_seg (pc' := 29) (lv' := [(0, .ref m), (1, .int op), (2, .int s9), (3, .int s8), (4, .int to)]) (st' := [.int s9, .ref (m + 82)]) [(28, .iload_n 2)] (by decide +kernel) rfl ?_
        have hb24 := hR_m.slots
        have hz25 : (s9.toNatClampNeg : Int) = s9.toInt := znat (by first | omega | decide)
        refine zr_aald (v := .ref (m + 7486 + 9 * s9.toNatClampNeg)) (by decide +kernel) hb24 (by decide) (zin (by first | omega | decide) (by first | omega | decide)) (zsl_at (by omega)) ?_
        obtain ⟨kS1, hkS1⟩ := hSl0 s9.toNatClampNeg (by omega)
        obtain ⟨g1, fn1, fd1, fa1, fb1, fc1, fe1, fr1, fu1, hT1, hAn1, hAd1, hAa1, hAb1, hAc1, hAe1, hAr1, hAu1, hK1⟩ := id hkS1
        obtain ⟨hK10, hKn1, hKd1, hKx1, hKm1, hKl1, hKr1, hKu1, hKk1⟩ := id hK1
        refine zp_seg (pc' := 33) (lv' := [(5, .ref (m + 7486 + 9 * s9.toNatClampNeg)), (0, .ref m), (1, .int op), (2, .int s9), (3, .int s8), (4, .int to)]) (st' := [.ref m]) [(30, .astore 5), (32, .aload_n 0)] (by decide +kernel) rfl ?_
        refine zr_get (idx := 450) (k := 20) (v := .ref (m + 82)) (by decide +kernel) (by decide +kernel) hm rfl ?_
        refine zp_seg (pc' := 37) (lv' := [(5, .ref (m + 7486 + 9 * s9.toNatClampNeg)), (0, .ref m), (1, .int op), (2, .int s9), (3, .int s8), (4, .int to)]) (st' := [.int s8, .ref (m + 82)]) [(36, .iload_n 3)] (by decide +kernel) rfl ?_
        have hz26 : (s8.toNatClampNeg : Int) = s8.toInt := znat (by first | omega | decide)
        refine zr_aald (v := .ref (m + 7486 + 9 * s8.toNatClampNeg)) (by decide +kernel) hb24 (by decide) (zin (by first | omega | decide) (by first | omega | decide)) (zsl_at (by omega)) ?_
        obtain ⟨kS2, hkS2⟩ := hSl0 s8.toNatClampNeg (by omega)
        obtain ⟨g2, fn2, fd2, fa2, fb2, fc2, fe2, fr2, fu2, hT2, hAn2, hAd2, hAa2, hAb2, hAc2, hAe2, hAr2, hAu2, hK2⟩ := id hkS2
        obtain ⟨hK20, hKn2, hKd2, hKx2, hKm2, hKl2, hKr2, hKu2, hKk2⟩ := id hK2
        refine zp_seg (pc' := 42) (lv' := [(6, .ref (m + 7486 + 9 * s8.toNatClampNeg)), (5, .ref (m + 7486 + 9 * s9.toNatClampNeg)), (0, .ref m), (1, .int op), (2, .int s9), (3, .int s8), (4, .int to)]) (st' := [.ref (m + 7486 + 9 * s9.toNatClampNeg)]) [(38, .astore 6), (40, .aload 5)] (by decide +kernel) rfl ?_
        refine zr_get (idx := 202) (k := 0) (v := .int (g1 0)) (by decide +kernel) (by decide +kernel) hT1 rfl ?_
        refine zp_seg (pc' := 46) (lv' := [(6, .ref (m + 7486 + 9 * s8.toNatClampNeg)), (5, .ref (m + 7486 + 9 * s9.toNatClampNeg)), (0, .ref m), (1, .int op), (2, .int s9), (3, .int s8), (4, .int to)]) (st' := [.int 1, .int (g1 0)]) [(45, .iconst 1)] (by decide +kernel) rfl ?_
        have hJ58 : ∀ (_ : True), (kS1 = 1 ∨ kS1 = 2) → zP (d + 1) zq_X16_work 58 [(0, .ref m), (1, .int op), (4, .int to), (5, .ref (m + 7486 + 9 * s9.toNatClampNeg)), (6, .ref (m + 7486 + 9 * s8.toNatClampNeg))] [] w sz 0 0 Post := by
          intro _ hka9
          refine zp_seg (pc' := 60) (lv' := [(0, .ref m), (1, .int op), (4, .int to), (5, .ref (m + 7486 + 9 * s9.toNatClampNeg)), (6, .ref (m + 7486 + 9 * s8.toNatClampNeg))]) (st' := [.ref (m + 7486 + 9 * s8.toNatClampNeg)]) [(58, .aload 6)] (by decide +kernel) rfl ?_
          refine zr_get (idx := 202) (k := 0) (v := .int (g2 0)) (by decide +kernel) (by decide +kernel) hT2 rfl ?_
          refine zp_seg (pc' := 64) (lv' := [(0, .ref m), (1, .int op), (4, .int to), (5, .ref (m + 7486 + 9 * s9.toNatClampNeg)), (6, .ref (m + 7486 + 9 * s8.toNatClampNeg))]) (st' := [.int 1, .int (g2 0)]) [(63, .iconst 1)] (by decide +kernel) rfl ?_
          have hJ79 : ∀ (_ : True), ((kS1 = 1 ∨ kS1 = 2) ∧ (kS2 = 1 ∨ kS2 = 2)) → zP (d + 1) zq_X16_work 79 [(0, .ref m), (1, .int op), (4, .int to), (5, .ref (m + 7486 + 9 * s9.toNatClampNeg)), (6, .ref (m + 7486 + 9 * s8.toNatClampNeg))] [] w sz 0 0 Post := by
            intro _ hkk9
            refine zp_seg (pc' := 80) (lv' := [(0, .ref m), (1, .int op), (4, .int to), (5, .ref (m + 7486 + 9 * s9.toNatClampNeg)), (6, .ref (m + 7486 + 9 * s8.toNatClampNeg))]) (st' := [.int op]) [(79, .iload_n 1)] (by decide +kernel) rfl ?_
            refine zp_if (i := .ifCond .lt 9) (c := op < 0) (t := 89) (e := 83) (lv' := [(0, .ref m), (1, .int op), (4, .int to), (5, .ref (m + 7486 + 9 * s9.toNatClampNeg)), (6, .ref (m + 7486 + 9 * s8.toNatClampNeg))]) (st' := []) (by decide +kernel) rfl (fun cc80 => ?_) (fun cc80 => ?_)
            ·
              have f27 := zltI cc80
              rw [show (0 : Int32).toInt = 0 from by decide] at f27
              refine zp_seg (pc' := 90) (lv' := [(0, .ref m), (1, .int op), (4, .int to), (5, .ref (m + 7486 + 9 * s9.toNatClampNeg)), (6, .ref (m + 7486 + 9 * s8.toNatClampNeg))]) (st' := [.int (Int32.ofInt (-1))]) [(89, .iconst (-1))] (by decide +kernel) rfl ?_
              have hoffend : ∀ x, (x < m + 0 ∨ m + 0 + 8322 ≤ x) → w x = w x := fun x hx => rfl
              refine zr_retI (by decide +kernel) rfl ?_
              rw [← hPost]; exact ⟨rfl, _, rfl, zSI.rf, hoffend, ⟨_, _, hm, hR_m, hSl0, hMd0, hPl0, ⟨_, hAf0, hff⟩, hBo0, hBl0, hGa0, hGb0, hBd0, hI12, hI24, hI29, hI31, hIn⟩, _, rfl, trivial⟩
            ·
              have f29 := znltI cc80
              rw [show (0 : Int32).toInt = 0 from by decide] at f29
              refine zp_seg (pc' := 86) (lv' := [(0, .ref m), (1, .int op), (4, .int to), (5, .ref (m + 7486 + 9 * s9.toNatClampNeg)), (6, .ref (m + 7486 + 9 * s8.toNatClampNeg))]) (st' := [.int 6, .int op]) [(83, .iload_n 1), (84, .bipush 6)] (by decide +kernel) rfl ?_
              refine zp_if (i := .if_icmp .le 5) (c := op ≤ 6) (t := 91) (e := 89) (lv' := [(0, .ref m), (1, .int op), (4, .int to), (5, .ref (m + 7486 + 9 * s9.toNatClampNeg)), (6, .ref (m + 7486 + 9 * s8.toNatClampNeg))]) (st' := []) (by decide +kernel) rfl (fun cc86 => ?_) (fun cc86 => ?_)
              ·
                have f31 := zleI cc86
                rw [show (6 : Int32).toInt = 6 from by decide] at f31
                refine zp_seg (pc' := 93) (lv' := [(0, .ref m), (1, .int op), (4, .int to), (5, .ref (m + 7486 + 9 * s9.toNatClampNeg)), (6, .ref (m + 7486 + 9 * s8.toNatClampNeg))]) (st' := [.int 2, .int op]) [(91, .iload_n 1), (92, .iconst 2)] (by decide +kernel) rfl ?_
                have hJ114 : ∀ (_ : True), (op.toInt < 2 → kS1 = 1 ∧ kS2 = 1) → zP (d + 1) zq_X16_work 114 [(0, .ref m), (1, .int op), (4, .int to), (5, .ref (m + 7486 + 9 * s9.toNatClampNeg)), (6, .ref (m + 7486 + 9 * s8.toNatClampNeg))] [] w sz 0 0 Post := by
                  intro _ hop8
                  refine zp_seg (pc' := 116) (lv' := [(0, .ref m), (1, .int op), (4, .int to), (5, .ref (m + 7486 + 9 * s9.toNatClampNeg)), (6, .ref (m + 7486 + 9 * s8.toNatClampNeg))]) (st' := [.int 3, .int op]) [(114, .iload_n 1), (115, .iconst 3)] (by decide +kernel) rfl ?_
                  have hJ138 : ∀ (_ : True), ((op.toInt < 2 → kS1 = 1 ∧ kS2 = 1) ∧ (3 < op.toInt → kS1 = 1)) → zP (d + 1) zq_X16_work 138 [(0, .ref m), (1, .int op), (4, .int to), (5, .ref (m + 7486 + 9 * s9.toNatClampNeg)), (6, .ref (m + 7486 + 9 * s8.toNatClampNeg))] [] w sz 0 0 Post := by
                    intro _ hop9
                    refine zp_seg (pc' := 139) (lv' := [(0, .ref m), (1, .int op), (4, .int to), (5, .ref (m + 7486 + 9 * s9.toNatClampNeg)), (6, .ref (m + 7486 + 9 * s8.toNatClampNeg))]) (st' := [.ref m]) [(138, .aload_n 0)] (by decide +kernel) rfl ?_
                    refine zr_callV (idx := 555) (j := 337) (by decide +kernel) (by decide +kernel) (show zMe 337 = some zq_X16_begin from rfl) rfl rfl (Nat.le_of_ble_eq_true rfl) rfl rfl hm (Nat.le_of_ble_eq_true rfl) (Nat.le_of_ble_eq_true rfl) (c_X16_beginZ (w := w) m hm hR_m) (by omega) (fun v139 w139 hp139 => ?_)
                    obtain ⟨Z9_139, hsi139, heq139, hp139_0, hp139_1, rfl⟩ := hp139
                    have hM139 : w139 m = some (.inl (15, zMo m (zs (zs (zs g 1 Z9_139) 3 Z9_139) 16 Z9_139) r)) := hp139_0
                    show zP _ _ _ _ [] _ _ _ _ _
                    have k32 := zrng Z9_139
                    have hz33 : (Z9_139.toNatClampNeg : Int) = Z9_139.toInt := znat (by first | omega | decide)
                    have hgzZ9_139_0 : Z9_139.toNatClampNeg = 0 := by omega
                    refine zp_seg (pc' := 143) (lv' := [(0, .ref m), (1, .int op), (4, .int to), (5, .ref (m + 7486 + 9 * s9.toNatClampNeg)), (6, .ref (m + 7486 + 9 * s8.toNatClampNeg))]) (st' := [.ref m]) [(142, .aload_n 0)] (by decide +kernel) rfl ?_
                    refine zr_get (idx := 453) (k := 21) (v := .ref (m + 83)) (by decide +kernel) (by decide +kernel) hM139 rfl ?_
                    refine zp_seg (pc' := 148) (lv' := [(0, .ref m), (1, .int op), (4, .int to), (5, .ref (m + 7486 + 9 * s9.toNatClampNeg)), (6, .ref (m + 7486 + 9 * s8.toNatClampNeg))]) (st' := [.ref (m + 7486 + 9 * s9.toNatClampNeg), .ref (m + 83)]) [(146, .aload 5)] (by decide +kernel) rfl ?_
                    have hb34 : zTm w139 (m + 83) := hMd0.ag (fun x hx1 hx2 => (heq139 x (zx_X16_work_0 hx1 hx2)))
                    have hb35 : zTi w139 (m + 7486 + 9 * s9.toNatClampNeg) kS1 := hkS1.ag (fun x hx1 hx2 => (heq139 x (by omega)))
                    refine zr_callS (idx := 547) (j := 298) (by decide +kernel) (by decide +kernel) (by decide) (show zMe 298 = some zq_X16_copy from rfl) rfl rfl (Nat.le_of_ble_eq_true rfl) rfl rfl (Nat.le_of_ble_eq_true rfl) (Nat.le_of_ble_eq_true rfl) (c_X16_copyM (w := w139) (m + 83) (m + 7486 + 9 * s9.toNatClampNeg) hb34 hb35 (by first | omega | decide | assumption | exact zr1_1 | exact zr1_0 | fail "num")) (by omega) (fun v148 w148 hp148 => ?_)
                    obtain ⟨hsi148, heq148, hp148_0, rfl⟩ := hp148
                    show zP _ _ _ _ [] _ _ _ _ _
                    refine zp_seg (pc' := 153) (lv' := [(0, .ref m), (1, .int op), (4, .int to), (5, .ref (m + 7486 + 9 * s9.toNatClampNeg)), (6, .ref (m + 7486 + 9 * s8.toNatClampNeg))]) (st' := [.int 2, .int op]) [(151, .iload_n 1), (152, .iconst 2)] (by decide +kernel) rfl ?_
                    refine zp_if (i := .if_icmp .ge 38) (c := 2 ≤ op) (t := 191) (e := 156) (lv' := [(0, .ref m), (1, .int op), (4, .int to), (5, .ref (m + 7486 + 9 * s9.toNatClampNeg)), (6, .ref (m + 7486 + 9 * s8.toNatClampNeg))]) (st' := []) (by decide +kernel) rfl (fun cc153 => ?_) (fun cc153 => ?_)
                    ·
                      have f37 := zleI cc153
                      rw [show (2 : Int32).toInt = 2 from by decide] at f37
                      refine zp_seg (pc' := 193) (lv' := [(0, .ref m), (1, .int op), (4, .int to), (5, .ref (m + 7486 + 9 * s9.toNatClampNeg)), (6, .ref (m + 7486 + 9 * s8.toNatClampNeg))]) (st' := [.int 4, .int op]) [(191, .iload_n 1), (192, .iconst 4)] (by decide +kernel) rfl ?_
                      refine zp_if (i := .if_icmp .ge 53) (c := 4 ≤ op) (t := 246) (e := 196) (lv' := [(0, .ref m), (1, .int op), (4, .int to), (5, .ref (m + 7486 + 9 * s9.toNatClampNeg)), (6, .ref (m + 7486 + 9 * s8.toNatClampNeg))]) (st' := []) (by decide +kernel) rfl (fun cc193 => ?_) (fun cc193 => ?_)
                      ·
                        have f39 := zleI cc193
                        rw [show (4 : Int32).toInt = 4 from by decide] at f39
                        refine zp_seg (pc' := 247) (lv' := [(0, .ref m), (1, .int op), (4, .int to), (5, .ref (m + 7486 + 9 * s9.toNatClampNeg)), (6, .ref (m + 7486 + 9 * s8.toNatClampNeg))]) (st' := [.ref m]) [(246, .aload_n 0)] (by decide +kernel) rfl ?_
                        have hb40 : w148 m = some (.inl (15, zMo m (zs (zs (zs g 1 Z9_139) 3 Z9_139) 16 Z9_139) r)) := (heq148 m (zx_X16_work_1)).trans hM139
                        have hb41 := hR_m.si (hsi139.tr hsi148)
                        refine zr_callV (idx := 140) (j := 274) (by decide +kernel) (by decide +kernel) (show zMe 274 = some zq_X16_newB from rfl) rfl rfl (Nat.le_of_ble_eq_true rfl) rfl rfl hb40 (Nat.le_of_ble_eq_true rfl) (Nat.le_of_ble_eq_true rfl) (c_X16_newB (w := w148) (g3 := Z9_139) m hb40 hb41 (by first | omega | decide | assumption | exact zr1_1 | exact zr1_0 | fail "num") rfl) (by omega) (fun v247 w247 hp247 => ?_)
                        obtain ⟨hsi247, heq247, hp247_0, hp247_1, rfl⟩ := hp247
                        have hM247 : w247 m = some (.inl (15, zMo m (zs (zs (zs g 1 Z9_139) 3 (Z9_139 + 1)) 16 Z9_139) r)) := hp247_0
                        show zP _ _ _ _ [.ref (m + 596 + 130 * Z9_139.toNatClampNeg)] _ _ _ _ _
                        refine zp_seg (pc' := 253) (lv' := [(7, .ref (m + 596 + 130 * Z9_139.toNatClampNeg)), (0, .ref m), (1, .int op), (4, .int to), (5, .ref (m + 7486 + 9 * s9.toNatClampNeg)), (6, .ref (m + 7486 + 9 * s8.toNatClampNeg))]) (st' := [.ref m]) [(250, .astore 7), (252, .aload_n 0)] (by decide +kernel) rfl ?_
                        have k43 := zaddC Z9_139 1 (n := 1) (by decide) (by omega) (by omega)
                        have hz44 : ((Z9_139 + 1).toNatClampNeg : Int) = (Z9_139 + 1).toInt := znat (by first | omega | decide)
                        have hgzZ9_139_1 : (Z9_139 + 1).toNatClampNeg = 1 := by omega
                        have hb45 := hb41.si hsi247
                        refine zr_callV (idx := 140) (j := 274) (by decide +kernel) (by decide +kernel) (show zMe 274 = some zq_X16_newB from rfl) rfl rfl (Nat.le_of_ble_eq_true rfl) rfl rfl hM247 (Nat.le_of_ble_eq_true rfl) (Nat.le_of_ble_eq_true rfl) (c_X16_newB (w := w247) (g3 := (Z9_139 + 1)) m hM247 hb45 (by first | omega | decide | assumption | exact zr1_1 | exact zr1_0 | fail "num") rfl) (by omega) (fun v253 w253 hp253 => ?_)
                        obtain ⟨hsi253, heq253, hp253_0, hp253_1, rfl⟩ := hp253
                        have hM253 : w253 m = some (.inl (15, zMo m (zs (zs (zs g 1 Z9_139) 3 (Z9_139 + 1 + 1)) 16 Z9_139) r)) := hp253_0
                        show zP _ _ _ _ [.ref (m + 596 + 130 * (Z9_139 + 1).toNatClampNeg)] _ _ _ _ _
                        refine zp_seg (pc' := 259) (lv' := [(8, .ref (m + 596 + 130 * (Z9_139 + 1).toNatClampNeg)), (7, .ref (m + 596 + 130 * Z9_139.toNatClampNeg)), (0, .ref m), (1, .int op), (4, .int to), (5, .ref (m + 7486 + 9 * s9.toNatClampNeg)), (6, .ref (m + 7486 + 9 * s8.toNatClampNeg))]) (st' := [.ref m]) [(256, .astore 8), (258, .aload_n 0)] (by decide +kernel) rfl ?_
                        have k46 := zaddC (Z9_139 + 1) 1 (n := 1) (by decide) (by omega) (by omega)
                        have hz47 : ((Z9_139 + 1 + 1).toNatClampNeg : Int) = (Z9_139 + 1 + 1).toInt := znat (by first | omega | decide)
                        have hgzZ9_139_2 : (Z9_139 + 1 + 1).toNatClampNeg = 2 := by omega
                        have hb48 := hb45.si hsi253
                        refine zr_callV (idx := 140) (j := 274) (by decide +kernel) (by decide +kernel) (show zMe 274 = some zq_X16_newB from rfl) rfl rfl (Nat.le_of_ble_eq_true rfl) rfl rfl hM253 (Nat.le_of_ble_eq_true rfl) (Nat.le_of_ble_eq_true rfl) (c_X16_newB (w := w253) (g3 := (Z9_139 + 1 + 1)) m hM253 hb48 (by first | omega | decide | assumption | exact zr1_1 | exact zr1_0 | fail "num") rfl) (by omega) (fun v259 w259 hp259 => ?_)
                        obtain ⟨hsi259, heq259, hp259_0, hp259_1, rfl⟩ := hp259
                        have hM259 : w259 m = some (.inl (15, zMo m (zs (zs (zs g 1 Z9_139) 3 (Z9_139 + 1 + 1 + 1)) 16 Z9_139) r)) := hp259_0
                        show zP _ _ _ _ [.ref (m + 596 + 130 * (Z9_139 + 1 + 1).toNatClampNeg)] _ _ _ _ _
                        refine zp_seg (pc' := 265) (lv' := [(9, .ref (m + 596 + 130 * (Z9_139 + 1 + 1).toNatClampNeg)), (8, .ref (m + 596 + 130 * (Z9_139 + 1).toNatClampNeg)), (7, .ref (m + 596 + 130 * Z9_139.toNatClampNeg)), (0, .ref m), (1, .int op), (4, .int to), (5, .ref (m + 7486 + 9 * s9.toNatClampNeg)), (6, .ref (m + 7486 + 9 * s8.toNatClampNeg))]) (st' := [.ref m]) [(262, .astore 9), (264, .aload_n 0)] (by decide +kernel) rfl ?_
                        have k49 := zaddC (Z9_139 + 1 + 1) 1 (n := 1) (by decide) (by omega) (by omega)
                        have hz50 : ((Z9_139 + 1 + 1 + 1).toNatClampNeg : Int) = (Z9_139 + 1 + 1 + 1).toInt := znat (by first | omega | decide)
                        have hgzZ9_139_3 : (Z9_139 + 1 + 1 + 1).toNatClampNeg = 3 := by omega
                        have hb51 := hb48.si hsi259
                        refine zr_callV (idx := 140) (j := 274) (by decide +kernel) (by decide +kernel) (show zMe 274 = some zq_X16_newB from rfl) rfl rfl (Nat.le_of_ble_eq_true rfl) rfl rfl hM259 (Nat.le_of_ble_eq_true rfl) (Nat.le_of_ble_eq_true rfl) (c_X16_newB (w := w259) (g3 := (Z9_139 + 1 + 1 + 1)) m hM259 hb51 (by first | omega | decide | assumption | exact zr1_1 | exact zr1_0 | fail "num") rfl) (by omega) (fun v265 w265 hp265 => ?_)
                        obtain ⟨hsi265, heq265, hp265_0, hp265_1, rfl⟩ := hp265
                        have hM265 : w265 m = some (.inl (15, zMo m (zs (zs (zs g 1 Z9_139) 3 (Z9_139 + 1 + 1 + 1 + 1)) 16 Z9_139) r)) := hp265_0
                        show zP _ _ _ _ [.ref (m + 596 + 130 * (Z9_139 + 1 + 1 + 1).toNatClampNeg)] _ _ _ _ _
                        refine zp_seg (pc' := 270) (lv' := [(10, .ref (m + 596 + 130 * (Z9_139 + 1 + 1 + 1).toNatClampNeg)), (9, .ref (m + 596 + 130 * (Z9_139 + 1 + 1).toNatClampNeg)), (8, .ref (m + 596 + 130 * (Z9_139 + 1).toNatClampNeg)), (7, .ref (m + 596 + 130 * Z9_139.toNatClampNeg)), (0, .ref m), (1, .int op), (4, .int to), (5, .ref (m + 7486 + 9 * s9.toNatClampNeg)), (6, .ref (m + 7486 + 9 * s8.toNatClampNeg))]) (st' := []) [(268, .astore 10)] (by decide +kernel) rfl ?_
                        have hdn1 := zbT_dn fn1
                        have hrn1 := zbT_rw fn1
                        have hdn2 := zbT_dn fn2
                        have hrn2 := zbT_rw fn2
                        have k52 := zaddC (Z9_139 + 1 + 1 + 1) 1 (n := 1) (by decide) (by omega) (by omega)
                        have hz53 : ((Z9_139 + 1 + 1 + 1 + 1).toNatClampNeg : Int) = (Z9_139 + 1 + 1 + 1 + 1).toInt := znat (by first | omega | decide)
                        have hgzZ9_139_4 : (Z9_139 + 1 + 1 + 1 + 1).toNatClampNeg = 4 := by omega
                        refine zp_seg (pc' := 274) (lv' := [(10, .ref (m + 596 + 130 * (Z9_139 + 1 + 1 + 1).toNatClampNeg)), (9, .ref (m + 596 + 130 * (Z9_139 + 1 + 1).toNatClampNeg)), (8, .ref (m + 596 + 130 * (Z9_139 + 1).toNatClampNeg)), (7, .ref (m + 596 + 130 * Z9_139.toNatClampNeg)), (0, .ref m), (1, .int op), (4, .int to), (5, .ref (m + 7486 + 9 * s9.toNatClampNeg)), (6, .ref (m + 7486 + 9 * s8.toNatClampNeg))]) (st' := [.ref (m + 7486 + 9 * s9.toNatClampNeg), .ref (m + 596 + 130 * Z9_139.toNatClampNeg)]) [(270, .aload 7), (272, .aload 5)] (by decide +kernel) rfl ?_
                        have hb54 : w265 (m + 7486 + 9 * s9.toNatClampNeg) = some (.inl (13, zTo (m + 7486 + 9 * s9.toNatClampNeg) g1)) := ((heq265 (m + 7486 + 9 * s9.toNatClampNeg) (by omega)).trans ((heq259 (m + 7486 + 9 * s9.toNatClampNeg) (by omega)).trans ((heq253 (m + 7486 + 9 * s9.toNatClampNeg) (by omega)).trans ((heq247 (m + 7486 + 9 * s9.toNatClampNeg) (by omega)).trans ((heq148 (m + 7486 + 9 * s9.toNatClampNeg) (by omega)).trans (heq139 (m + 7486 + 9 * s9.toNatClampNeg) (by omega))))))).trans hT1
                        refine zr_get (idx := 207) (k := 1) (v := .ref (m + 7486 + 9 * s9.toNatClampNeg + 1)) (by decide +kernel) (by decide +kernel) hb54 rfl ?_
                        have hb55 : zB w265 (m + 596 + 130 * Z9_139.toNatClampNeg) zbZ := hp247_1.ag (fun x hx1 hx2 => ((heq265 x ⟨(zx_X16_work_2 hx1 hx2 hgzZ9_139_0), (zx_X16_work_5 hx1 hx2 hgzZ9_139_0 hgzZ9_139_3)⟩).trans ((heq259 x ⟨(zx_X16_work_2 hx1 hx2 hgzZ9_139_0), (zx_X16_work_4 hx1 hx2 hgzZ9_139_0 hgzZ9_139_2)⟩).trans (heq253 x ⟨(zx_X16_work_2 hx1 hx2 hgzZ9_139_0), (zx_X16_work_3 hx1 hx2 hgzZ9_139_0 hgzZ9_139_1)⟩))))
                        have ho277_b := zB.o hb55
                        have hb56 : w265 (m + 7486 + 9 * s9.toNatClampNeg + 1) = some (.inr (0, 325, .inl fn1)) := ((heq265 (m + 7486 + 9 * s9.toNatClampNeg + 1) (by omega)).trans ((heq259 (m + 7486 + 9 * s9.toNatClampNeg + 1) (by omega)).trans ((heq253 (m + 7486 + 9 * s9.toNatClampNeg + 1) (by omega)).trans ((heq247 (m + 7486 + 9 * s9.toNatClampNeg + 1) (by omega)).trans ((heq148 (m + 7486 + 9 * s9.toNatClampNeg + 1) (by omega)).trans (heq139 (m + 7486 + 9 * s9.toNatClampNeg + 1) (by omega))))))).trans hAn1
                        refine zr_callS (idx := 295) (j := 299) (by decide +kernel) (by decide +kernel) (by decide) (show zMe 299 = some zq_X16_load from rfl) rfl rfl (Nat.le_of_ble_eq_true rfl) rfl rfl (Nat.le_of_ble_eq_true rfl) (Nat.le_of_ble_eq_true rfl) (c_X16_load (w := w265) (m + 596 + 130 * Z9_139.toNatClampNeg) (m + 7486 + 9 * s9.toNatClampNeg + 1) ho277_b hb56 (by exact hKn1) (by first | omega | decide | assumption | exact zr1_1 | exact zr1_0 | fail "num")) (by omega) (fun v277 w277 hp277 => ?_)
                        obtain ⟨hsi277, heq277, hp277_0, rfl⟩ := hp277
                        show zP _ _ _ _ [] _ _ _ _ _
                        refine zp_seg (pc' := 284) (lv' := [(10, .ref (m + 596 + 130 * (Z9_139 + 1 + 1 + 1).toNatClampNeg)), (9, .ref (m + 596 + 130 * (Z9_139 + 1 + 1).toNatClampNeg)), (8, .ref (m + 596 + 130 * (Z9_139 + 1).toNatClampNeg)), (7, .ref (m + 596 + 130 * Z9_139.toNatClampNeg)), (0, .ref m), (1, .int op), (4, .int to), (5, .ref (m + 7486 + 9 * s9.toNatClampNeg)), (6, .ref (m + 7486 + 9 * s8.toNatClampNeg))]) (st' := [.ref (m + 7486 + 9 * s8.toNatClampNeg), .ref (m + 596 + 130 * (Z9_139 + 1).toNatClampNeg)]) [(280, .aload 8), (282, .aload 6)] (by decide +kernel) rfl ?_
                        have hb57 : w277 (m + 7486 + 9 * s8.toNatClampNeg) = some (.inl (13, zTo (m + 7486 + 9 * s8.toNatClampNeg) g2)) := ((heq277 (m + 7486 + 9 * s8.toNatClampNeg) (by omega)).trans ((heq265 (m + 7486 + 9 * s8.toNatClampNeg) (by omega)).trans ((heq259 (m + 7486 + 9 * s8.toNatClampNeg) (by omega)).trans ((heq253 (m + 7486 + 9 * s8.toNatClampNeg) (by omega)).trans ((heq247 (m + 7486 + 9 * s8.toNatClampNeg) (by omega)).trans ((heq148 (m + 7486 + 9 * s8.toNatClampNeg) (by omega)).trans (heq139 (m + 7486 + 9 * s8.toNatClampNeg) (by omega)))))))).trans hT2
                        refine zr_get (idx := 207) (k := 1) (v := .ref (m + 7486 + 9 * s8.toNatClampNeg + 1)) (by decide +kernel) (by decide +kernel) hb57 rfl ?_
                        have hb58 : zB w277 (m + 596 + 130 * (Z9_139 + 1).toNatClampNeg) zbZ := hp253_1.ag (fun x hx1 hx2 => ((heq277 x (zx_X16_work_9 hx1 hx2 hgzZ9_139_0 hgzZ9_139_1)).trans ((heq265 x ⟨(zx_X16_work_6 hx1 hx2 hgzZ9_139_1), (zx_X16_work_8 hx1 hx2 hgzZ9_139_1 hgzZ9_139_3)⟩).trans (heq259 x ⟨(zx_X16_work_6 hx1 hx2 hgzZ9_139_1), (zx_X16_work_7 hx1 hx2 hgzZ9_139_1 hgzZ9_139_2)⟩))))
                        have ho287_b := zB.o hb58
                        have hb59 : w277 (m + 7486 + 9 * s8.toNatClampNeg + 1) = some (.inr (0, 325, .inl fn2)) := ((heq277 (m + 7486 + 9 * s8.toNatClampNeg + 1) (by omega)).trans ((heq265 (m + 7486 + 9 * s8.toNatClampNeg + 1) (by omega)).trans ((heq259 (m + 7486 + 9 * s8.toNatClampNeg + 1) (by omega)).trans ((heq253 (m + 7486 + 9 * s8.toNatClampNeg + 1) (by omega)).trans ((heq247 (m + 7486 + 9 * s8.toNatClampNeg + 1) (by omega)).trans ((heq148 (m + 7486 + 9 * s8.toNatClampNeg + 1) (by omega)).trans (heq139 (m + 7486 + 9 * s8.toNatClampNeg + 1) (by omega)))))))).trans hAn2
                        refine zr_callS (idx := 295) (j := 299) (by decide +kernel) (by decide +kernel) (by decide) (show zMe 299 = some zq_X16_load from rfl) rfl rfl (Nat.le_of_ble_eq_true rfl) rfl rfl (Nat.le_of_ble_eq_true rfl) (Nat.le_of_ble_eq_true rfl) (c_X16_load (w := w277) (m + 596 + 130 * (Z9_139 + 1).toNatClampNeg) (m + 7486 + 9 * s8.toNatClampNeg + 1) ho287_b hb59 (by exact hKn2) (by first | omega | decide | assumption | exact zr1_1 | exact zr1_0 | fail "num")) (by omega) (fun v287 w287 hp287 => ?_)
                        obtain ⟨hsi287, heq287, hp287_0, rfl⟩ := hp287
                        show zP _ _ _ _ [] _ _ _ _ _
                        refine zp_seg (pc' := 293) (lv' := [(10, .ref (m + 596 + 130 * (Z9_139 + 1 + 1 + 1).toNatClampNeg)), (9, .ref (m + 596 + 130 * (Z9_139 + 1 + 1).toNatClampNeg)), (8, .ref (m + 596 + 130 * (Z9_139 + 1).toNatClampNeg)), (7, .ref (m + 596 + 130 * Z9_139.toNatClampNeg)), (0, .ref m), (1, .int op), (4, .int to), (5, .ref (m + 7486 + 9 * s9.toNatClampNeg)), (6, .ref (m + 7486 + 9 * s8.toNatClampNeg))]) (st' := [.int 1, .ref (m + 596 + 130 * (Z9_139 + 1 + 1 + 1).toNatClampNeg)]) [(290, .aload 10), (292, .iconst 1)] (by decide +kernel) rfl ?_
                        have hb60 : zB w287 (m + 596 + 130 * (Z9_139 + 1 + 1 + 1).toNatClampNeg) zbZ := hp265_1.ag (fun x hx1 hx2 => ((heq287 x (zx_X16_work_11 hx1 hx2 hgzZ9_139_1 hgzZ9_139_3)).trans (heq277 x (zx_X16_work_10 hx1 hx2 hgzZ9_139_0 hgzZ9_139_3))))
                        have ho293_b := zB.o hb60
                        obtain ⟨n61, hb62, hb63, hb64, hb65, -⟩ := id hb60
                        have kn61 := zrng n61
                        refine zr_callV (idx := 158) (j := 245) (by decide +kernel) (by decide +kernel) (show zMe 245 = some zq_X12_number from rfl) rfl rfl (Nat.le_of_ble_eq_true rfl) rfl rfl hb62 (Nat.le_of_ble_eq_true rfl) (Nat.le_of_ble_eq_true rfl) (c_X12_number (w := w287) (m + 596 + 130 * (Z9_139 + 1 + 1 + 1).toNatClampNeg) 1 ho293_b (by exact zr1_1)) (by omega) (fun v293 w293 hp293 => ?_)
                        obtain ⟨hsi293, heq293, hp293_0, rfl⟩ := hp293
                        show zP _ _ _ _ [] _ _ _ _ _
                        refine zp_seg (pc' := 301) (lv' := [(11, .int 1), (10, .ref (m + 596 + 130 * (Z9_139 + 1 + 1 + 1).toNatClampNeg)), (9, .ref (m + 596 + 130 * (Z9_139 + 1 + 1).toNatClampNeg)), (8, .ref (m + 596 + 130 * (Z9_139 + 1).toNatClampNeg)), (7, .ref (m + 596 + 130 * Z9_139.toNatClampNeg)), (0, .ref m), (1, .int op), (4, .int to), (5, .ref (m + 7486 + 9 * s9.toNatClampNeg)), (6, .ref (m + 7486 + 9 * s8.toNatClampNeg))]) (st' := [.int 4, .int op]) [(296, .iconst 1), (297, .istore 11), (299, .iload_n 1), (300, .iconst 4)] (by decide +kernel) rfl ?_
                        have hb66 : w293 m = some (.inl (15, zMo m (zs (zs (zs g 1 Z9_139) 3 (Z9_139 + 1 + 1 + 1 + 1)) 16 Z9_139) r)) := ((heq293 m (zx_X16_work_14 hgzZ9_139_3)).trans ((heq287 m (zx_X16_work_13 hgzZ9_139_1)).trans (heq277 m (zx_X16_work_12 hgzZ9_139_0)))).trans hM265
                        have hJ340 : ∀ (wL340 : zM) (y11_340 : Int32) (x1 : Int32) (x3 : Int32), (zSI w293 wL340) → (∀ x, ((x < m ∨ m + 1 ≤ x) ∧ (x < m + 100 ∨ m + 100 + 49 ≤ x) ∧ (x < m + 276 ∨ m + 276 + 320 ≤ x) ∧ (x < m + 596 + 130 * (Z9_139 + 1 + 1).toNatClampNeg ∨ m + 596 + 130 * (Z9_139 + 1 + 1).toNatClampNeg + 130 ≤ x) ∧ (x < m + 596 + 130 * (Z9_139 + 1 + 1 + 1 + 1).toNatClampNeg ∨ m + 596 + 130 * (Z9_139 + 1 + 1 + 1 + 1).toNatClampNeg + (5720 - 130 * (Z9_139 + 1 + 1 + 1 + 1).toNatClampNeg) ≤ x) ∧ (x < m + 3 ∨ m + 3 + 1 ≤ x) ∧ (x < m + 5 ∨ m + 5 + 64 ≤ x)) ∧ x ≠ m → wL340 x = w293 x) → ((y11_340 = 0 ∨ y11_340 = 1)) → (wL340 m = some (.inl (15, zMo m (zs (zs (zs g 1 x1) 3 x3) 16 Z9_139) r))) → (zGr wL340 (m + 100) 48 48) → (y11_340 = 1 → ∃ P9, zB wL340 (m + 596 + 130 * (Z9_139 + 1 + 1).toNatClampNeg) P9) → zP (d + 1) zq_X16_work 340 [(0, .ref m), (4, .int to), (9, .ref (m + 596 + 130 * (Z9_139 + 1 + 1).toNatClampNeg)), (10, .ref (m + 596 + 130 * (Z9_139 + 1 + 1 + 1).toNatClampNeg)), (11, .int y11_340)] [] wL340 sz 0 0 Post := by
                          intro wL340 y11_340 x1 x3 hsiL340 heqL340 hi340_0 hxM hGl hgB
                          have ky11_340 := zrng y11_340
                          refine zp_seg (pc' := 342) (lv' := [(0, .ref m), (4, .int to), (9, .ref (m + 596 + 130 * (Z9_139 + 1 + 1).toNatClampNeg)), (10, .ref (m + 596 + 130 * (Z9_139 + 1 + 1 + 1).toNatClampNeg)), (11, .int y11_340)]) (st' := [.int y11_340]) [(340, .iload 11)] (by decide +kernel) rfl ?_
                          refine zp_if (i := .ifCond .eq 26) (c := y11_340 = 0) (t := 368) (e := 345) (lv' := [(0, .ref m), (4, .int to), (9, .ref (m + 596 + 130 * (Z9_139 + 1 + 1).toNatClampNeg)), (10, .ref (m + 596 + 130 * (Z9_139 + 1 + 1 + 1).toNatClampNeg)), (11, .int y11_340)]) (st' := []) (by decide +kernel) rfl (fun cc342 => ?_) (fun cc342 => ?_)
                          ·
                            have f67 := zeqI cc342
                            rw [show (0 : Int32).toInt = 0 from by decide] at f67
                            refine zp_seg (pc' := 370) (lv' := [(0, .ref m), (4, .int to), (9, .ref (m + 596 + 130 * (Z9_139 + 1 + 1).toNatClampNeg)), (10, .ref (m + 596 + 130 * (Z9_139 + 1 + 1 + 1).toNatClampNeg)), (11, .int y11_340)]) (st' := [.int (Int32.ofInt (-2))]) [(368, .bipush (-2))] (by decide +kernel) rfl ?_
                            have hoffend : ∀ x, (x < m + 0 ∨ m + 0 + 8322 ≤ x) → wL340 x = w x := fun x hx => ((heqL340 x ⟨⟨(zx_X16_work_15 hx), (zx_X16_work_21 hx), (zx_X16_work_22 hx), (zx_X16_work_19 hx hgzZ9_139_2), (zx_X16_work_23 hx hgzZ9_139_4), (zx_X16_work_24 hx), (zx_X16_work_25 hx)⟩, (zx_X16_work_26 hx)⟩).trans ((heq293 x (zx_X16_work_20 hx hgzZ9_139_3)).trans ((heq287 x (zx_X16_work_18 hx hgzZ9_139_1)).trans ((heq277 x (zx_X16_work_17 hx hgzZ9_139_0)).trans ((heq265 x ⟨(zx_X16_work_15 hx), (zx_X16_work_20 hx hgzZ9_139_3)⟩).trans ((heq259 x ⟨(zx_X16_work_15 hx), (zx_X16_work_19 hx hgzZ9_139_2)⟩).trans ((heq253 x ⟨(zx_X16_work_15 hx), (zx_X16_work_18 hx hgzZ9_139_1)⟩).trans ((heq247 x ⟨(zx_X16_work_15 hx), (zx_X16_work_17 hx hgzZ9_139_0)⟩).trans ((heq148 x (zx_X16_work_16 hx)).trans (heq139 x (zx_X16_work_15 hx)))))))))))
                            have hb68 := hb51.si ((((hsi265.tr hsi277).tr hsi287).tr hsi293).tr hsiL340)
                            have hb69 : zSlo wL340 (m + 7486) := hSl0.ag (fun x hx1 hx2 => ((heqL340 x ⟨⟨(zx_X16_work_27 hx1 hx2), (zx_X16_work_33 hx1 hx2), (zx_X16_work_34 hx1 hx2), (zx_X16_work_31 hx1 hx2 hgzZ9_139_2), (zx_X16_work_35 hx1 hx2 hgzZ9_139_4), (zx_X16_work_36 hx1 hx2), (zx_X16_work_37 hx1 hx2)⟩, (zx_X16_work_38 hx1 hx2)⟩).trans ((heq293 x (zx_X16_work_32 hx1 hx2 hgzZ9_139_3)).trans ((heq287 x (zx_X16_work_30 hx1 hx2 hgzZ9_139_1)).trans ((heq277 x (zx_X16_work_29 hx1 hx2 hgzZ9_139_0)).trans ((heq265 x ⟨(zx_X16_work_27 hx1 hx2), (zx_X16_work_32 hx1 hx2 hgzZ9_139_3)⟩).trans ((heq259 x ⟨(zx_X16_work_27 hx1 hx2), (zx_X16_work_31 hx1 hx2 hgzZ9_139_2)⟩).trans ((heq253 x ⟨(zx_X16_work_27 hx1 hx2), (zx_X16_work_30 hx1 hx2 hgzZ9_139_1)⟩).trans ((heq247 x ⟨(zx_X16_work_27 hx1 hx2), (zx_X16_work_29 hx1 hx2 hgzZ9_139_0)⟩).trans ((heq148 x (zx_X16_work_28 hx1 hx2)).trans (heq139 x (zx_X16_work_27 hx1 hx2))))))))))))
                            have hb70 : zTi wL340 (m + 83) kS1 := hp148_0.ag (fun x hx1 hx2 => ((heqL340 x ⟨⟨(zx_X16_work_0 hx1 hx2), (zx_X16_work_43 hx1 hx2), (zx_X16_work_44 hx1 hx2), (zx_X16_work_41 hx1 hx2 hgzZ9_139_2), (zx_X16_work_45 hx1 hx2 hgzZ9_139_4), (zx_X16_work_46 hx1 hx2), (zx_X16_work_47 hx1 hx2)⟩, (zx_X16_work_48 hx1 hx2)⟩).trans ((heq293 x (zx_X16_work_42 hx1 hx2 hgzZ9_139_3)).trans ((heq287 x (zx_X16_work_40 hx1 hx2 hgzZ9_139_1)).trans ((heq277 x (zx_X16_work_39 hx1 hx2 hgzZ9_139_0)).trans ((heq265 x ⟨(zx_X16_work_0 hx1 hx2), (zx_X16_work_42 hx1 hx2 hgzZ9_139_3)⟩).trans ((heq259 x ⟨(zx_X16_work_0 hx1 hx2), (zx_X16_work_41 hx1 hx2 hgzZ9_139_2)⟩).trans ((heq253 x ⟨(zx_X16_work_0 hx1 hx2), (zx_X16_work_40 hx1 hx2 hgzZ9_139_1)⟩).trans (heq247 x ⟨(zx_X16_work_0 hx1 hx2), (zx_X16_work_39 hx1 hx2 hgzZ9_139_0)⟩)))))))))
                            have hb71 : zPil wL340 (m + 6316) := hPl0.ag (fun x hx1 hx2 => ((heqL340 x ⟨⟨(zx_X16_work_49 hx1 hx2), (zx_X16_work_55 hx1 hx2), (zx_X16_work_56 hx1 hx2), (zx_X16_work_53 hx1 hx2 hgzZ9_139_2), (zx_X16_work_57 hx1 hx2 hgzZ9_139_4), (zx_X16_work_58 hx1 hx2), (zx_X16_work_59 hx1 hx2)⟩, (zx_X16_work_60 hx1 hx2)⟩).trans ((heq293 x (zx_X16_work_54 hx1 hx2 hgzZ9_139_3)).trans ((heq287 x (zx_X16_work_52 hx1 hx2 hgzZ9_139_1)).trans ((heq277 x (zx_X16_work_51 hx1 hx2 hgzZ9_139_0)).trans ((heq265 x ⟨(zx_X16_work_49 hx1 hx2), (zx_X16_work_54 hx1 hx2 hgzZ9_139_3)⟩).trans ((heq259 x ⟨(zx_X16_work_49 hx1 hx2), (zx_X16_work_53 hx1 hx2 hgzZ9_139_2)⟩).trans ((heq253 x ⟨(zx_X16_work_49 hx1 hx2), (zx_X16_work_52 hx1 hx2 hgzZ9_139_1)⟩).trans ((heq247 x ⟨(zx_X16_work_49 hx1 hx2), (zx_X16_work_51 hx1 hx2 hgzZ9_139_0)⟩).trans ((heq148 x (zx_X16_work_50 hx1 hx2)).trans (heq139 x (zx_X16_work_49 hx1 hx2))))))))))))
                            have hb72 : zBya wL340 (m + 92) 4000 := hBo0.ag (fun x hx1 hx2 => ((heqL340 x ⟨⟨(zx_X16_work_61 hx1 hx2), (zx_X16_work_67 hx1 hx2), (zx_X16_work_68 hx1 hx2), (zx_X16_work_65 hx1 hx2 hgzZ9_139_2), (zx_X16_work_69 hx1 hx2 hgzZ9_139_4), (zx_X16_work_70 hx1 hx2), (zx_X16_work_71 hx1 hx2)⟩, (zx_X16_work_72 hx1 hx2)⟩).trans ((heq293 x (zx_X16_work_66 hx1 hx2 hgzZ9_139_3)).trans ((heq287 x (zx_X16_work_64 hx1 hx2 hgzZ9_139_1)).trans ((heq277 x (zx_X16_work_63 hx1 hx2 hgzZ9_139_0)).trans ((heq265 x ⟨(zx_X16_work_61 hx1 hx2), (zx_X16_work_66 hx1 hx2 hgzZ9_139_3)⟩).trans ((heq259 x ⟨(zx_X16_work_61 hx1 hx2), (zx_X16_work_65 hx1 hx2 hgzZ9_139_2)⟩).trans ((heq253 x ⟨(zx_X16_work_61 hx1 hx2), (zx_X16_work_64 hx1 hx2 hgzZ9_139_1)⟩).trans ((heq247 x ⟨(zx_X16_work_61 hx1 hx2), (zx_X16_work_63 hx1 hx2 hgzZ9_139_0)⟩).trans ((heq148 x (zx_X16_work_62 hx1 hx2)).trans (heq139 x (zx_X16_work_61 hx1 hx2))))))))))))
                            have hb73 : zBya wL340 (m + 93) 4000 := hBl0.ag (fun x hx1 hx2 => ((heqL340 x ⟨⟨(zx_X16_work_73 hx1 hx2), (zx_X16_work_79 hx1 hx2), (zx_X16_work_80 hx1 hx2), (zx_X16_work_77 hx1 hx2 hgzZ9_139_2), (zx_X16_work_81 hx1 hx2 hgzZ9_139_4), (zx_X16_work_82 hx1 hx2), (zx_X16_work_83 hx1 hx2)⟩, (zx_X16_work_84 hx1 hx2)⟩).trans ((heq293 x (zx_X16_work_78 hx1 hx2 hgzZ9_139_3)).trans ((heq287 x (zx_X16_work_76 hx1 hx2 hgzZ9_139_1)).trans ((heq277 x (zx_X16_work_75 hx1 hx2 hgzZ9_139_0)).trans ((heq265 x ⟨(zx_X16_work_73 hx1 hx2), (zx_X16_work_78 hx1 hx2 hgzZ9_139_3)⟩).trans ((heq259 x ⟨(zx_X16_work_73 hx1 hx2), (zx_X16_work_77 hx1 hx2 hgzZ9_139_2)⟩).trans ((heq253 x ⟨(zx_X16_work_73 hx1 hx2), (zx_X16_work_76 hx1 hx2 hgzZ9_139_1)⟩).trans ((heq247 x ⟨(zx_X16_work_73 hx1 hx2), (zx_X16_work_75 hx1 hx2 hgzZ9_139_0)⟩).trans ((heq148 x (zx_X16_work_74 hx1 hx2)).trans (heq139 x (zx_X16_work_73 hx1 hx2))))))))))))
                            have hb74 : zGr wL340 (m + 212) 60 46 := hGb0.ag (fun x hx1 hx2 => ((heqL340 x ⟨⟨(zx_X16_work_85 hx1 hx2), (zx_X16_work_91 hx1 hx2), (zx_X16_work_92 hx1 hx2), (zx_X16_work_89 hx1 hx2 hgzZ9_139_2), (zx_X16_work_93 hx1 hx2 hgzZ9_139_4), (zx_X16_work_94 hx1 hx2), (zx_X16_work_95 hx1 hx2)⟩, (zx_X16_work_96 hx1 hx2)⟩).trans ((heq293 x (zx_X16_work_90 hx1 hx2 hgzZ9_139_3)).trans ((heq287 x (zx_X16_work_88 hx1 hx2 hgzZ9_139_1)).trans ((heq277 x (zx_X16_work_87 hx1 hx2 hgzZ9_139_0)).trans ((heq265 x ⟨(zx_X16_work_85 hx1 hx2), (zx_X16_work_90 hx1 hx2 hgzZ9_139_3)⟩).trans ((heq259 x ⟨(zx_X16_work_85 hx1 hx2), (zx_X16_work_89 hx1 hx2 hgzZ9_139_2)⟩).trans ((heq253 x ⟨(zx_X16_work_85 hx1 hx2), (zx_X16_work_88 hx1 hx2 hgzZ9_139_1)⟩).trans ((heq247 x ⟨(zx_X16_work_85 hx1 hx2), (zx_X16_work_87 hx1 hx2 hgzZ9_139_0)⟩).trans ((heq148 x (zx_X16_work_86 hx1 hx2)).trans (heq139 x (zx_X16_work_85 hx1 hx2))))))))))))
                            have hb75 : zBd wL340 (m + 149) := hBd0.ag (fun x hx1 hx2 => ((heqL340 x ⟨⟨(zx_X16_work_97 hx1 hx2), (zx_X16_work_103 hx1 hx2), (zx_X16_work_104 hx1 hx2), (zx_X16_work_101 hx1 hx2 hgzZ9_139_2), (zx_X16_work_105 hx1 hx2 hgzZ9_139_4), (zx_X16_work_106 hx1 hx2), (zx_X16_work_107 hx1 hx2)⟩, (zx_X16_work_108 hx1 hx2)⟩).trans ((heq293 x (zx_X16_work_102 hx1 hx2 hgzZ9_139_3)).trans ((heq287 x (zx_X16_work_100 hx1 hx2 hgzZ9_139_1)).trans ((heq277 x (zx_X16_work_99 hx1 hx2 hgzZ9_139_0)).trans ((heq265 x ⟨(zx_X16_work_97 hx1 hx2), (zx_X16_work_102 hx1 hx2 hgzZ9_139_3)⟩).trans ((heq259 x ⟨(zx_X16_work_97 hx1 hx2), (zx_X16_work_101 hx1 hx2 hgzZ9_139_2)⟩).trans ((heq253 x ⟨(zx_X16_work_97 hx1 hx2), (zx_X16_work_100 hx1 hx2 hgzZ9_139_1)⟩).trans ((heq247 x ⟨(zx_X16_work_97 hx1 hx2), (zx_X16_work_99 hx1 hx2 hgzZ9_139_0)⟩).trans ((heq148 x (zx_X16_work_98 hx1 hx2)).trans (heq139 x (zx_X16_work_97 hx1 hx2))))))))))))
                            have hb76 : wL340 (m + 94) = some (.inr (0, 60, .inl ff)) := ((heqL340 (m + 94) ⟨⟨(zx_X16_work_109), (zx_X16_work_115), (zx_X16_work_116), (zx_X16_work_113 hgzZ9_139_2), (zx_X16_work_117 hgzZ9_139_4), (zx_X16_work_118), (zx_X16_work_119)⟩, (zx_X16_work_120)⟩).trans ((heq293 (m + 94) (zx_X16_work_114 hgzZ9_139_3)).trans ((heq287 (m + 94) (zx_X16_work_112 hgzZ9_139_1)).trans ((heq277 (m + 94) (zx_X16_work_111 hgzZ9_139_0)).trans ((heq265 (m + 94) ⟨(zx_X16_work_109), (zx_X16_work_114 hgzZ9_139_3)⟩).trans ((heq259 (m + 94) ⟨(zx_X16_work_109), (zx_X16_work_113 hgzZ9_139_2)⟩).trans ((heq253 (m + 94) ⟨(zx_X16_work_109), (zx_X16_work_112 hgzZ9_139_1)⟩).trans ((heq247 (m + 94) ⟨(zx_X16_work_109), (zx_X16_work_111 hgzZ9_139_0)⟩).trans ((heq148 (m + 94) (zx_X16_work_110)).trans (heq139 (m + 94) (zx_X16_work_109))))))))))).trans hAf0
                            refine zr_retI (by decide +kernel) rfl ?_
                            rw [← hPost]; exact ⟨rfl, _, rfl, (((((((((hsi139.tr hsi148).tr hsi247).tr hsi253).tr hsi259).tr hsi265).tr hsi277).tr hsi287).tr hsi293).tr hsiL340), hoffend, ⟨_, _, hxM, hb68, hb69, (zTi.m hb70), hb71, ⟨_, hb76, hff⟩, hb72, hb73, hGl, hb74, hb75, hI12, hI24, hI29, hI31, hIn⟩, _, rfl, trivial⟩
                          ·
                            have f78 := zneI cc342
                            rw [show (0 : Int32).toInt = 0 from by decide] at f78
                            obtain ⟨PP9, hPP9⟩ := hgB (hi340_0.resolve_left cc342)
                            have hb79 : zTi wL340 (m + 83) kS1 := hp148_0.ag (fun x hx1 hx2 => ((heqL340 x ⟨⟨(zx_X16_work_0 hx1 hx2), (zx_X16_work_43 hx1 hx2), (zx_X16_work_44 hx1 hx2), (zx_X16_work_41 hx1 hx2 hgzZ9_139_2), (zx_X16_work_45 hx1 hx2 hgzZ9_139_4), (zx_X16_work_46 hx1 hx2), (zx_X16_work_47 hx1 hx2)⟩, (zx_X16_work_48 hx1 hx2)⟩).trans ((heq293 x (zx_X16_work_42 hx1 hx2 hgzZ9_139_3)).trans ((heq287 x (zx_X16_work_40 hx1 hx2 hgzZ9_139_1)).trans ((heq277 x (zx_X16_work_39 hx1 hx2 hgzZ9_139_0)).trans ((heq265 x ⟨(zx_X16_work_0 hx1 hx2), (zx_X16_work_42 hx1 hx2 hgzZ9_139_3)⟩).trans ((heq259 x ⟨(zx_X16_work_0 hx1 hx2), (zx_X16_work_41 hx1 hx2 hgzZ9_139_2)⟩).trans ((heq253 x ⟨(zx_X16_work_0 hx1 hx2), (zx_X16_work_40 hx1 hx2 hgzZ9_139_1)⟩).trans (heq247 x ⟨(zx_X16_work_0 hx1 hx2), (zx_X16_work_39 hx1 hx2 hgzZ9_139_0)⟩)))))))))
                            obtain ⟨g3, fn3, fd3, fa3, fb3, fc3, fe3, fr3, fu3, hT3, hAn3, hAd3, hAa3, hAb3, hAc3, hAe3, hAr3, hAu3, hK3⟩ := id hb79
                            obtain ⟨hK30, hKn3, hKd3, hKx3, hKm3, hKl3, hKr3, hKu3, hKk3⟩ := id hK3
                            refine zp_seg (pc' := 346) (lv' := [(0, .ref m), (4, .int to), (9, .ref (m + 596 + 130 * (Z9_139 + 1 + 1).toNatClampNeg)), (10, .ref (m + 596 + 130 * (Z9_139 + 1 + 1 + 1).toNatClampNeg)), (11, .int y11_340)]) (st' := [.ref m]) [(345, .aload_n 0)] (by decide +kernel) rfl ?_
                            refine zr_get (idx := 453) (k := 21) (v := .ref (m + 83)) (by decide +kernel) (by decide +kernel) hxM rfl ?_
                            refine zp_seg (pc' := 353) (lv' := [(0, .ref m), (4, .int to), (9, .ref (m + 596 + 130 * (Z9_139 + 1 + 1).toNatClampNeg)), (10, .ref (m + 596 + 130 * (Z9_139 + 1 + 1 + 1).toNatClampNeg)), (11, .int y11_340)]) (st' := [.ref (m + 596 + 130 * (Z9_139 + 1 + 1 + 1).toNatClampNeg), .ref (m + 596 + 130 * (Z9_139 + 1 + 1).toNatClampNeg), .ref (m + 83)]) [(349, .aload 9), (351, .aload 10)] (by decide +kernel) rfl ?_
                            have hb80 : zB wL340 (m + 596 + 130 * (Z9_139 + 1 + 1 + 1).toNatClampNeg) (zbC (zaC (zf 1))) := hp293_0.ag (fun x hx1 hx2 => (heqL340 x ⟨⟨(zx_X16_work_121 hx1 hx2 hgzZ9_139_3), (zx_X16_work_122 hx1 hx2 hgzZ9_139_3), (zx_X16_work_123 hx1 hx2 hgzZ9_139_3), (zx_X16_work_124 hx1 hx2 hgzZ9_139_2 hgzZ9_139_3), (zx_X16_work_125 hx1 hx2 hgzZ9_139_3 hgzZ9_139_4), (zx_X16_work_126 hx1 hx2 hgzZ9_139_3), (zx_X16_work_127 hx1 hx2 hgzZ9_139_3)⟩, (zx_X16_work_128 hx1 hx2 hgzZ9_139_3)⟩))
                            refine zr_callS (idx := 261) (j := 303) (by decide +kernel) (by decide +kernel) (by decide) (show zMe 303 = some zq_X16_put from rfl) rfl rfl (Nat.le_of_ble_eq_true rfl) rfl rfl (Nat.le_of_ble_eq_true rfl) (Nat.le_of_ble_eq_true rfl) (c_X16_put (w := wL340) (m + 83) (m + 596 + 130 * (Z9_139 + 1 + 1).toNatClampNeg) (m + 596 + 130 * (Z9_139 + 1 + 1 + 1).toNatClampNeg) hT3 hAn3 hAd3 hPP9 hb80 (by first | omega | decide | assumption | exact zr1_1 | exact zr1_0 | fail "num") (by first | omega | decide | assumption | exact zr1_1 | exact zr1_0 | fail "num")) (by omega) (fun v353 w353 hp353 => ?_)
                            obtain ⟨Fn_353, Fd_353, hsi353, heq353, hp353_0, hp353_1, r353, rfl, hrb353, hr353⟩ := hp353
                            have kr353 := zrng r353
                            show zP _ _ _ _ [.int r353] _ _ _ _ _
                            have hpp9 : (zCr Fn_353 ∧ zCr Fd_353) ∧ 0 < zrw (zbT Fd_353) := by
                              rcases hrb353 with e | e
                              · have h9 := hr353.1 e
                                rw [h9.1, h9.2]
                                exact ⟨⟨hKn3, hKd3⟩, hKk3.2.1 (hkk9.1.elim Or.inl (fun e => Or.inr (Or.inl e)))⟩
                              · have h9 := hr353.2.1 e
                                rw [h9.2.2.2]
                                exact ⟨⟨h9.1, h9.2.1⟩, by rw [zf_1, zC1_rw]; decide⟩
                            have hb81 : w353 (m + 83) = some (.inl (13, zTo (m + 83) g3)) := (heq353 (m + 83) (zx_X16_work_129)).trans hT3
                            have hb82 : w353 (m + 83 + 3) = some (.inr (0, 13, .inl fa3)) := (heq353 (m + 83 + 3) (zx_X16_work_130)).trans hAa3
                            have hb83 : w353 (m + 83 + 4) = some (.inr (0, 13, .inl fb3)) := (heq353 (m + 83 + 4) (zx_X16_work_131)).trans hAb3
                            have hb84 : w353 (m + 83 + 5) = some (.inr (0, 13, .inl fc3)) := (heq353 (m + 83 + 5) (zx_X16_work_132)).trans hAc3
                            have hb85 : w353 (m + 83 + 6) = some (.inr (0, 13, .inl fe3)) := (heq353 (m + 83 + 6) (zx_X16_work_133)).trans hAe3
                            have hb86 : w353 (m + 83 + 7) = some (.inr (0, 175, .inl fr3)) := (heq353 (m + 83 + 7) (zx_X16_work_134)).trans hAr3
                            have hb87 : w353 (m + 83 + 8) = some (.inr (0, 361, .inl fu3)) := (heq353 (m + 83 + 8) (zx_X16_work_135)).trans hAu3
                            have hTi9 : zTi w353 (m + 83) 1 := ⟨_, _, _, _, _, _, _, _, _, hb81, hp353_0, hp353_1, hb82, hb83, hb84, hb85, hb86, hb87, ⟨hK30.trans (hop9.2 (by omega)), hpp9.1.1, hpp9.1.2, hKx3, hKm3, hKl3, hKr3, hKu3, zKk_12 (Or.inl rfl) hpp9.2 (fun k9 => absurd k9 (by decide)) (hKk3.2.2.2.1 hkk9.1)⟩⟩
                            refine zp_if (i := .ifCond .eq 12) (c := r353 = 0) (t := 368) (e := 359) (lv' := [(0, .ref m), (4, .int to), (9, .ref (m + 596 + 130 * (Z9_139 + 1 + 1).toNatClampNeg)), (10, .ref (m + 596 + 130 * (Z9_139 + 1 + 1 + 1).toNatClampNeg)), (11, .int y11_340)]) (st' := []) (by decide +kernel) rfl (fun cc356 => ?_) (fun cc356 => ?_)
                            ·
                              have f88 := zeqI cc356
                              rw [show (0 : Int32).toInt = 0 from by decide] at f88
                              refine zp_seg (pc' := 370) (lv' := [(0, .ref m), (4, .int to), (9, .ref (m + 596 + 130 * (Z9_139 + 1 + 1).toNatClampNeg)), (10, .ref (m + 596 + 130 * (Z9_139 + 1 + 1 + 1).toNatClampNeg)), (11, .int y11_340)]) (st' := [.int (Int32.ofInt (-2))]) [(368, .bipush (-2))] (by decide +kernel) rfl ?_
                              have hb89 : w353 m = some (.inl (15, zMo m (zs (zs (zs g 1 x1) 3 x3) 16 Z9_139) r)) := (heq353 m (zx_X16_work_136)).trans hxM
                              have hoffend : ∀ x, (x < m + 0 ∨ m + 0 + 8322 ≤ x) → w353 x = w x := fun x hx => ((heq353 x (zx_X16_work_137 hx)).trans ((heqL340 x ⟨⟨(zx_X16_work_15 hx), (zx_X16_work_21 hx), (zx_X16_work_22 hx), (zx_X16_work_19 hx hgzZ9_139_2), (zx_X16_work_23 hx hgzZ9_139_4), (zx_X16_work_24 hx), (zx_X16_work_25 hx)⟩, (zx_X16_work_26 hx)⟩).trans ((heq293 x (zx_X16_work_20 hx hgzZ9_139_3)).trans ((heq287 x (zx_X16_work_18 hx hgzZ9_139_1)).trans ((heq277 x (zx_X16_work_17 hx hgzZ9_139_0)).trans ((heq265 x ⟨(zx_X16_work_15 hx), (zx_X16_work_20 hx hgzZ9_139_3)⟩).trans ((heq259 x ⟨(zx_X16_work_15 hx), (zx_X16_work_19 hx hgzZ9_139_2)⟩).trans ((heq253 x ⟨(zx_X16_work_15 hx), (zx_X16_work_18 hx hgzZ9_139_1)⟩).trans ((heq247 x ⟨(zx_X16_work_15 hx), (zx_X16_work_17 hx hgzZ9_139_0)⟩).trans ((heq148 x (zx_X16_work_16 hx)).trans (heq139 x (zx_X16_work_15 hx))))))))))))
                              have hb90 := hb51.si (((((hsi265.tr hsi277).tr hsi287).tr hsi293).tr hsiL340).tr hsi353)
                              have hb91 : zSlo w353 (m + 7486) := hSl0.ag (fun x hx1 hx2 => ((heq353 x (zx_X16_work_138 hx1 hx2)).trans ((heqL340 x ⟨⟨(zx_X16_work_27 hx1 hx2), (zx_X16_work_33 hx1 hx2), (zx_X16_work_34 hx1 hx2), (zx_X16_work_31 hx1 hx2 hgzZ9_139_2), (zx_X16_work_35 hx1 hx2 hgzZ9_139_4), (zx_X16_work_36 hx1 hx2), (zx_X16_work_37 hx1 hx2)⟩, (zx_X16_work_38 hx1 hx2)⟩).trans ((heq293 x (zx_X16_work_32 hx1 hx2 hgzZ9_139_3)).trans ((heq287 x (zx_X16_work_30 hx1 hx2 hgzZ9_139_1)).trans ((heq277 x (zx_X16_work_29 hx1 hx2 hgzZ9_139_0)).trans ((heq265 x ⟨(zx_X16_work_27 hx1 hx2), (zx_X16_work_32 hx1 hx2 hgzZ9_139_3)⟩).trans ((heq259 x ⟨(zx_X16_work_27 hx1 hx2), (zx_X16_work_31 hx1 hx2 hgzZ9_139_2)⟩).trans ((heq253 x ⟨(zx_X16_work_27 hx1 hx2), (zx_X16_work_30 hx1 hx2 hgzZ9_139_1)⟩).trans ((heq247 x ⟨(zx_X16_work_27 hx1 hx2), (zx_X16_work_29 hx1 hx2 hgzZ9_139_0)⟩).trans ((heq148 x (zx_X16_work_28 hx1 hx2)).trans (heq139 x (zx_X16_work_27 hx1 hx2)))))))))))))
                              have hb92 : zPil w353 (m + 6316) := hPl0.ag (fun x hx1 hx2 => ((heq353 x (zx_X16_work_139 hx1 hx2)).trans ((heqL340 x ⟨⟨(zx_X16_work_49 hx1 hx2), (zx_X16_work_55 hx1 hx2), (zx_X16_work_56 hx1 hx2), (zx_X16_work_53 hx1 hx2 hgzZ9_139_2), (zx_X16_work_57 hx1 hx2 hgzZ9_139_4), (zx_X16_work_58 hx1 hx2), (zx_X16_work_59 hx1 hx2)⟩, (zx_X16_work_60 hx1 hx2)⟩).trans ((heq293 x (zx_X16_work_54 hx1 hx2 hgzZ9_139_3)).trans ((heq287 x (zx_X16_work_52 hx1 hx2 hgzZ9_139_1)).trans ((heq277 x (zx_X16_work_51 hx1 hx2 hgzZ9_139_0)).trans ((heq265 x ⟨(zx_X16_work_49 hx1 hx2), (zx_X16_work_54 hx1 hx2 hgzZ9_139_3)⟩).trans ((heq259 x ⟨(zx_X16_work_49 hx1 hx2), (zx_X16_work_53 hx1 hx2 hgzZ9_139_2)⟩).trans ((heq253 x ⟨(zx_X16_work_49 hx1 hx2), (zx_X16_work_52 hx1 hx2 hgzZ9_139_1)⟩).trans ((heq247 x ⟨(zx_X16_work_49 hx1 hx2), (zx_X16_work_51 hx1 hx2 hgzZ9_139_0)⟩).trans ((heq148 x (zx_X16_work_50 hx1 hx2)).trans (heq139 x (zx_X16_work_49 hx1 hx2)))))))))))))
                              have hb93 : zBya w353 (m + 92) 4000 := hBo0.ag (fun x hx1 hx2 => ((heq353 x (zx_X16_work_140 hx1 hx2)).trans ((heqL340 x ⟨⟨(zx_X16_work_61 hx1 hx2), (zx_X16_work_67 hx1 hx2), (zx_X16_work_68 hx1 hx2), (zx_X16_work_65 hx1 hx2 hgzZ9_139_2), (zx_X16_work_69 hx1 hx2 hgzZ9_139_4), (zx_X16_work_70 hx1 hx2), (zx_X16_work_71 hx1 hx2)⟩, (zx_X16_work_72 hx1 hx2)⟩).trans ((heq293 x (zx_X16_work_66 hx1 hx2 hgzZ9_139_3)).trans ((heq287 x (zx_X16_work_64 hx1 hx2 hgzZ9_139_1)).trans ((heq277 x (zx_X16_work_63 hx1 hx2 hgzZ9_139_0)).trans ((heq265 x ⟨(zx_X16_work_61 hx1 hx2), (zx_X16_work_66 hx1 hx2 hgzZ9_139_3)⟩).trans ((heq259 x ⟨(zx_X16_work_61 hx1 hx2), (zx_X16_work_65 hx1 hx2 hgzZ9_139_2)⟩).trans ((heq253 x ⟨(zx_X16_work_61 hx1 hx2), (zx_X16_work_64 hx1 hx2 hgzZ9_139_1)⟩).trans ((heq247 x ⟨(zx_X16_work_61 hx1 hx2), (zx_X16_work_63 hx1 hx2 hgzZ9_139_0)⟩).trans ((heq148 x (zx_X16_work_62 hx1 hx2)).trans (heq139 x (zx_X16_work_61 hx1 hx2)))))))))))))
                              have hb94 : zBya w353 (m + 93) 4000 := hBl0.ag (fun x hx1 hx2 => ((heq353 x (zx_X16_work_141 hx1 hx2)).trans ((heqL340 x ⟨⟨(zx_X16_work_73 hx1 hx2), (zx_X16_work_79 hx1 hx2), (zx_X16_work_80 hx1 hx2), (zx_X16_work_77 hx1 hx2 hgzZ9_139_2), (zx_X16_work_81 hx1 hx2 hgzZ9_139_4), (zx_X16_work_82 hx1 hx2), (zx_X16_work_83 hx1 hx2)⟩, (zx_X16_work_84 hx1 hx2)⟩).trans ((heq293 x (zx_X16_work_78 hx1 hx2 hgzZ9_139_3)).trans ((heq287 x (zx_X16_work_76 hx1 hx2 hgzZ9_139_1)).trans ((heq277 x (zx_X16_work_75 hx1 hx2 hgzZ9_139_0)).trans ((heq265 x ⟨(zx_X16_work_73 hx1 hx2), (zx_X16_work_78 hx1 hx2 hgzZ9_139_3)⟩).trans ((heq259 x ⟨(zx_X16_work_73 hx1 hx2), (zx_X16_work_77 hx1 hx2 hgzZ9_139_2)⟩).trans ((heq253 x ⟨(zx_X16_work_73 hx1 hx2), (zx_X16_work_76 hx1 hx2 hgzZ9_139_1)⟩).trans ((heq247 x ⟨(zx_X16_work_73 hx1 hx2), (zx_X16_work_75 hx1 hx2 hgzZ9_139_0)⟩).trans ((heq148 x (zx_X16_work_74 hx1 hx2)).trans (heq139 x (zx_X16_work_73 hx1 hx2)))))))))))))
                              have hb95 : zGr w353 (m + 100) 48 48 := hGl.ag (fun x hx1 hx2 => (heq353 x (zx_X16_work_142 hx1 hx2)))
                              have hb96 : zGr w353 (m + 212) 60 46 := hGb0.ag (fun x hx1 hx2 => ((heq353 x (zx_X16_work_143 hx1 hx2)).trans ((heqL340 x ⟨⟨(zx_X16_work_85 hx1 hx2), (zx_X16_work_91 hx1 hx2), (zx_X16_work_92 hx1 hx2), (zx_X16_work_89 hx1 hx2 hgzZ9_139_2), (zx_X16_work_93 hx1 hx2 hgzZ9_139_4), (zx_X16_work_94 hx1 hx2), (zx_X16_work_95 hx1 hx2)⟩, (zx_X16_work_96 hx1 hx2)⟩).trans ((heq293 x (zx_X16_work_90 hx1 hx2 hgzZ9_139_3)).trans ((heq287 x (zx_X16_work_88 hx1 hx2 hgzZ9_139_1)).trans ((heq277 x (zx_X16_work_87 hx1 hx2 hgzZ9_139_0)).trans ((heq265 x ⟨(zx_X16_work_85 hx1 hx2), (zx_X16_work_90 hx1 hx2 hgzZ9_139_3)⟩).trans ((heq259 x ⟨(zx_X16_work_85 hx1 hx2), (zx_X16_work_89 hx1 hx2 hgzZ9_139_2)⟩).trans ((heq253 x ⟨(zx_X16_work_85 hx1 hx2), (zx_X16_work_88 hx1 hx2 hgzZ9_139_1)⟩).trans ((heq247 x ⟨(zx_X16_work_85 hx1 hx2), (zx_X16_work_87 hx1 hx2 hgzZ9_139_0)⟩).trans ((heq148 x (zx_X16_work_86 hx1 hx2)).trans (heq139 x (zx_X16_work_85 hx1 hx2)))))))))))))
                              have hb97 : zBd w353 (m + 149) := hBd0.ag (fun x hx1 hx2 => ((heq353 x (zx_X16_work_144 hx1 hx2)).trans ((heqL340 x ⟨⟨(zx_X16_work_97 hx1 hx2), (zx_X16_work_103 hx1 hx2), (zx_X16_work_104 hx1 hx2), (zx_X16_work_101 hx1 hx2 hgzZ9_139_2), (zx_X16_work_105 hx1 hx2 hgzZ9_139_4), (zx_X16_work_106 hx1 hx2), (zx_X16_work_107 hx1 hx2)⟩, (zx_X16_work_108 hx1 hx2)⟩).trans ((heq293 x (zx_X16_work_102 hx1 hx2 hgzZ9_139_3)).trans ((heq287 x (zx_X16_work_100 hx1 hx2 hgzZ9_139_1)).trans ((heq277 x (zx_X16_work_99 hx1 hx2 hgzZ9_139_0)).trans ((heq265 x ⟨(zx_X16_work_97 hx1 hx2), (zx_X16_work_102 hx1 hx2 hgzZ9_139_3)⟩).trans ((heq259 x ⟨(zx_X16_work_97 hx1 hx2), (zx_X16_work_101 hx1 hx2 hgzZ9_139_2)⟩).trans ((heq253 x ⟨(zx_X16_work_97 hx1 hx2), (zx_X16_work_100 hx1 hx2 hgzZ9_139_1)⟩).trans ((heq247 x ⟨(zx_X16_work_97 hx1 hx2), (zx_X16_work_99 hx1 hx2 hgzZ9_139_0)⟩).trans ((heq148 x (zx_X16_work_98 hx1 hx2)).trans (heq139 x (zx_X16_work_97 hx1 hx2)))))))))))))
                              have hb98 : w353 (m + 94) = some (.inr (0, 60, .inl ff)) := ((heq353 (m + 94) (zx_X16_work_145)).trans ((heqL340 (m + 94) ⟨⟨(zx_X16_work_109), (zx_X16_work_115), (zx_X16_work_116), (zx_X16_work_113 hgzZ9_139_2), (zx_X16_work_117 hgzZ9_139_4), (zx_X16_work_118), (zx_X16_work_119)⟩, (zx_X16_work_120)⟩).trans ((heq293 (m + 94) (zx_X16_work_114 hgzZ9_139_3)).trans ((heq287 (m + 94) (zx_X16_work_112 hgzZ9_139_1)).trans ((heq277 (m + 94) (zx_X16_work_111 hgzZ9_139_0)).trans ((heq265 (m + 94) ⟨(zx_X16_work_109), (zx_X16_work_114 hgzZ9_139_3)⟩).trans ((heq259 (m + 94) ⟨(zx_X16_work_109), (zx_X16_work_113 hgzZ9_139_2)⟩).trans ((heq253 (m + 94) ⟨(zx_X16_work_109), (zx_X16_work_112 hgzZ9_139_1)⟩).trans ((heq247 (m + 94) ⟨(zx_X16_work_109), (zx_X16_work_111 hgzZ9_139_0)⟩).trans ((heq148 (m + 94) (zx_X16_work_110)).trans (heq139 (m + 94) (zx_X16_work_109)))))))))))).trans hAf0
                              refine zr_retI (by decide +kernel) rfl ?_
                              rw [← hPost]; exact ⟨rfl, _, rfl, ((((((((((hsi139.tr hsi148).tr hsi247).tr hsi253).tr hsi259).tr hsi265).tr hsi277).tr hsi287).tr hsi293).tr hsiL340).tr hsi353), hoffend, ⟨_, _, hb89, hb90, hb91, (zTi.m hTi9), hb92, ⟨_, hb98, hff⟩, hb93, hb94, hb95, hb96, hb97, hI12, hI24, hI29, hI31, hIn⟩, _, rfl, trivial⟩
                            ·
                              have f100 := zneI cc356
                              rw [show (0 : Int32).toInt = 0 from by decide] at f100
                              have hb101 : zSlo w353 (m + 7486) := hSl0.ag (fun x hx1 hx2 => ((heq353 x (zx_X16_work_138 hx1 hx2)).trans ((heqL340 x ⟨⟨(zx_X16_work_27 hx1 hx2), (zx_X16_work_33 hx1 hx2), (zx_X16_work_34 hx1 hx2), (zx_X16_work_31 hx1 hx2 hgzZ9_139_2), (zx_X16_work_35 hx1 hx2 hgzZ9_139_4), (zx_X16_work_36 hx1 hx2), (zx_X16_work_37 hx1 hx2)⟩, (zx_X16_work_38 hx1 hx2)⟩).trans ((heq293 x (zx_X16_work_32 hx1 hx2 hgzZ9_139_3)).trans ((heq287 x (zx_X16_work_30 hx1 hx2 hgzZ9_139_1)).trans ((heq277 x (zx_X16_work_29 hx1 hx2 hgzZ9_139_0)).trans ((heq265 x ⟨(zx_X16_work_27 hx1 hx2), (zx_X16_work_32 hx1 hx2 hgzZ9_139_3)⟩).trans ((heq259 x ⟨(zx_X16_work_27 hx1 hx2), (zx_X16_work_31 hx1 hx2 hgzZ9_139_2)⟩).trans ((heq253 x ⟨(zx_X16_work_27 hx1 hx2), (zx_X16_work_30 hx1 hx2 hgzZ9_139_1)⟩).trans ((heq247 x ⟨(zx_X16_work_27 hx1 hx2), (zx_X16_work_29 hx1 hx2 hgzZ9_139_0)⟩).trans ((heq148 x (zx_X16_work_28 hx1 hx2)).trans (heq139 x (zx_X16_work_27 hx1 hx2)))))))))))))
                              obtain ⟨kV, hkV⟩ := hb101 to.toNatClampNeg (by omega)
                              refine zp_seg (pc' := 362) (lv' := [(0, .ref m), (4, .int to), (9, .ref (m + 596 + 130 * (Z9_139 + 1 + 1).toNatClampNeg)), (10, .ref (m + 596 + 130 * (Z9_139 + 1 + 1 + 1).toNatClampNeg)), (11, .int y11_340)]) (st' := [.int to, .ref m]) [(359, .aload_n 0), (360, .iload 4)] (by decide +kernel) rfl ?_
                              have hb102 : w353 m = some (.inl (15, zMo m (zs (zs (zs g 1 x1) 3 x3) 16 Z9_139) r)) := (heq353 m (zx_X16_work_136)).trans hxM
                              have hb103 := hb51.si (((((hsi265.tr hsi277).tr hsi287).tr hsi293).tr hsiL340).tr hsi353)
                              refine zr_callV (idx := 558) (j := 338) (by decide +kernel) (by decide +kernel) (show zMe 338 = some zq_X16_keep from rfl) rfl rfl (Nat.le_of_ble_eq_true rfl) rfl rfl hb102 (Nat.le_of_ble_eq_true rfl) (Nat.le_of_ble_eq_true rfl) (c_X16_keep (w := w353) m to hb102 hb103 hTi9 hkV (by first | omega | decide | assumption | exact zr1_1 | exact zr1_0 | fail "num")) (by omega) (fun v362 w362 hp362 => ?_)
                              obtain ⟨hsi362, heq362, hp362_0, r362, rfl, hr362⟩ := hp362
                              have kr362 := zrng r362
                              show zP _ _ _ _ [.int r362] _ _ _ _ _
                              refine zp_seg (pc' := 370) (lv' := [(0, .ref m), (4, .int to), (9, .ref (m + 596 + 130 * (Z9_139 + 1 + 1).toNatClampNeg)), (10, .ref (m + 596 + 130 * (Z9_139 + 1 + 1 + 1).toNatClampNeg)), (11, .int y11_340)]) (st' := [.int r362]) [(365, .goto 5)] (by decide +kernel) rfl ?_
                              have hSl370 := hSl0.up (w' := w362) to.toNatClampNeg hp362_0 (fun x h1 h2 h3 => ((heq362 x (by omega)).trans ((heq353 x (by omega)).trans ((heqL340 x (by omega)).trans ((heq293 x (by omega)).trans ((heq287 x (by omega)).trans ((heq277 x (by omega)).trans ((heq265 x (by omega)).trans ((heq259 x (by omega)).trans ((heq253 x (by omega)).trans ((heq247 x (by omega)).trans ((heq148 x (by omega)).trans (heq139 x (by omega))))))))))))))
                              have hb104 : w362 m = some (.inl (15, zMo m (zs (zs (zs g 1 x1) 3 x3) 16 Z9_139) r)) := (heq362 m (by omega)).trans hb102
                              have hoffend : ∀ x, (x < m + 0 ∨ m + 0 + 8322 ≤ x) → w362 x = w x := fun x hx => ((heq362 x (by omega)).trans ((heq353 x (zx_X16_work_137 hx)).trans ((heqL340 x ⟨⟨(zx_X16_work_15 hx), (zx_X16_work_21 hx), (zx_X16_work_22 hx), (zx_X16_work_19 hx hgzZ9_139_2), (zx_X16_work_23 hx hgzZ9_139_4), (zx_X16_work_24 hx), (zx_X16_work_25 hx)⟩, (zx_X16_work_26 hx)⟩).trans ((heq293 x (zx_X16_work_20 hx hgzZ9_139_3)).trans ((heq287 x (zx_X16_work_18 hx hgzZ9_139_1)).trans ((heq277 x (zx_X16_work_17 hx hgzZ9_139_0)).trans ((heq265 x ⟨(zx_X16_work_15 hx), (zx_X16_work_20 hx hgzZ9_139_3)⟩).trans ((heq259 x ⟨(zx_X16_work_15 hx), (zx_X16_work_19 hx hgzZ9_139_2)⟩).trans ((heq253 x ⟨(zx_X16_work_15 hx), (zx_X16_work_18 hx hgzZ9_139_1)⟩).trans ((heq247 x ⟨(zx_X16_work_15 hx), (zx_X16_work_17 hx hgzZ9_139_0)⟩).trans ((heq148 x (zx_X16_work_16 hx)).trans (heq139 x (zx_X16_work_15 hx)))))))))))))
                              have hb105 := hb103.si hsi362
                              have hb106 : zTi w362 (m + 83) 1 := hTi9.ag (fun x hx1 hx2 => (heq362 x (by omega)))
                              have hb107 : zPil w362 (m + 6316) := hPl0.ag (fun x hx1 hx2 => ((heq362 x (by omega)).trans ((heq353 x (zx_X16_work_139 hx1 hx2)).trans ((heqL340 x ⟨⟨(zx_X16_work_49 hx1 hx2), (zx_X16_work_55 hx1 hx2), (zx_X16_work_56 hx1 hx2), (zx_X16_work_53 hx1 hx2 hgzZ9_139_2), (zx_X16_work_57 hx1 hx2 hgzZ9_139_4), (zx_X16_work_58 hx1 hx2), (zx_X16_work_59 hx1 hx2)⟩, (zx_X16_work_60 hx1 hx2)⟩).trans ((heq293 x (zx_X16_work_54 hx1 hx2 hgzZ9_139_3)).trans ((heq287 x (zx_X16_work_52 hx1 hx2 hgzZ9_139_1)).trans ((heq277 x (zx_X16_work_51 hx1 hx2 hgzZ9_139_0)).trans ((heq265 x ⟨(zx_X16_work_49 hx1 hx2), (zx_X16_work_54 hx1 hx2 hgzZ9_139_3)⟩).trans ((heq259 x ⟨(zx_X16_work_49 hx1 hx2), (zx_X16_work_53 hx1 hx2 hgzZ9_139_2)⟩).trans ((heq253 x ⟨(zx_X16_work_49 hx1 hx2), (zx_X16_work_52 hx1 hx2 hgzZ9_139_1)⟩).trans ((heq247 x ⟨(zx_X16_work_49 hx1 hx2), (zx_X16_work_51 hx1 hx2 hgzZ9_139_0)⟩).trans ((heq148 x (zx_X16_work_50 hx1 hx2)).trans (heq139 x (zx_X16_work_49 hx1 hx2))))))))))))))
                              have hb108 : zBya w362 (m + 92) 4000 := hBo0.ag (fun x hx1 hx2 => ((heq362 x (by omega)).trans ((heq353 x (zx_X16_work_140 hx1 hx2)).trans ((heqL340 x ⟨⟨(zx_X16_work_61 hx1 hx2), (zx_X16_work_67 hx1 hx2), (zx_X16_work_68 hx1 hx2), (zx_X16_work_65 hx1 hx2 hgzZ9_139_2), (zx_X16_work_69 hx1 hx2 hgzZ9_139_4), (zx_X16_work_70 hx1 hx2), (zx_X16_work_71 hx1 hx2)⟩, (zx_X16_work_72 hx1 hx2)⟩).trans ((heq293 x (zx_X16_work_66 hx1 hx2 hgzZ9_139_3)).trans ((heq287 x (zx_X16_work_64 hx1 hx2 hgzZ9_139_1)).trans ((heq277 x (zx_X16_work_63 hx1 hx2 hgzZ9_139_0)).trans ((heq265 x ⟨(zx_X16_work_61 hx1 hx2), (zx_X16_work_66 hx1 hx2 hgzZ9_139_3)⟩).trans ((heq259 x ⟨(zx_X16_work_61 hx1 hx2), (zx_X16_work_65 hx1 hx2 hgzZ9_139_2)⟩).trans ((heq253 x ⟨(zx_X16_work_61 hx1 hx2), (zx_X16_work_64 hx1 hx2 hgzZ9_139_1)⟩).trans ((heq247 x ⟨(zx_X16_work_61 hx1 hx2), (zx_X16_work_63 hx1 hx2 hgzZ9_139_0)⟩).trans ((heq148 x (zx_X16_work_62 hx1 hx2)).trans (heq139 x (zx_X16_work_61 hx1 hx2))))))))))))))
                              have hb109 : zBya w362 (m + 93) 4000 := hBl0.ag (fun x hx1 hx2 => ((heq362 x (by omega)).trans ((heq353 x (zx_X16_work_141 hx1 hx2)).trans ((heqL340 x ⟨⟨(zx_X16_work_73 hx1 hx2), (zx_X16_work_79 hx1 hx2), (zx_X16_work_80 hx1 hx2), (zx_X16_work_77 hx1 hx2 hgzZ9_139_2), (zx_X16_work_81 hx1 hx2 hgzZ9_139_4), (zx_X16_work_82 hx1 hx2), (zx_X16_work_83 hx1 hx2)⟩, (zx_X16_work_84 hx1 hx2)⟩).trans ((heq293 x (zx_X16_work_78 hx1 hx2 hgzZ9_139_3)).trans ((heq287 x (zx_X16_work_76 hx1 hx2 hgzZ9_139_1)).trans ((heq277 x (zx_X16_work_75 hx1 hx2 hgzZ9_139_0)).trans ((heq265 x ⟨(zx_X16_work_73 hx1 hx2), (zx_X16_work_78 hx1 hx2 hgzZ9_139_3)⟩).trans ((heq259 x ⟨(zx_X16_work_73 hx1 hx2), (zx_X16_work_77 hx1 hx2 hgzZ9_139_2)⟩).trans ((heq253 x ⟨(zx_X16_work_73 hx1 hx2), (zx_X16_work_76 hx1 hx2 hgzZ9_139_1)⟩).trans ((heq247 x ⟨(zx_X16_work_73 hx1 hx2), (zx_X16_work_75 hx1 hx2 hgzZ9_139_0)⟩).trans ((heq148 x (zx_X16_work_74 hx1 hx2)).trans (heq139 x (zx_X16_work_73 hx1 hx2))))))))))))))
                              have hb110 : zGr w362 (m + 100) 48 48 := hGl.ag (fun x hx1 hx2 => ((heq362 x (by omega)).trans (heq353 x (zx_X16_work_142 hx1 hx2))))
                              have hb111 : zGr w362 (m + 212) 60 46 := hGb0.ag (fun x hx1 hx2 => ((heq362 x (by omega)).trans ((heq353 x (zx_X16_work_143 hx1 hx2)).trans ((heqL340 x ⟨⟨(zx_X16_work_85 hx1 hx2), (zx_X16_work_91 hx1 hx2), (zx_X16_work_92 hx1 hx2), (zx_X16_work_89 hx1 hx2 hgzZ9_139_2), (zx_X16_work_93 hx1 hx2 hgzZ9_139_4), (zx_X16_work_94 hx1 hx2), (zx_X16_work_95 hx1 hx2)⟩, (zx_X16_work_96 hx1 hx2)⟩).trans ((heq293 x (zx_X16_work_90 hx1 hx2 hgzZ9_139_3)).trans ((heq287 x (zx_X16_work_88 hx1 hx2 hgzZ9_139_1)).trans ((heq277 x (zx_X16_work_87 hx1 hx2 hgzZ9_139_0)).trans ((heq265 x ⟨(zx_X16_work_85 hx1 hx2), (zx_X16_work_90 hx1 hx2 hgzZ9_139_3)⟩).trans ((heq259 x ⟨(zx_X16_work_85 hx1 hx2), (zx_X16_work_89 hx1 hx2 hgzZ9_139_2)⟩).trans ((heq253 x ⟨(zx_X16_work_85 hx1 hx2), (zx_X16_work_88 hx1 hx2 hgzZ9_139_1)⟩).trans ((heq247 x ⟨(zx_X16_work_85 hx1 hx2), (zx_X16_work_87 hx1 hx2 hgzZ9_139_0)⟩).trans ((heq148 x (zx_X16_work_86 hx1 hx2)).trans (heq139 x (zx_X16_work_85 hx1 hx2))))))))))))))
                              have hb112 : zBd w362 (m + 149) := hBd0.ag (fun x hx1 hx2 => ((heq362 x (by omega)).trans ((heq353 x (zx_X16_work_144 hx1 hx2)).trans ((heqL340 x ⟨⟨(zx_X16_work_97 hx1 hx2), (zx_X16_work_103 hx1 hx2), (zx_X16_work_104 hx1 hx2), (zx_X16_work_101 hx1 hx2 hgzZ9_139_2), (zx_X16_work_105 hx1 hx2 hgzZ9_139_4), (zx_X16_work_106 hx1 hx2), (zx_X16_work_107 hx1 hx2)⟩, (zx_X16_work_108 hx1 hx2)⟩).trans ((heq293 x (zx_X16_work_102 hx1 hx2 hgzZ9_139_3)).trans ((heq287 x (zx_X16_work_100 hx1 hx2 hgzZ9_139_1)).trans ((heq277 x (zx_X16_work_99 hx1 hx2 hgzZ9_139_0)).trans ((heq265 x ⟨(zx_X16_work_97 hx1 hx2), (zx_X16_work_102 hx1 hx2 hgzZ9_139_3)⟩).trans ((heq259 x ⟨(zx_X16_work_97 hx1 hx2), (zx_X16_work_101 hx1 hx2 hgzZ9_139_2)⟩).trans ((heq253 x ⟨(zx_X16_work_97 hx1 hx2), (zx_X16_work_100 hx1 hx2 hgzZ9_139_1)⟩).trans ((heq247 x ⟨(zx_X16_work_97 hx1 hx2), (zx_X16_work_99 hx1 hx2 hgzZ9_139_0)⟩).trans ((heq148 x (zx_X16_work_98 hx1 hx2)).trans (heq139 x (zx_X16_work_97 hx1 hx2))))))))))))))
                              have hb113 : w362 (m + 94) = some (.inr (0, 60, .inl ff)) := ((heq362 (m + 94) (by omega)).trans ((heq353 (m + 94) (zx_X16_work_145)).trans ((heqL340 (m + 94) ⟨⟨(zx_X16_work_109), (zx_X16_work_115), (zx_X16_work_116), (zx_X16_work_113 hgzZ9_139_2), (zx_X16_work_117 hgzZ9_139_4), (zx_X16_work_118), (zx_X16_work_119)⟩, (zx_X16_work_120)⟩).trans ((heq293 (m + 94) (zx_X16_work_114 hgzZ9_139_3)).trans ((heq287 (m + 94) (zx_X16_work_112 hgzZ9_139_1)).trans ((heq277 (m + 94) (zx_X16_work_111 hgzZ9_139_0)).trans ((heq265 (m + 94) ⟨(zx_X16_work_109), (zx_X16_work_114 hgzZ9_139_3)⟩).trans ((heq259 (m + 94) ⟨(zx_X16_work_109), (zx_X16_work_113 hgzZ9_139_2)⟩).trans ((heq253 (m + 94) ⟨(zx_X16_work_109), (zx_X16_work_112 hgzZ9_139_1)⟩).trans ((heq247 (m + 94) ⟨(zx_X16_work_109), (zx_X16_work_111 hgzZ9_139_0)⟩).trans ((heq148 (m + 94) (zx_X16_work_110)).trans (heq139 (m + 94) (zx_X16_work_109))))))))))))).trans hAf0
                              refine zr_retI (by decide +kernel) rfl ?_
                              rw [← hPost]; exact ⟨rfl, _, rfl, (((((((((((hsi139.tr hsi148).tr hsi247).tr hsi253).tr hsi259).tr hsi265).tr hsi277).tr hsi287).tr hsi293).tr hsiL340).tr hsi353).tr hsi362), hoffend, ⟨_, _, hb104, hb105, hSl370, (zTi.m hb106), hb107, ⟨_, hb113, hff⟩, hb108, hb109, hb110, hb111, hb112, hI12, hI24, hI29, hI31, hIn⟩, _, rfl, trivial⟩
                        refine zp_if (i := .if_icmp .ne 16) (c := ¬ op = 4) (t := 317) (e := 304) (lv' := [(11, .int 1), (10, .ref (m + 596 + 130 * (Z9_139 + 1 + 1 + 1).toNatClampNeg)), (9, .ref (m + 596 + 130 * (Z9_139 + 1 + 1).toNatClampNeg)), (8, .ref (m + 596 + 130 * (Z9_139 + 1).toNatClampNeg)), (7, .ref (m + 596 + 130 * Z9_139.toNatClampNeg)), (0, .ref m), (1, .int op), (4, .int to), (5, .ref (m + 7486 + 9 * s9.toNatClampNeg)), (6, .ref (m + 7486 + 9 * s8.toNatClampNeg))]) (st' := []) (by decide +kernel) rfl (fun cc301 => ?_) (fun cc301 => ?_)
                        ·
                          have f114 := zneI cc301
                          rw [show (4 : Int32).toInt = 4 from by decide] at f114
                          have hb115 := hb51.si (((hsi265.tr hsi277).tr hsi287).tr hsi293)
                          obtain ⟨fy5, hy5⟩ := (hb115).ysA 0 (by decide)
                          have hy55 : w293 (m + 5) = some (.inr (0, 700, .inl fy5)) := hy5
                          refine zp_seg (pc' := 327) (lv' := [(11, .int 1), (10, .ref (m + 596 + 130 * (Z9_139 + 1 + 1 + 1).toNatClampNeg)), (9, .ref (m + 596 + 130 * (Z9_139 + 1 + 1).toNatClampNeg)), (8, .ref (m + 596 + 130 * (Z9_139 + 1).toNatClampNeg)), (7, .ref (m + 596 + 130 * Z9_139.toNatClampNeg)), (0, .ref m), (1, .int op), (4, .int to), (5, .ref (m + 7486 + 9 * s9.toNatClampNeg)), (6, .ref (m + 7486 + 9 * s8.toNatClampNeg))]) (st' := [.int 6, .int op, .ref (m + 596 + 130 * (Z9_139 + 1).toNatClampNeg), .ref (m + 596 + 130 * Z9_139.toNatClampNeg), .ref (m + 596 + 130 * (Z9_139 + 1 + 1).toNatClampNeg), .ref m]) [(317, .aload_n 0), (318, .aload 9), (320, .aload 7), (322, .aload 8), (324, .iload_n 1), (325, .bipush 6)] (by decide +kernel) rfl ?_
                          refine zp_if (i := .if_icmp .ne 7) (c := ¬ op = 6) (t := 334) (e := 330) (lv' := [(11, .int 1), (10, .ref (m + 596 + 130 * (Z9_139 + 1 + 1 + 1).toNatClampNeg)), (9, .ref (m + 596 + 130 * (Z9_139 + 1 + 1).toNatClampNeg)), (8, .ref (m + 596 + 130 * (Z9_139 + 1).toNatClampNeg)), (7, .ref (m + 596 + 130 * Z9_139.toNatClampNeg)), (0, .ref m), (1, .int op), (4, .int to), (5, .ref (m + 7486 + 9 * s9.toNatClampNeg)), (6, .ref (m + 7486 + 9 * s8.toNatClampNeg))]) (st' := [.ref (m + 596 + 130 * (Z9_139 + 1).toNatClampNeg), .ref (m + 596 + 130 * Z9_139.toNatClampNeg), .ref (m + 596 + 130 * (Z9_139 + 1 + 1).toNatClampNeg), .ref m]) (by decide +kernel) rfl (fun cc327 => ?_) (fun cc327 => ?_)
                          ·
                            have f116 := zneI cc327
                            rw [show (6 : Int32).toInt = 6 from by decide] at f116
                            refine zp_seg (pc' := 335) (lv' := [(11, .int 1), (10, .ref (m + 596 + 130 * (Z9_139 + 1 + 1 + 1).toNatClampNeg)), (9, .ref (m + 596 + 130 * (Z9_139 + 1 + 1).toNatClampNeg)), (8, .ref (m + 596 + 130 * (Z9_139 + 1).toNatClampNeg)), (7, .ref (m + 596 + 130 * Z9_139.toNatClampNeg)), (0, .ref m), (1, .int op), (4, .int to), (5, .ref (m + 7486 + 9 * s9.toNatClampNeg)), (6, .ref (m + 7486 + 9 * s8.toNatClampNeg))]) (st' := [.int 0, .ref (m + 596 + 130 * (Z9_139 + 1).toNatClampNeg), .ref (m + 596 + 130 * Z9_139.toNatClampNeg), .ref (m + 596 + 130 * (Z9_139 + 1 + 1).toNatClampNeg), .ref m]) [(334, .iconst 0)] (by decide +kernel) rfl ?_
                            have hb117 : zGr w293 (m + 100) 48 48 := hGa0.ag (fun x hx1 hx2 => ((heq293 x (zx_X16_work_151 hx1 hx2 hgzZ9_139_3)).trans ((heq287 x (zx_X16_work_149 hx1 hx2 hgzZ9_139_1)).trans ((heq277 x (zx_X16_work_148 hx1 hx2 hgzZ9_139_0)).trans ((heq265 x ⟨(zx_X16_work_146 hx1 hx2), (zx_X16_work_151 hx1 hx2 hgzZ9_139_3)⟩).trans ((heq259 x ⟨(zx_X16_work_146 hx1 hx2), (zx_X16_work_150 hx1 hx2 hgzZ9_139_2)⟩).trans ((heq253 x ⟨(zx_X16_work_146 hx1 hx2), (zx_X16_work_149 hx1 hx2 hgzZ9_139_1)⟩).trans ((heq247 x ⟨(zx_X16_work_146 hx1 hx2), (zx_X16_work_148 hx1 hx2 hgzZ9_139_0)⟩).trans ((heq148 x (zx_X16_work_147 hx1 hx2)).trans (heq139 x (zx_X16_work_146 hx1 hx2)))))))))))
                            have hb118 : zB w293 (m + 596 + 130 * (Z9_139 + 1 + 1).toNatClampNeg) zbZ := hp259_1.ag (fun x hx1 hx2 => ((heq293 x (zx_X16_work_153 hx1 hx2 hgzZ9_139_2 hgzZ9_139_3)).trans ((heq287 x (zx_X16_work_155 hx1 hx2 hgzZ9_139_1 hgzZ9_139_2)).trans ((heq277 x (zx_X16_work_154 hx1 hx2 hgzZ9_139_0 hgzZ9_139_2)).trans (heq265 x ⟨(zx_X16_work_152 hx1 hx2 hgzZ9_139_2), (zx_X16_work_153 hx1 hx2 hgzZ9_139_2 hgzZ9_139_3)⟩)))))
                            have ho335_to := zB.o hb118
                            have hb119 : zB w293 (m + 596 + 130 * Z9_139.toNatClampNeg) (zbT fn1) := hp277_0.ag (fun x hx1 hx2 => ((heq293 x (zx_X16_work_5 hx1 hx2 hgzZ9_139_0 hgzZ9_139_3)).trans (heq287 x (zx_X16_work_3 hx1 hx2 hgzZ9_139_0 hgzZ9_139_1))))
                            have hb120 : zB w293 (m + 596 + 130 * (Z9_139 + 1).toNatClampNeg) (zbT fn2) := hp287_0.ag (fun x hx1 hx2 => (heq293 x (zx_X16_work_8 hx1 hx2 hgzZ9_139_1 hgzZ9_139_3)))
                            obtain ⟨f121, hb122⟩ := hb115.ia_3
                            refine zr_callV (idx := 640) (j := 366) (by decide +kernel) (by decide +kernel) (show zMe 366 = some zq_X16_resultant from rfl) rfl rfl (Nat.le_of_ble_eq_true rfl) rfl rfl hb66 (Nat.le_of_ble_eq_true rfl) (Nat.le_of_ble_eq_true rfl) (c_X16_resultant (w := w293) (g1 := Z9_139) (g3 := (Z9_139 + 1 + 1 + 1 + 1)) m (m + 596 + 130 * (Z9_139 + 1 + 1).toNatClampNeg) (m + 596 + 130 * Z9_139.toNatClampNeg) (m + 596 + 130 * (Z9_139 + 1).toNatClampNeg) 0 hb66 hb115 hb117 ho335_to hb119 hb120 hb122 hy55 (by first | omega | decide | assumption | exact zr1_1 | exact zr1_0 | fail "num") (by first | omega | decide | assumption | exact zr1_1 | exact zr1_0 | fail "num") (by first | omega | decide | assumption | exact zr1_1 | exact zr1_0 | fail "num") (by first | omega | decide | assumption | exact zr1_1 | exact zr1_0 | fail "num") (by first | omega | decide | assumption | exact zr1_1 | exact zr1_0 | fail "num") (by first | omega | decide | assumption | exact zr1_1 | exact zr1_0 | fail "num") (by first | omega | decide | assumption | exact zr1_1 | exact zr1_0 | fail "num") (by first | omega | decide | assumption | exact zr1_1 | exact zr1_0 | fail "num") (by first | omega | decide | assumption | exact zr1_1 | exact zr1_0 | fail "num") rfl rfl) (by omega) (fun v335 w335 hp335 => ?_)
                            obtain ⟨X9_335, Y9_335, hsi335, heq335, hp335_0, hp335_1, hp335_2, r335, rfl, hrb335, hr335⟩ := hp335
                            have hM335 : w335 m = some (.inl (15, zMo m (zs (zs (zs g 1 X9_335) 3 Y9_335) 16 Z9_139) r)) := hp335_0
                            have kr335 := zrng r335
                            show zP _ _ _ _ [.int r335] _ _ _ _ _
                            refine zp_seg (pc' := 340) (lv' := [(11, .int r335), (10, .ref (m + 596 + 130 * (Z9_139 + 1 + 1 + 1).toNatClampNeg)), (9, .ref (m + 596 + 130 * (Z9_139 + 1 + 1).toNatClampNeg)), (8, .ref (m + 596 + 130 * (Z9_139 + 1).toNatClampNeg)), (7, .ref (m + 596 + 130 * Z9_139.toNatClampNeg)), (0, .ref m), (1, .int op), (4, .int to), (5, .ref (m + 7486 + 9 * s9.toNatClampNeg)), (6, .ref (m + 7486 + 9 * s8.toNatClampNeg))]) (st' := []) [(338, .istore 11)] (by decide +kernel) rfl ?_
                            exact (hJ340 w335 r335 (X9_335) (Y9_335) hsi335 (fun x hx => (heq335 x ⟨hx.1.1, hx.1.2.1, hx.1.2.2.2.1, (zx_X16_work_156 hx.1.2.2.1 hgzZ9_139_0), hx.1.2.2.2.2.1, hx.1.2.2.2.2.2.1, hx.1.2.2.2.2.2.2⟩)) (by first | assumption | omega | decide) (by
                                  exact hM335) hp335_1 (by
                                  first | exact hr335 | exact fun _ => ⟨_, none9⟩)).more (zfa1 rfl (zfa1 rfl (zfa1 rfl (zfa1 rfl (zfa1 rfl (zfa0))))))
                          ·
                            replace cc327 := Classical.not_not.mp cc327
                            have f123 := zeqI cc327
                            rw [show (6 : Int32).toInt = 6 from by decide] at f123
                            refine zp_seg (pc' := 335) (lv' := [(11, .int 1), (10, .ref (m + 596 + 130 * (Z9_139 + 1 + 1 + 1).toNatClampNeg)), (9, .ref (m + 596 + 130 * (Z9_139 + 1 + 1).toNatClampNeg)), (8, .ref (m + 596 + 130 * (Z9_139 + 1).toNatClampNeg)), (7, .ref (m + 596 + 130 * Z9_139.toNatClampNeg)), (0, .ref m), (1, .int op), (4, .int to), (5, .ref (m + 7486 + 9 * s9.toNatClampNeg)), (6, .ref (m + 7486 + 9 * s8.toNatClampNeg))]) (st' := [.int 1, .ref (m + 596 + 130 * (Z9_139 + 1).toNatClampNeg), .ref (m + 596 + 130 * Z9_139.toNatClampNeg), .ref (m + 596 + 130 * (Z9_139 + 1 + 1).toNatClampNeg), .ref m]) [(330, .iconst 1), (331, .goto 4)] (by decide +kernel) rfl ?_
                            have hb124 : zGr w293 (m + 100) 48 48 := hGa0.ag (fun x hx1 hx2 => ((heq293 x (zx_X16_work_151 hx1 hx2 hgzZ9_139_3)).trans ((heq287 x (zx_X16_work_149 hx1 hx2 hgzZ9_139_1)).trans ((heq277 x (zx_X16_work_148 hx1 hx2 hgzZ9_139_0)).trans ((heq265 x ⟨(zx_X16_work_146 hx1 hx2), (zx_X16_work_151 hx1 hx2 hgzZ9_139_3)⟩).trans ((heq259 x ⟨(zx_X16_work_146 hx1 hx2), (zx_X16_work_150 hx1 hx2 hgzZ9_139_2)⟩).trans ((heq253 x ⟨(zx_X16_work_146 hx1 hx2), (zx_X16_work_149 hx1 hx2 hgzZ9_139_1)⟩).trans ((heq247 x ⟨(zx_X16_work_146 hx1 hx2), (zx_X16_work_148 hx1 hx2 hgzZ9_139_0)⟩).trans ((heq148 x (zx_X16_work_147 hx1 hx2)).trans (heq139 x (zx_X16_work_146 hx1 hx2)))))))))))
                            have hb125 : zB w293 (m + 596 + 130 * (Z9_139 + 1 + 1).toNatClampNeg) zbZ := hp259_1.ag (fun x hx1 hx2 => ((heq293 x (zx_X16_work_153 hx1 hx2 hgzZ9_139_2 hgzZ9_139_3)).trans ((heq287 x (zx_X16_work_155 hx1 hx2 hgzZ9_139_1 hgzZ9_139_2)).trans ((heq277 x (zx_X16_work_154 hx1 hx2 hgzZ9_139_0 hgzZ9_139_2)).trans (heq265 x ⟨(zx_X16_work_152 hx1 hx2 hgzZ9_139_2), (zx_X16_work_153 hx1 hx2 hgzZ9_139_2 hgzZ9_139_3)⟩)))))
                            have ho335_to := zB.o hb125
                            have hb126 : zB w293 (m + 596 + 130 * Z9_139.toNatClampNeg) (zbT fn1) := hp277_0.ag (fun x hx1 hx2 => ((heq293 x (zx_X16_work_5 hx1 hx2 hgzZ9_139_0 hgzZ9_139_3)).trans (heq287 x (zx_X16_work_3 hx1 hx2 hgzZ9_139_0 hgzZ9_139_1))))
                            have hb127 : zB w293 (m + 596 + 130 * (Z9_139 + 1).toNatClampNeg) (zbT fn2) := hp287_0.ag (fun x hx1 hx2 => (heq293 x (zx_X16_work_8 hx1 hx2 hgzZ9_139_1 hgzZ9_139_3)))
                            obtain ⟨f128, hb129⟩ := hb115.ia_3
                            refine zr_callV (idx := 640) (j := 366) (by decide +kernel) (by decide +kernel) (show zMe 366 = some zq_X16_resultant from rfl) rfl rfl (Nat.le_of_ble_eq_true rfl) rfl rfl hb66 (Nat.le_of_ble_eq_true rfl) (Nat.le_of_ble_eq_true rfl) (c_X16_resultant (w := w293) (g1 := Z9_139) (g3 := (Z9_139 + 1 + 1 + 1 + 1)) m (m + 596 + 130 * (Z9_139 + 1 + 1).toNatClampNeg) (m + 596 + 130 * Z9_139.toNatClampNeg) (m + 596 + 130 * (Z9_139 + 1).toNatClampNeg) 1 hb66 hb115 hb124 ho335_to hb126 hb127 hb129 hy55 (by first | omega | decide | assumption | exact zr1_1 | exact zr1_0 | fail "num") (by first | omega | decide | assumption | exact zr1_1 | exact zr1_0 | fail "num") (by first | omega | decide | assumption | exact zr1_1 | exact zr1_0 | fail "num") (by first | omega | decide | assumption | exact zr1_1 | exact zr1_0 | fail "num") (by first | omega | decide | assumption | exact zr1_1 | exact zr1_0 | fail "num") (by first | omega | decide | assumption | exact zr1_1 | exact zr1_0 | fail "num") (by first | omega | decide | assumption | exact zr1_1 | exact zr1_0 | fail "num") (by first | omega | decide | assumption | exact zr1_1 | exact zr1_0 | fail "num") (by first | omega | decide | assumption | exact zr1_1 | exact zr1_0 | fail "num") rfl rfl) (by omega) (fun v335 w335 hp335 => ?_)
                            obtain ⟨X9_335, Y9_335, hsi335, heq335, hp335_0, hp335_1, hp335_2, r335, rfl, hrb335, hr335⟩ := hp335
                            have hM335 : w335 m = some (.inl (15, zMo m (zs (zs (zs g 1 X9_335) 3 Y9_335) 16 Z9_139) r)) := hp335_0
                            have kr335 := zrng r335
                            show zP _ _ _ _ [.int r335] _ _ _ _ _
                            refine zp_seg (pc' := 340) (lv' := [(11, .int r335), (10, .ref (m + 596 + 130 * (Z9_139 + 1 + 1 + 1).toNatClampNeg)), (9, .ref (m + 596 + 130 * (Z9_139 + 1 + 1).toNatClampNeg)), (8, .ref (m + 596 + 130 * (Z9_139 + 1).toNatClampNeg)), (7, .ref (m + 596 + 130 * Z9_139.toNatClampNeg)), (0, .ref m), (1, .int op), (4, .int to), (5, .ref (m + 7486 + 9 * s9.toNatClampNeg)), (6, .ref (m + 7486 + 9 * s8.toNatClampNeg))]) (st' := []) [(338, .istore 11)] (by decide +kernel) rfl ?_
                            exact (hJ340 w335 r335 (X9_335) (Y9_335) hsi335 (fun x hx => (heq335 x ⟨hx.1.1, hx.1.2.1, hx.1.2.2.2.1, (zx_X16_work_156 hx.1.2.2.1 hgzZ9_139_0), hx.1.2.2.2.2.1, hx.1.2.2.2.2.2.1, hx.1.2.2.2.2.2.2⟩)) (by first | assumption | omega | decide) (by
                                  exact hM335) hp335_1 (by
                                  first | exact hr335 | exact fun _ => ⟨_, none9⟩)).more (zfa1 rfl (zfa1 rfl (zfa1 rfl (zfa1 rfl (zfa1 rfl (zfa0))))))
                        ·
                          replace cc301 := Classical.not_not.mp cc301
                          have f130 := zeqI cc301
                          rw [show (4 : Int32).toInt = 4 from by decide] at f130
                          refine zp_seg (pc' := 311) (lv' := [(11, .int 1), (10, .ref (m + 596 + 130 * (Z9_139 + 1 + 1 + 1).toNatClampNeg)), (9, .ref (m + 596 + 130 * (Z9_139 + 1 + 1).toNatClampNeg)), (8, .ref (m + 596 + 130 * (Z9_139 + 1).toNatClampNeg)), (7, .ref (m + 596 + 130 * Z9_139.toNatClampNeg)), (0, .ref m), (1, .int op), (4, .int to), (5, .ref (m + 7486 + 9 * s9.toNatClampNeg)), (6, .ref (m + 7486 + 9 * s8.toNatClampNeg))]) (st' := [.ref (m + 596 + 130 * (Z9_139 + 1).toNatClampNeg), .ref (m + 596 + 130 * Z9_139.toNatClampNeg), .ref (m + 596 + 130 * (Z9_139 + 1 + 1).toNatClampNeg), .ref m]) [(304, .aload_n 0), (305, .aload 9), (307, .aload 7), (309, .aload 8)] (by decide +kernel) rfl ?_
                          have hb131 := hb51.si (((hsi265.tr hsi277).tr hsi287).tr hsi293)
                          have hb132 : zB w293 (m + 596 + 130 * (Z9_139 + 1 + 1).toNatClampNeg) zbZ := hp259_1.ag (fun x hx1 hx2 => ((heq293 x (zx_X16_work_153 hx1 hx2 hgzZ9_139_2 hgzZ9_139_3)).trans ((heq287 x (zx_X16_work_155 hx1 hx2 hgzZ9_139_1 hgzZ9_139_2)).trans ((heq277 x (zx_X16_work_154 hx1 hx2 hgzZ9_139_0 hgzZ9_139_2)).trans (heq265 x ⟨(zx_X16_work_152 hx1 hx2 hgzZ9_139_2), (zx_X16_work_153 hx1 hx2 hgzZ9_139_2 hgzZ9_139_3)⟩)))))
                          have ho311_to := zB.o hb132
                          have hb133 : zB w293 (m + 596 + 130 * Z9_139.toNatClampNeg) (zbT fn1) := hp277_0.ag (fun x hx1 hx2 => ((heq293 x (zx_X16_work_5 hx1 hx2 hgzZ9_139_0 hgzZ9_139_3)).trans (heq287 x (zx_X16_work_3 hx1 hx2 hgzZ9_139_0 hgzZ9_139_1))))
                          have hb134 : zB w293 (m + 596 + 130 * (Z9_139 + 1).toNatClampNeg) (zbT fn2) := hp287_0.ag (fun x hx1 hx2 => (heq293 x (zx_X16_work_8 hx1 hx2 hgzZ9_139_1 hgzZ9_139_3)))
                          refine zr_callV (idx := 185) (j := 291) (by decide +kernel) (by decide +kernel) (show zMe 291 = some zq_X16_gcd_ from rfl) rfl rfl (Nat.le_of_ble_eq_true rfl) rfl rfl hb66 (Nat.le_of_ble_eq_true rfl) (Nat.le_of_ble_eq_true rfl) (c_X16_gcd_ (w := w293) (g1 := Z9_139) (g3 := (Z9_139 + 1 + 1 + 1 + 1)) m (m + 596 + 130 * (Z9_139 + 1 + 1).toNatClampNeg) (m + 596 + 130 * Z9_139.toNatClampNeg) (m + 596 + 130 * (Z9_139 + 1).toNatClampNeg) hb66 hb131 ho311_to hb133 hb134 (by first | omega | decide | assumption | exact zr1_1 | exact zr1_0 | fail "num") (by first | omega | decide | assumption | exact zr1_1 | exact zr1_0 | fail "num") (by first | omega | decide | assumption | exact zr1_1 | exact zr1_0 | fail "num") (by first | omega | decide | assumption | exact zr1_1 | exact zr1_0 | fail "num") (by first | omega | decide | assumption | exact zr1_1 | exact zr1_0 | fail "num") (by first | omega | decide | assumption | exact zr1_1 | exact zr1_0 | fail "num") (by first | omega | decide | assumption | exact zr1_1 | exact zr1_0 | fail "num") (by first | omega | decide | assumption | exact zr1_1 | exact zr1_0 | fail "num") (by first | omega | decide | assumption | exact zr1_1 | exact zr1_0 | fail "num") (by first | omega | decide | assumption | exact zr1_1 | exact zr1_0 | fail "num") rfl rfl) (by omega) (fun v311 w311 hp311 => ?_)
                          obtain ⟨Gn_311, hsi311, heq311, hp311_0, hp311_1, rfl⟩ := hp311
                          show zP _ _ _ _ [] _ _ _ _ _
                          refine zp_seg (pc' := 340) (lv' := [(11, .int 1), (10, .ref (m + 596 + 130 * (Z9_139 + 1 + 1 + 1).toNatClampNeg)), (9, .ref (m + 596 + 130 * (Z9_139 + 1 + 1).toNatClampNeg)), (8, .ref (m + 596 + 130 * (Z9_139 + 1).toNatClampNeg)), (7, .ref (m + 596 + 130 * Z9_139.toNatClampNeg)), (0, .ref m), (1, .int op), (4, .int to), (5, .ref (m + 7486 + 9 * s9.toNatClampNeg)), (6, .ref (m + 7486 + 9 * s8.toNatClampNeg))]) (st' := []) [(314, .goto 26)] (by decide +kernel) rfl ?_
                          have hl135 : (1 : Int32).toInt = 1 := by decide
                          have hb136 : w311 m = some (.inl (15, zMo m (zs (zs (zs g 1 Z9_139) 3 (Z9_139 + 1 + 1 + 1 + 1)) 16 Z9_139) r)) := (heq311 m ⟨(zx_X16_work_157 hgzZ9_139_2), (zx_X16_work_158 hgzZ9_139_0), (zx_X16_work_159 hgzZ9_139_4), (zx_X16_work_160), (zx_X16_work_161)⟩).trans hb66
                          have hb137 : zGr w311 (m + 100) 48 48 := hGa0.ag (fun x hx1 hx2 => ((heq311 x ⟨(zx_X16_work_150 hx1 hx2 hgzZ9_139_2), (zx_X16_work_162 hx1 hx2 hgzZ9_139_0), (zx_X16_work_163 hx1 hx2 hgzZ9_139_4), (zx_X16_work_164 hx1 hx2), (zx_X16_work_165 hx1 hx2)⟩).trans ((heq293 x (zx_X16_work_151 hx1 hx2 hgzZ9_139_3)).trans ((heq287 x (zx_X16_work_149 hx1 hx2 hgzZ9_139_1)).trans ((heq277 x (zx_X16_work_148 hx1 hx2 hgzZ9_139_0)).trans ((heq265 x ⟨(zx_X16_work_146 hx1 hx2), (zx_X16_work_151 hx1 hx2 hgzZ9_139_3)⟩).trans ((heq259 x ⟨(zx_X16_work_146 hx1 hx2), (zx_X16_work_150 hx1 hx2 hgzZ9_139_2)⟩).trans ((heq253 x ⟨(zx_X16_work_146 hx1 hx2), (zx_X16_work_149 hx1 hx2 hgzZ9_139_1)⟩).trans ((heq247 x ⟨(zx_X16_work_146 hx1 hx2), (zx_X16_work_148 hx1 hx2 hgzZ9_139_0)⟩).trans ((heq148 x (zx_X16_work_147 hx1 hx2)).trans (heq139 x (zx_X16_work_146 hx1 hx2))))))))))))
                          exact (hJ340 w311 1 (Z9_139) (((Z9_139 + 1 + 1 + 1 + 1))) hsi311 (fun x hx => (heq311 x ⟨hx.1.2.2.2.1, (zx_X16_work_156 hx.1.2.2.1 hgzZ9_139_0), hx.1.2.2.2.2.1, hx.1.2.2.2.2.2.1, hx.1.2.2.2.2.2.2⟩)) (by first | assumption | omega | decide) (by
                                exact hb136) hb137 (by
                                first | exact hr335 | exact fun _ => ⟨_, hp311_0⟩)).more (zfa1 rfl (zfa1 rfl (zfa1 rfl (zfa1 rfl (zfa1 rfl (zfa0))))))
                      ·
                        have f139 := znleI cc193
                        rw [show (4 : Int32).toInt = 4 from by decide] at f139
                        refine zp_seg (pc' := 198) (lv' := [(0, .ref m), (1, .int op), (4, .int to), (5, .ref (m + 7486 + 9 * s9.toNatClampNeg)), (6, .ref (m + 7486 + 9 * s8.toNatClampNeg))]) (st' := [.int 3, .int op]) [(196, .iload_n 1), (197, .iconst 3)] (by decide +kernel) rfl ?_
                        have hJ211 : ∀ (_ : True), (op.toInt = 3 → 0 < zrw (zbT fn2)) → zP (d + 1) zq_X16_work 211 [(0, .ref m), (1, .int op), (4, .int to), (6, .ref (m + 7486 + 9 * s8.toNatClampNeg))] [] w148 sz 0 0 Post := by
                          intro _ hz9
                          refine zp_seg (pc' := 213) (lv' := [(0, .ref m), (1, .int op), (4, .int to), (6, .ref (m + 7486 + 9 * s8.toNatClampNeg))]) (st' := [.ref m, .ref m]) [(211, .aload_n 0), (212, .aload_n 0)] (by decide +kernel) rfl ?_
                          have hb140 : w148 m = some (.inl (15, zMo m (zs (zs (zs g 1 Z9_139) 3 Z9_139) 16 Z9_139) r)) := (heq148 m (zx_X16_work_1)).trans hM139
                          refine zr_get (idx := 453) (k := 21) (v := .ref (m + 83)) (by decide +kernel) (by decide +kernel) hb140 rfl ?_
                          refine zp_seg (pc' := 220) (lv' := [(0, .ref m), (1, .int op), (4, .int to), (6, .ref (m + 7486 + 9 * s8.toNatClampNeg))]) (st' := [.int 3, .int op, .ref (m + 7486 + 9 * s8.toNatClampNeg), .ref (m + 83), .ref m]) [(216, .aload 6), (218, .iload_n 1), (219, .iconst 3)] (by decide +kernel) rfl ?_
                          have hJ228 : ∀ (z0_228 : Int32), ((z0_228 = 0 ∨ z0_228 = 1) ∧ (z0_228 = 1 → op.toInt = 3)) → zP (d + 1) zq_X16_work 228 [(0, .ref m), (4, .int to)] [.int z0_228, .ref (m + 7486 + 9 * s8.toNatClampNeg), .ref (m + 83), .ref m] w148 sz 0 0 Post := by
                            intro z0_228 hs9
                            have kz0_228 := zrng z0_228
                            have hb141 := hR_m.si (hsi139.tr hsi148)
                            have hb142 : zTi w148 (m + 7486 + 9 * s8.toNatClampNeg) kS2 := hkS2.ag (fun x hx1 hx2 => ((heq148 x (by omega)).trans (heq139 x (by omega))))
                            have hb143 : w148 (m + 7486 + 9 * s8.toNatClampNeg + 1) = some (.inr (0, 325, .inl fn2)) := ((heq148 (m + 7486 + 9 * s8.toNatClampNeg + 1) (by omega)).trans (heq139 (m + 7486 + 9 * s8.toNatClampNeg + 1) (by omega))).trans hAn2
                            refine zr_callV (idx := 388) (j := 314) (by decide +kernel) (by decide +kernel) (show zMe 314 = some zq_X16_multiply_ from rfl) rfl rfl (Nat.le_of_ble_eq_true rfl) rfl rfl hb140 (Nat.le_of_ble_eq_true rfl) (Nat.le_of_ble_eq_true rfl) (c_X16_multiply_W (w := w148) (g1 := Z9_139) (g3 := Z9_139) m (m + 83) (m + 7486 + 9 * s8.toNatClampNeg) z0_228 hb140 hb141 hp148_0 hb142 (by first | omega | decide | assumption | exact zr1_1 | exact zr1_0 | fail "num") (by first | omega | decide | assumption | exact zr1_1 | exact zr1_0 | fail "num") (by first | omega | decide | assumption | exact zr1_1 | exact zr1_0 | fail "num") (by first | omega | decide | assumption | exact zr1_1 | exact zr1_0 | fail "num") (by first | omega | decide | assumption | exact zr1_1 | exact zr1_0 | fail "num") (by exact hkk9.1) (by exact hkk9.2) (by exact fun e => ⟨_, hb143, hz9 (hs9.2 e)⟩) (by exact hs9.1) rfl rfl) (by omega) (fun v228 w228 hp228 => ?_)
                            obtain ⟨K9_228, hsi228, heq228, hp228_0, hp228_1, r228, rfl, hrb228, hr228⟩ := hp228
                            have kr228 := zrng r228
                            show zP _ _ _ _ [.int r228] _ _ _ _ _
                            refine zp_if (i := .ifCond .eq 12) (c := r228 = 0) (t := 243) (e := 234) (lv' := [(0, .ref m), (4, .int to)]) (st' := []) (by decide +kernel) rfl (fun cc231 => ?_) (fun cc231 => ?_)
                            ·
                              have f144 := zeqI cc231
                              rw [show (0 : Int32).toInt = 0 from by decide] at f144
                              refine zp_seg (pc' := 245) (lv' := [(0, .ref m), (4, .int to)]) (st' := [.int (Int32.ofInt (-2))]) [(243, .bipush (-2))] (by decide +kernel) rfl ?_
                              have hb145 : w228 m = some (.inl (15, zMo m (zs (zs (zs g 1 Z9_139) 3 Z9_139) 16 Z9_139) r)) := (heq228 m ⟨(zx_X16_work_1), (zx_X16_work_166), (zx_X16_work_158 hgzZ9_139_0), (zx_X16_work_167 hgzZ9_139_0), (zx_X16_work_160), (zx_X16_work_161)⟩).trans hb140
                              have hoffend : ∀ x, (x < m + 0 ∨ m + 0 + 8322 ≤ x) → w228 x = w x := fun x hx => ((heq228 x ⟨(zx_X16_work_16 hx), (zx_X16_work_168 hx), (zx_X16_work_169 hx hgzZ9_139_0), (zx_X16_work_170 hx hgzZ9_139_0), (zx_X16_work_24 hx), (zx_X16_work_25 hx)⟩).trans ((heq148 x (zx_X16_work_16 hx)).trans (heq139 x (zx_X16_work_15 hx))))
                              have hb146 := hb141.si hsi228
                              have hb147 : zSlo w228 (m + 7486) := hSl0.ag (fun x hx1 hx2 => ((heq228 x ⟨(zx_X16_work_28 hx1 hx2), (zx_X16_work_171 hx1 hx2), (zx_X16_work_172 hx1 hx2 hgzZ9_139_0), (zx_X16_work_173 hx1 hx2 hgzZ9_139_0), (zx_X16_work_36 hx1 hx2), (zx_X16_work_37 hx1 hx2)⟩).trans ((heq148 x (zx_X16_work_28 hx1 hx2)).trans (heq139 x (zx_X16_work_27 hx1 hx2)))))
                              have hb148 : zPil w228 (m + 6316) := hPl0.ag (fun x hx1 hx2 => ((heq228 x ⟨(zx_X16_work_50 hx1 hx2), (zx_X16_work_174 hx1 hx2), (zx_X16_work_175 hx1 hx2 hgzZ9_139_0), (zx_X16_work_176 hx1 hx2 hgzZ9_139_0), (zx_X16_work_58 hx1 hx2), (zx_X16_work_59 hx1 hx2)⟩).trans ((heq148 x (zx_X16_work_50 hx1 hx2)).trans (heq139 x (zx_X16_work_49 hx1 hx2)))))
                              have hb149 : zBya w228 (m + 92) 4000 := hBo0.ag (fun x hx1 hx2 => ((heq228 x ⟨(zx_X16_work_62 hx1 hx2), (zx_X16_work_177 hx1 hx2), (zx_X16_work_178 hx1 hx2 hgzZ9_139_0), (zx_X16_work_179 hx1 hx2 hgzZ9_139_0), (zx_X16_work_70 hx1 hx2), (zx_X16_work_71 hx1 hx2)⟩).trans ((heq148 x (zx_X16_work_62 hx1 hx2)).trans (heq139 x (zx_X16_work_61 hx1 hx2)))))
                              have hb150 : zBya w228 (m + 93) 4000 := hBl0.ag (fun x hx1 hx2 => ((heq228 x ⟨(zx_X16_work_74 hx1 hx2), (zx_X16_work_180 hx1 hx2), (zx_X16_work_181 hx1 hx2 hgzZ9_139_0), (zx_X16_work_182 hx1 hx2 hgzZ9_139_0), (zx_X16_work_82 hx1 hx2), (zx_X16_work_83 hx1 hx2)⟩).trans ((heq148 x (zx_X16_work_74 hx1 hx2)).trans (heq139 x (zx_X16_work_73 hx1 hx2)))))
                              have hb151 : zGr w228 (m + 100) 48 48 := hGa0.ag (fun x hx1 hx2 => ((heq228 x ⟨(zx_X16_work_147 hx1 hx2), (zx_X16_work_183 hx1 hx2), (zx_X16_work_162 hx1 hx2 hgzZ9_139_0), (zx_X16_work_184 hx1 hx2 hgzZ9_139_0), (zx_X16_work_164 hx1 hx2), (zx_X16_work_165 hx1 hx2)⟩).trans ((heq148 x (zx_X16_work_147 hx1 hx2)).trans (heq139 x (zx_X16_work_146 hx1 hx2)))))
                              have hb152 : zGr w228 (m + 212) 60 46 := hGb0.ag (fun x hx1 hx2 => ((heq228 x ⟨(zx_X16_work_86 hx1 hx2), (zx_X16_work_185 hx1 hx2), (zx_X16_work_186 hx1 hx2 hgzZ9_139_0), (zx_X16_work_187 hx1 hx2 hgzZ9_139_0), (zx_X16_work_94 hx1 hx2), (zx_X16_work_95 hx1 hx2)⟩).trans ((heq148 x (zx_X16_work_86 hx1 hx2)).trans (heq139 x (zx_X16_work_85 hx1 hx2)))))
                              have hb153 : zBd w228 (m + 149) := hBd0.ag (fun x hx1 hx2 => ((heq228 x ⟨(zx_X16_work_98 hx1 hx2), (zx_X16_work_188 hx1 hx2), (zx_X16_work_189 hx1 hx2 hgzZ9_139_0), (zx_X16_work_190 hx1 hx2 hgzZ9_139_0), (zx_X16_work_106 hx1 hx2), (zx_X16_work_107 hx1 hx2)⟩).trans ((heq148 x (zx_X16_work_98 hx1 hx2)).trans (heq139 x (zx_X16_work_97 hx1 hx2)))))
                              have hb154 : w228 (m + 94) = some (.inr (0, 60, .inl ff)) := ((heq228 (m + 94) ⟨(zx_X16_work_110), (zx_X16_work_191), (zx_X16_work_192 hgzZ9_139_0), (zx_X16_work_193 hgzZ9_139_0), (zx_X16_work_118), (zx_X16_work_119)⟩).trans ((heq148 (m + 94) (zx_X16_work_110)).trans (heq139 (m + 94) (zx_X16_work_109)))).trans hAf0
                              refine zr_retI (by decide +kernel) rfl ?_
                              rw [← hPost]; exact ⟨rfl, _, rfl, ((hsi139.tr hsi148).tr hsi228), hoffend, ⟨_, _, hb145, hb146, hb147, (zTi.m hp228_0), hb148, ⟨_, hb154, hff⟩, hb149, hb150, hb151, hb152, hb153, hI12, hI24, hI29, hI31, hIn⟩, _, rfl, trivial⟩
                            ·
                              have f156 := zneI cc231
                              rw [show (0 : Int32).toInt = 0 from by decide] at f156
                              have hb157 : zSlo w228 (m + 7486) := hSl0.ag (fun x hx1 hx2 => ((heq228 x ⟨(zx_X16_work_28 hx1 hx2), (zx_X16_work_171 hx1 hx2), (zx_X16_work_172 hx1 hx2 hgzZ9_139_0), (zx_X16_work_173 hx1 hx2 hgzZ9_139_0), (zx_X16_work_36 hx1 hx2), (zx_X16_work_37 hx1 hx2)⟩).trans ((heq148 x (zx_X16_work_28 hx1 hx2)).trans (heq139 x (zx_X16_work_27 hx1 hx2)))))
                              obtain ⟨kU, hkU⟩ := hb157 to.toNatClampNeg (by omega)
                              refine zp_seg (pc' := 237) (lv' := [(0, .ref m), (4, .int to)]) (st' := [.int to, .ref m]) [(234, .aload_n 0), (235, .iload 4)] (by decide +kernel) rfl ?_
                              have hb158 : w228 m = some (.inl (15, zMo m (zs (zs (zs g 1 Z9_139) 3 Z9_139) 16 Z9_139) r)) := (heq228 m ⟨(zx_X16_work_1), (zx_X16_work_166), (zx_X16_work_158 hgzZ9_139_0), (zx_X16_work_167 hgzZ9_139_0), (zx_X16_work_160), (zx_X16_work_161)⟩).trans hb140
                              have hb159 := hb141.si hsi228
                              refine zr_callV (idx := 558) (j := 338) (by decide +kernel) (by decide +kernel) (show zMe 338 = some zq_X16_keep from rfl) rfl rfl (Nat.le_of_ble_eq_true rfl) rfl rfl hb158 (Nat.le_of_ble_eq_true rfl) (Nat.le_of_ble_eq_true rfl) (c_X16_keep (w := w228) m to hb158 hb159 hp228_0 hkU (by first | omega | decide | assumption | exact zr1_1 | exact zr1_0 | fail "num")) (by omega) (fun v237 w237 hp237 => ?_)
                              obtain ⟨hsi237, heq237, hp237_0, r237, rfl, hr237⟩ := hp237
                              have kr237 := zrng r237
                              show zP _ _ _ _ [.int r237] _ _ _ _ _
                              refine zp_seg (pc' := 245) (lv' := [(0, .ref m), (4, .int to)]) (st' := [.int r237]) [(240, .goto 5)] (by decide +kernel) rfl ?_
                              have hSl245 := hSl0.up (w' := w237) to.toNatClampNeg hp237_0 (fun x h1 h2 h3 => ((heq237 x (by omega)).trans ((heq228 x (by omega)).trans ((heq148 x (by omega)).trans (heq139 x (by omega))))))
                              have hb160 : w237 m = some (.inl (15, zMo m (zs (zs (zs g 1 Z9_139) 3 Z9_139) 16 Z9_139) r)) := (heq237 m (by omega)).trans hb158
                              have hoffend : ∀ x, (x < m + 0 ∨ m + 0 + 8322 ≤ x) → w237 x = w x := fun x hx => ((heq237 x (by omega)).trans ((heq228 x ⟨(zx_X16_work_16 hx), (zx_X16_work_168 hx), (zx_X16_work_169 hx hgzZ9_139_0), (zx_X16_work_170 hx hgzZ9_139_0), (zx_X16_work_24 hx), (zx_X16_work_25 hx)⟩).trans ((heq148 x (zx_X16_work_16 hx)).trans (heq139 x (zx_X16_work_15 hx)))))
                              have hb161 := hb159.si hsi237
                              have hb162 : zTi w237 (m + 83) K9_228 := hp228_0.ag (fun x hx1 hx2 => (heq237 x (by omega)))
                              have hb163 : zPil w237 (m + 6316) := hPl0.ag (fun x hx1 hx2 => ((heq237 x (by omega)).trans ((heq228 x ⟨(zx_X16_work_50 hx1 hx2), (zx_X16_work_174 hx1 hx2), (zx_X16_work_175 hx1 hx2 hgzZ9_139_0), (zx_X16_work_176 hx1 hx2 hgzZ9_139_0), (zx_X16_work_58 hx1 hx2), (zx_X16_work_59 hx1 hx2)⟩).trans ((heq148 x (zx_X16_work_50 hx1 hx2)).trans (heq139 x (zx_X16_work_49 hx1 hx2))))))
                              have hb164 : zBya w237 (m + 92) 4000 := hBo0.ag (fun x hx1 hx2 => ((heq237 x (by omega)).trans ((heq228 x ⟨(zx_X16_work_62 hx1 hx2), (zx_X16_work_177 hx1 hx2), (zx_X16_work_178 hx1 hx2 hgzZ9_139_0), (zx_X16_work_179 hx1 hx2 hgzZ9_139_0), (zx_X16_work_70 hx1 hx2), (zx_X16_work_71 hx1 hx2)⟩).trans ((heq148 x (zx_X16_work_62 hx1 hx2)).trans (heq139 x (zx_X16_work_61 hx1 hx2))))))
                              have hb165 : zBya w237 (m + 93) 4000 := hBl0.ag (fun x hx1 hx2 => ((heq237 x (by omega)).trans ((heq228 x ⟨(zx_X16_work_74 hx1 hx2), (zx_X16_work_180 hx1 hx2), (zx_X16_work_181 hx1 hx2 hgzZ9_139_0), (zx_X16_work_182 hx1 hx2 hgzZ9_139_0), (zx_X16_work_82 hx1 hx2), (zx_X16_work_83 hx1 hx2)⟩).trans ((heq148 x (zx_X16_work_74 hx1 hx2)).trans (heq139 x (zx_X16_work_73 hx1 hx2))))))
                              have hb166 : zGr w237 (m + 100) 48 48 := hGa0.ag (fun x hx1 hx2 => ((heq237 x (by omega)).trans ((heq228 x ⟨(zx_X16_work_147 hx1 hx2), (zx_X16_work_183 hx1 hx2), (zx_X16_work_162 hx1 hx2 hgzZ9_139_0), (zx_X16_work_184 hx1 hx2 hgzZ9_139_0), (zx_X16_work_164 hx1 hx2), (zx_X16_work_165 hx1 hx2)⟩).trans ((heq148 x (zx_X16_work_147 hx1 hx2)).trans (heq139 x (zx_X16_work_146 hx1 hx2))))))
                              have hb167 : zGr w237 (m + 212) 60 46 := hGb0.ag (fun x hx1 hx2 => ((heq237 x (by omega)).trans ((heq228 x ⟨(zx_X16_work_86 hx1 hx2), (zx_X16_work_185 hx1 hx2), (zx_X16_work_186 hx1 hx2 hgzZ9_139_0), (zx_X16_work_187 hx1 hx2 hgzZ9_139_0), (zx_X16_work_94 hx1 hx2), (zx_X16_work_95 hx1 hx2)⟩).trans ((heq148 x (zx_X16_work_86 hx1 hx2)).trans (heq139 x (zx_X16_work_85 hx1 hx2))))))
                              have hb168 : zBd w237 (m + 149) := hBd0.ag (fun x hx1 hx2 => ((heq237 x (by omega)).trans ((heq228 x ⟨(zx_X16_work_98 hx1 hx2), (zx_X16_work_188 hx1 hx2), (zx_X16_work_189 hx1 hx2 hgzZ9_139_0), (zx_X16_work_190 hx1 hx2 hgzZ9_139_0), (zx_X16_work_106 hx1 hx2), (zx_X16_work_107 hx1 hx2)⟩).trans ((heq148 x (zx_X16_work_98 hx1 hx2)).trans (heq139 x (zx_X16_work_97 hx1 hx2))))))
                              have hb169 : w237 (m + 94) = some (.inr (0, 60, .inl ff)) := ((heq237 (m + 94) (by omega)).trans ((heq228 (m + 94) ⟨(zx_X16_work_110), (zx_X16_work_191), (zx_X16_work_192 hgzZ9_139_0), (zx_X16_work_193 hgzZ9_139_0), (zx_X16_work_118), (zx_X16_work_119)⟩).trans ((heq148 (m + 94) (zx_X16_work_110)).trans (heq139 (m + 94) (zx_X16_work_109))))).trans hAf0
                              refine zr_retI (by decide +kernel) rfl ?_
                              rw [← hPost]; exact ⟨rfl, _, rfl, (((hsi139.tr hsi148).tr hsi228).tr hsi237), hoffend, ⟨_, _, hb160, hb161, hSl245, (zTi.m hb162), hb163, ⟨_, hb169, hff⟩, hb164, hb165, hb166, hb167, hb168, hI12, hI24, hI29, hI31, hIn⟩, _, rfl, trivial⟩
                          refine zp_if (i := .if_icmp .ne 7) (c := ¬ op = 3) (t := 227) (e := 223) (lv' := [(0, .ref m), (1, .int op), (4, .int to), (6, .ref (m + 7486 + 9 * s8.toNatClampNeg))]) (st' := [.ref (m + 7486 + 9 * s8.toNatClampNeg), .ref (m + 83), .ref m]) (by decide +kernel) rfl (fun cc220 => ?_) (fun cc220 => ?_)
                          ·
                            have f171 := zneI cc220
                            rw [show (3 : Int32).toInt = 3 from by decide] at f171
                            refine zp_seg (pc' := 228) (lv' := [(0, .ref m), (1, .int op), (4, .int to), (6, .ref (m + 7486 + 9 * s8.toNatClampNeg))]) (st' := [.int 0, .ref (m + 7486 + 9 * s8.toNatClampNeg), .ref (m + 83), .ref m]) [(227, .iconst 0)] (by decide +kernel) rfl ?_
                            have hl172 : (0 : Int32).toInt = 0 := by decide
                            exact (hJ228 0 (by
                                  first | exact ⟨Or.inr rfl, fun _ => by omega⟩ | exact ⟨Or.inl rfl, fun e => absurd e (by decide)⟩)).more (zfa1 rfl (zfa1 rfl (zfa0)))
                          ·
                            replace cc220 := Classical.not_not.mp cc220
                            have f174 := zeqI cc220
                            rw [show (3 : Int32).toInt = 3 from by decide] at f174
                            refine zp_seg (pc' := 228) (lv' := [(0, .ref m), (1, .int op), (4, .int to), (6, .ref (m + 7486 + 9 * s8.toNatClampNeg))]) (st' := [.int 1, .ref (m + 7486 + 9 * s8.toNatClampNeg), .ref (m + 83), .ref m]) [(223, .iconst 1), (224, .goto 4)] (by decide +kernel) rfl ?_
                            have hl175 : (1 : Int32).toInt = 1 := by decide
                            exact (hJ228 1 (by
                                  first | exact ⟨Or.inr rfl, fun _ => by omega⟩ | exact ⟨Or.inl rfl, fun e => absurd e (by decide)⟩)).more (zfa1 rfl (zfa1 rfl (zfa0)))
                        refine zp_if (i := .if_icmp .ne 13) (c := ¬ op = 3) (t := 211) (e := 201) (lv' := [(0, .ref m), (1, .int op), (4, .int to), (5, .ref (m + 7486 + 9 * s9.toNatClampNeg)), (6, .ref (m + 7486 + 9 * s8.toNatClampNeg))]) (st' := []) (by decide +kernel) rfl (fun cc198 => ?_) (fun cc198 => ?_)
                        ·
                          have f177 := zneI cc198
                          rw [show (3 : Int32).toInt = 3 from by decide] at f177
                          exact (hJ211 trivial (by
                                intro e
                                first
                                | (exfalso; omega)
                                | exact hkk9.2.elim (fun e => hr203.2 cc206 (hK20.trans e)) (fun e => hKk2.2.2.1 e))).more (zfa1 rfl (zfa1 rfl (zfa1 rfl (zfa1 rfl (zfa0)))))
                        ·
                          replace cc198 := Classical.not_not.mp cc198
                          have f179 := zeqI cc198
                          rw [show (3 : Int32).toInt = 3 from by decide] at f179
                          refine zp_seg (pc' := 203) (lv' := [(0, .ref m), (1, .int op), (4, .int to), (5, .ref (m + 7486 + 9 * s9.toNatClampNeg)), (6, .ref (m + 7486 + 9 * s8.toNatClampNeg))]) (st' := [.ref (m + 7486 + 9 * s8.toNatClampNeg)]) [(201, .aload 6)] (by decide +kernel) rfl ?_
                          have hb180 : w148 (m + 7486 + 9 * s8.toNatClampNeg) = some (.inl (13, zTo (m + 7486 + 9 * s8.toNatClampNeg) g2)) := ((heq148 (m + 7486 + 9 * s8.toNatClampNeg) (by omega)).trans (heq139 (m + 7486 + 9 * s8.toNatClampNeg) (by omega))).trans hT2
                          have hb181 : w148 (m + 7486 + 9 * s8.toNatClampNeg + 1) = some (.inr (0, 325, .inl fn2)) := ((heq148 (m + 7486 + 9 * s8.toNatClampNeg + 1) (by omega)).trans (heq139 (m + 7486 + 9 * s8.toNatClampNeg + 1) (by omega))).trans hAn2
                          refine zr_callS (idx := 288) (j := 306) (by decide +kernel) (by decide +kernel) (by decide) (show zMe 306 = some zq_X16_isZero from rfl) rfl rfl (Nat.le_of_ble_eq_true rfl) rfl rfl (Nat.le_of_ble_eq_true rfl) (Nat.le_of_ble_eq_true rfl) (c_X16_isZero (w := w148) (m + 7486 + 9 * s8.toNatClampNeg) hb180 hb181 (by exact hKn2)) (by omega) (fun v203 w203 hp203 => ?_)
                          obtain ⟨hpw203, r203, rfl, hrb203, hr203⟩ := hp203
                          replace hpw203 := hpw203.symm
                          subst hpw203
                          have kr203 := zrng r203
                          show zP _ _ _ _ [.int r203] _ _ _ _ _
                          refine zp_if (i := .ifCond .eq 5) (c := r203 = 0) (t := 211) (e := 209) (lv' := [(0, .ref m), (1, .int op), (4, .int to), (5, .ref (m + 7486 + 9 * s9.toNatClampNeg)), (6, .ref (m + 7486 + 9 * s8.toNatClampNeg))]) (st' := []) (by decide +kernel) rfl (fun cc206 => ?_) (fun cc206 => ?_)
                          ·
                            have f182 := zeqI cc206
                            rw [show (0 : Int32).toInt = 0 from by decide] at f182
                            exact (hJ211 trivial (by
                                  intro e
                                  first
                                  | (exfalso; omega)
                                  | exact hkk9.2.elim (fun e => hr203.2 cc206 (hK20.trans e)) (fun e => hKk2.2.2.1 e))).more (zfa1 rfl (zfa1 rfl (zfa1 rfl (zfa1 rfl (zfa0)))))
                          ·
                            have f183 := zneI cc206
                            rw [show (0 : Int32).toInt = 0 from by decide] at f183
                            refine zp_seg (pc' := 210) (lv' := [(0, .ref m), (1, .int op), (4, .int to), (5, .ref (m + 7486 + 9 * s9.toNatClampNeg)), (6, .ref (m + 7486 + 9 * s8.toNatClampNeg))]) (st' := [.int (Int32.ofInt (-1))]) [(209, .iconst (-1))] (by decide +kernel) rfl ?_
                            have hb184 : w148 m = some (.inl (15, zMo m (zs (zs (zs g 1 Z9_139) 3 Z9_139) 16 Z9_139) r)) := (heq148 m (zx_X16_work_1)).trans hM139
                            have hoffend : ∀ x, (x < m + 0 ∨ m + 0 + 8322 ≤ x) → w148 x = w x := fun x hx => ((heq148 x (zx_X16_work_16 hx)).trans (heq139 x (zx_X16_work_15 hx)))
                            have hb185 := hR_m.si (hsi139.tr hsi148)
                            have hb186 : zSlo w148 (m + 7486) := hSl0.ag (fun x hx1 hx2 => ((heq148 x (zx_X16_work_28 hx1 hx2)).trans (heq139 x (zx_X16_work_27 hx1 hx2))))
                            have hb187 : zPil w148 (m + 6316) := hPl0.ag (fun x hx1 hx2 => ((heq148 x (zx_X16_work_50 hx1 hx2)).trans (heq139 x (zx_X16_work_49 hx1 hx2))))
                            have hb188 : zBya w148 (m + 92) 4000 := hBo0.ag (fun x hx1 hx2 => ((heq148 x (zx_X16_work_62 hx1 hx2)).trans (heq139 x (zx_X16_work_61 hx1 hx2))))
                            have hb189 : zBya w148 (m + 93) 4000 := hBl0.ag (fun x hx1 hx2 => ((heq148 x (zx_X16_work_74 hx1 hx2)).trans (heq139 x (zx_X16_work_73 hx1 hx2))))
                            have hb190 : zGr w148 (m + 100) 48 48 := hGa0.ag (fun x hx1 hx2 => ((heq148 x (zx_X16_work_147 hx1 hx2)).trans (heq139 x (zx_X16_work_146 hx1 hx2))))
                            have hb191 : zGr w148 (m + 212) 60 46 := hGb0.ag (fun x hx1 hx2 => ((heq148 x (zx_X16_work_86 hx1 hx2)).trans (heq139 x (zx_X16_work_85 hx1 hx2))))
                            have hb192 : zBd w148 (m + 149) := hBd0.ag (fun x hx1 hx2 => ((heq148 x (zx_X16_work_98 hx1 hx2)).trans (heq139 x (zx_X16_work_97 hx1 hx2))))
                            have hb193 : w148 (m + 94) = some (.inr (0, 60, .inl ff)) := ((heq148 (m + 94) (zx_X16_work_110)).trans (heq139 (m + 94) (zx_X16_work_109))).trans hAf0
                            refine zr_retI (by decide +kernel) rfl ?_
                            rw [← hPost]; exact ⟨rfl, _, rfl, (hsi139.tr hsi148), hoffend, ⟨_, _, hb184, hb185, hb186, (zTi.m hp148_0), hb187, ⟨_, hb193, hff⟩, hb188, hb189, hb190, hb191, hb192, hI12, hI24, hI29, hI31, hIn⟩, _, rfl, trivial⟩
                    ·
                      have f196 := znleI cc153
                      rw [show (2 : Int32).toInt = 2 from by decide] at f196
                      refine zp_seg (pc' := 158) (lv' := [(0, .ref m), (1, .int op), (4, .int to), (5, .ref (m + 7486 + 9 * s9.toNatClampNeg)), (6, .ref (m + 7486 + 9 * s8.toNatClampNeg))]) (st' := [.ref m, .ref m]) [(156, .aload_n 0), (157, .aload_n 0)] (by decide +kernel) rfl ?_
                      have hb197 : w148 m = some (.inl (15, zMo m (zs (zs (zs g 1 Z9_139) 3 Z9_139) 16 Z9_139) r)) := (heq148 m (zx_X16_work_1)).trans hM139
                      refine zr_get (idx := 453) (k := 21) (v := .ref (m + 83)) (by decide +kernel) (by decide +kernel) hb197 rfl ?_
                      refine zp_seg (pc' := 165) (lv' := [(0, .ref m), (1, .int op), (4, .int to), (5, .ref (m + 7486 + 9 * s9.toNatClampNeg)), (6, .ref (m + 7486 + 9 * s8.toNatClampNeg))]) (st' := [.int 1, .int op, .ref (m + 7486 + 9 * s8.toNatClampNeg), .ref (m + 83), .ref m]) [(161, .aload 6), (163, .iload_n 1), (164, .iconst 1)] (by decide +kernel) rfl ?_
                      have hJ173 : ∀ (z0_173 : Int32), ((z0_173 = 0 ∨ z0_173 = 1)) → zP (d + 1) zq_X16_work 173 [(0, .ref m), (4, .int to)] [.int z0_173, .ref (m + 7486 + 9 * s8.toNatClampNeg), .ref (m + 83), .ref m] w148 sz 0 0 Post := by
                        intro z0_173 hi173_0
                        have kz0_173 := zrng z0_173
                        have hb198 := hR_m.si (hsi139.tr hsi148)
                        have hb199 : zTi w148 (m + 7486 + 9 * s8.toNatClampNeg) kS2 := hkS2.ag (fun x hx1 hx2 => ((heq148 x (by omega)).trans (heq139 x (by omega))))
                        refine zr_callV (idx := 382) (j := 317) (by decide +kernel) (by decide +kernel) (show zMe 317 = some zq_X16_add_ from rfl) rfl rfl (Nat.le_of_ble_eq_true rfl) rfl rfl hb197 (Nat.le_of_ble_eq_true rfl) (Nat.le_of_ble_eq_true rfl) (c_X16_add_ (w := w148) (g1 := Z9_139) (g3 := Z9_139) m (m + 83) (m + 7486 + 9 * s8.toNatClampNeg) z0_173 hb197 hb198 hp148_0 hb199 (by first | omega | decide | assumption | exact zr1_1 | exact zr1_0 | fail "num") (by first | omega | decide | assumption | exact zr1_1 | exact zr1_0 | fail "num") (by first | omega | decide | assumption | exact zr1_1 | exact zr1_0 | fail "num") (by first | omega | decide | assumption | exact zr1_1 | exact zr1_0 | fail "num") (by first | omega | decide | assumption | exact zr1_1 | exact zr1_0 | fail "num") (by exact (hop9.1 (by omega)).1) (by exact (hop9.1 (by omega)).2) (by first | omega | decide | assumption | exact zr1_1 | exact zr1_0 | fail "num") rfl rfl) (by omega) (fun v173 w173 hp173 => ?_)
                        obtain ⟨hsi173, heq173, hp173_0, r173, rfl, hrb173, hr173⟩ := hp173
                        have kr173 := zrng r173
                        show zP _ _ _ _ [.int r173] _ _ _ _ _
                        refine zp_if (i := .ifCond .eq 12) (c := r173 = 0) (t := 188) (e := 179) (lv' := [(0, .ref m), (4, .int to)]) (st' := []) (by decide +kernel) rfl (fun cc176 => ?_) (fun cc176 => ?_)
                        ·
                          have f200 := zeqI cc176
                          rw [show (0 : Int32).toInt = 0 from by decide] at f200
                          refine zp_seg (pc' := 190) (lv' := [(0, .ref m), (4, .int to)]) (st' := [.int (Int32.ofInt (-2))]) [(188, .bipush (-2))] (by decide +kernel) rfl ?_
                          have hb201 : w173 m = some (.inl (15, zMo m (zs (zs (zs g 1 Z9_139) 3 Z9_139) 16 Z9_139) r)) := (heq173 m ⟨(zx_X16_work_1), (zx_X16_work_158 hgzZ9_139_0), (zx_X16_work_167 hgzZ9_139_0), (zx_X16_work_160), (zx_X16_work_161)⟩).trans hb197
                          have hoffend : ∀ x, (x < m + 0 ∨ m + 0 + 8322 ≤ x) → w173 x = w x := fun x hx => ((heq173 x ⟨(zx_X16_work_16 hx), (zx_X16_work_169 hx hgzZ9_139_0), (zx_X16_work_170 hx hgzZ9_139_0), (zx_X16_work_24 hx), (zx_X16_work_25 hx)⟩).trans ((heq148 x (zx_X16_work_16 hx)).trans (heq139 x (zx_X16_work_15 hx))))
                          have hb202 := hb198.si hsi173
                          have hb203 : zSlo w173 (m + 7486) := hSl0.ag (fun x hx1 hx2 => ((heq173 x ⟨(zx_X16_work_28 hx1 hx2), (zx_X16_work_172 hx1 hx2 hgzZ9_139_0), (zx_X16_work_173 hx1 hx2 hgzZ9_139_0), (zx_X16_work_36 hx1 hx2), (zx_X16_work_37 hx1 hx2)⟩).trans ((heq148 x (zx_X16_work_28 hx1 hx2)).trans (heq139 x (zx_X16_work_27 hx1 hx2)))))
                          have hb204 : zPil w173 (m + 6316) := hPl0.ag (fun x hx1 hx2 => ((heq173 x ⟨(zx_X16_work_50 hx1 hx2), (zx_X16_work_175 hx1 hx2 hgzZ9_139_0), (zx_X16_work_176 hx1 hx2 hgzZ9_139_0), (zx_X16_work_58 hx1 hx2), (zx_X16_work_59 hx1 hx2)⟩).trans ((heq148 x (zx_X16_work_50 hx1 hx2)).trans (heq139 x (zx_X16_work_49 hx1 hx2)))))
                          have hb205 : zBya w173 (m + 92) 4000 := hBo0.ag (fun x hx1 hx2 => ((heq173 x ⟨(zx_X16_work_62 hx1 hx2), (zx_X16_work_178 hx1 hx2 hgzZ9_139_0), (zx_X16_work_179 hx1 hx2 hgzZ9_139_0), (zx_X16_work_70 hx1 hx2), (zx_X16_work_71 hx1 hx2)⟩).trans ((heq148 x (zx_X16_work_62 hx1 hx2)).trans (heq139 x (zx_X16_work_61 hx1 hx2)))))
                          have hb206 : zBya w173 (m + 93) 4000 := hBl0.ag (fun x hx1 hx2 => ((heq173 x ⟨(zx_X16_work_74 hx1 hx2), (zx_X16_work_181 hx1 hx2 hgzZ9_139_0), (zx_X16_work_182 hx1 hx2 hgzZ9_139_0), (zx_X16_work_82 hx1 hx2), (zx_X16_work_83 hx1 hx2)⟩).trans ((heq148 x (zx_X16_work_74 hx1 hx2)).trans (heq139 x (zx_X16_work_73 hx1 hx2)))))
                          have hb207 : zGr w173 (m + 100) 48 48 := hGa0.ag (fun x hx1 hx2 => ((heq173 x ⟨(zx_X16_work_147 hx1 hx2), (zx_X16_work_162 hx1 hx2 hgzZ9_139_0), (zx_X16_work_184 hx1 hx2 hgzZ9_139_0), (zx_X16_work_164 hx1 hx2), (zx_X16_work_165 hx1 hx2)⟩).trans ((heq148 x (zx_X16_work_147 hx1 hx2)).trans (heq139 x (zx_X16_work_146 hx1 hx2)))))
                          have hb208 : zGr w173 (m + 212) 60 46 := hGb0.ag (fun x hx1 hx2 => ((heq173 x ⟨(zx_X16_work_86 hx1 hx2), (zx_X16_work_186 hx1 hx2 hgzZ9_139_0), (zx_X16_work_187 hx1 hx2 hgzZ9_139_0), (zx_X16_work_94 hx1 hx2), (zx_X16_work_95 hx1 hx2)⟩).trans ((heq148 x (zx_X16_work_86 hx1 hx2)).trans (heq139 x (zx_X16_work_85 hx1 hx2)))))
                          have hb209 : zBd w173 (m + 149) := hBd0.ag (fun x hx1 hx2 => ((heq173 x ⟨(zx_X16_work_98 hx1 hx2), (zx_X16_work_189 hx1 hx2 hgzZ9_139_0), (zx_X16_work_190 hx1 hx2 hgzZ9_139_0), (zx_X16_work_106 hx1 hx2), (zx_X16_work_107 hx1 hx2)⟩).trans ((heq148 x (zx_X16_work_98 hx1 hx2)).trans (heq139 x (zx_X16_work_97 hx1 hx2)))))
                          have hb210 : w173 (m + 94) = some (.inr (0, 60, .inl ff)) := ((heq173 (m + 94) ⟨(zx_X16_work_110), (zx_X16_work_192 hgzZ9_139_0), (zx_X16_work_193 hgzZ9_139_0), (zx_X16_work_118), (zx_X16_work_119)⟩).trans ((heq148 (m + 94) (zx_X16_work_110)).trans (heq139 (m + 94) (zx_X16_work_109)))).trans hAf0
                          refine zr_retI (by decide +kernel) rfl ?_
                          rw [← hPost]; exact ⟨rfl, _, rfl, ((hsi139.tr hsi148).tr hsi173), hoffend, ⟨_, _, hb201, hb202, hb203, (zTi.m hp173_0), hb204, ⟨_, hb210, hff⟩, hb205, hb206, hb207, hb208, hb209, hI12, hI24, hI29, hI31, hIn⟩, _, rfl, trivial⟩
                        ·
                          have f212 := zneI cc176
                          rw [show (0 : Int32).toInt = 0 from by decide] at f212
                          have hb213 : zSlo w173 (m + 7486) := hSl0.ag (fun x hx1 hx2 => ((heq173 x ⟨(zx_X16_work_28 hx1 hx2), (zx_X16_work_172 hx1 hx2 hgzZ9_139_0), (zx_X16_work_173 hx1 hx2 hgzZ9_139_0), (zx_X16_work_36 hx1 hx2), (zx_X16_work_37 hx1 hx2)⟩).trans ((heq148 x (zx_X16_work_28 hx1 hx2)).trans (heq139 x (zx_X16_work_27 hx1 hx2)))))
                          obtain ⟨kT, hkT⟩ := hb213 to.toNatClampNeg (by omega)
                          refine zp_seg (pc' := 182) (lv' := [(0, .ref m), (4, .int to)]) (st' := [.int to, .ref m]) [(179, .aload_n 0), (180, .iload 4)] (by decide +kernel) rfl ?_
                          have hb214 : w173 m = some (.inl (15, zMo m (zs (zs (zs g 1 Z9_139) 3 Z9_139) 16 Z9_139) r)) := (heq173 m ⟨(zx_X16_work_1), (zx_X16_work_158 hgzZ9_139_0), (zx_X16_work_167 hgzZ9_139_0), (zx_X16_work_160), (zx_X16_work_161)⟩).trans hb197
                          have hb215 := hb198.si hsi173
                          refine zr_callV (idx := 558) (j := 338) (by decide +kernel) (by decide +kernel) (show zMe 338 = some zq_X16_keep from rfl) rfl rfl (Nat.le_of_ble_eq_true rfl) rfl rfl hb214 (Nat.le_of_ble_eq_true rfl) (Nat.le_of_ble_eq_true rfl) (c_X16_keep (w := w173) m to hb214 hb215 hp173_0 hkT (by first | omega | decide | assumption | exact zr1_1 | exact zr1_0 | fail "num")) (by omega) (fun v182 w182 hp182 => ?_)
                          obtain ⟨hsi182, heq182, hp182_0, r182, rfl, hr182⟩ := hp182
                          have kr182 := zrng r182
                          show zP _ _ _ _ [.int r182] _ _ _ _ _
                          refine zp_seg (pc' := 190) (lv' := [(0, .ref m), (4, .int to)]) (st' := [.int r182]) [(185, .goto 5)] (by decide +kernel) rfl ?_
                          have hSl190 := hSl0.up (w' := w182) to.toNatClampNeg hp182_0 (fun x h1 h2 h3 => ((heq182 x (by omega)).trans ((heq173 x (by omega)).trans ((heq148 x (by omega)).trans (heq139 x (by omega))))))
                          have hb216 : w182 m = some (.inl (15, zMo m (zs (zs (zs g 1 Z9_139) 3 Z9_139) 16 Z9_139) r)) := (heq182 m (by omega)).trans hb214
                          have hoffend : ∀ x, (x < m + 0 ∨ m + 0 + 8322 ≤ x) → w182 x = w x := fun x hx => ((heq182 x (by omega)).trans ((heq173 x ⟨(zx_X16_work_16 hx), (zx_X16_work_169 hx hgzZ9_139_0), (zx_X16_work_170 hx hgzZ9_139_0), (zx_X16_work_24 hx), (zx_X16_work_25 hx)⟩).trans ((heq148 x (zx_X16_work_16 hx)).trans (heq139 x (zx_X16_work_15 hx)))))
                          have hb217 := hb215.si hsi182
                          have hb218 : zTi w182 (m + 83) kS1 := hp173_0.ag (fun x hx1 hx2 => (heq182 x (by omega)))
                          have hb219 : zPil w182 (m + 6316) := hPl0.ag (fun x hx1 hx2 => ((heq182 x (by omega)).trans ((heq173 x ⟨(zx_X16_work_50 hx1 hx2), (zx_X16_work_175 hx1 hx2 hgzZ9_139_0), (zx_X16_work_176 hx1 hx2 hgzZ9_139_0), (zx_X16_work_58 hx1 hx2), (zx_X16_work_59 hx1 hx2)⟩).trans ((heq148 x (zx_X16_work_50 hx1 hx2)).trans (heq139 x (zx_X16_work_49 hx1 hx2))))))
                          have hb220 : zBya w182 (m + 92) 4000 := hBo0.ag (fun x hx1 hx2 => ((heq182 x (by omega)).trans ((heq173 x ⟨(zx_X16_work_62 hx1 hx2), (zx_X16_work_178 hx1 hx2 hgzZ9_139_0), (zx_X16_work_179 hx1 hx2 hgzZ9_139_0), (zx_X16_work_70 hx1 hx2), (zx_X16_work_71 hx1 hx2)⟩).trans ((heq148 x (zx_X16_work_62 hx1 hx2)).trans (heq139 x (zx_X16_work_61 hx1 hx2))))))
                          have hb221 : zBya w182 (m + 93) 4000 := hBl0.ag (fun x hx1 hx2 => ((heq182 x (by omega)).trans ((heq173 x ⟨(zx_X16_work_74 hx1 hx2), (zx_X16_work_181 hx1 hx2 hgzZ9_139_0), (zx_X16_work_182 hx1 hx2 hgzZ9_139_0), (zx_X16_work_82 hx1 hx2), (zx_X16_work_83 hx1 hx2)⟩).trans ((heq148 x (zx_X16_work_74 hx1 hx2)).trans (heq139 x (zx_X16_work_73 hx1 hx2))))))
                          have hb222 : zGr w182 (m + 100) 48 48 := hGa0.ag (fun x hx1 hx2 => ((heq182 x (by omega)).trans ((heq173 x ⟨(zx_X16_work_147 hx1 hx2), (zx_X16_work_162 hx1 hx2 hgzZ9_139_0), (zx_X16_work_184 hx1 hx2 hgzZ9_139_0), (zx_X16_work_164 hx1 hx2), (zx_X16_work_165 hx1 hx2)⟩).trans ((heq148 x (zx_X16_work_147 hx1 hx2)).trans (heq139 x (zx_X16_work_146 hx1 hx2))))))
                          have hb223 : zGr w182 (m + 212) 60 46 := hGb0.ag (fun x hx1 hx2 => ((heq182 x (by omega)).trans ((heq173 x ⟨(zx_X16_work_86 hx1 hx2), (zx_X16_work_186 hx1 hx2 hgzZ9_139_0), (zx_X16_work_187 hx1 hx2 hgzZ9_139_0), (zx_X16_work_94 hx1 hx2), (zx_X16_work_95 hx1 hx2)⟩).trans ((heq148 x (zx_X16_work_86 hx1 hx2)).trans (heq139 x (zx_X16_work_85 hx1 hx2))))))
                          have hb224 : zBd w182 (m + 149) := hBd0.ag (fun x hx1 hx2 => ((heq182 x (by omega)).trans ((heq173 x ⟨(zx_X16_work_98 hx1 hx2), (zx_X16_work_189 hx1 hx2 hgzZ9_139_0), (zx_X16_work_190 hx1 hx2 hgzZ9_139_0), (zx_X16_work_106 hx1 hx2), (zx_X16_work_107 hx1 hx2)⟩).trans ((heq148 x (zx_X16_work_98 hx1 hx2)).trans (heq139 x (zx_X16_work_97 hx1 hx2))))))
                          have hb225 : w182 (m + 94) = some (.inr (0, 60, .inl ff)) := ((heq182 (m + 94) (by omega)).trans ((heq173 (m + 94) ⟨(zx_X16_work_110), (zx_X16_work_192 hgzZ9_139_0), (zx_X16_work_193 hgzZ9_139_0), (zx_X16_work_118), (zx_X16_work_119)⟩).trans ((heq148 (m + 94) (zx_X16_work_110)).trans (heq139 (m + 94) (zx_X16_work_109))))).trans hAf0
                          refine zr_retI (by decide +kernel) rfl ?_
                          rw [← hPost]; exact ⟨rfl, _, rfl, (((hsi139.tr hsi148).tr hsi173).tr hsi182), hoffend, ⟨_, _, hb216, hb217, hSl190, (zTi.m hb218), hb219, ⟨_, hb225, hff⟩, hb220, hb221, hb222, hb223, hb224, hI12, hI24, hI29, hI31, hIn⟩, _, rfl, trivial⟩
                      refine zp_if (i := .if_icmp .ne 7) (c := ¬ op = 1) (t := 172) (e := 168) (lv' := [(0, .ref m), (1, .int op), (4, .int to), (5, .ref (m + 7486 + 9 * s9.toNatClampNeg)), (6, .ref (m + 7486 + 9 * s8.toNatClampNeg))]) (st' := [.ref (m + 7486 + 9 * s8.toNatClampNeg), .ref (m + 83), .ref m]) (by decide +kernel) rfl (fun cc165 => ?_) (fun cc165 => ?_)
                      ·
                        have f227 := zneI cc165
                        rw [show (1 : Int32).toInt = 1 from by decide] at f227
                        refine zp_seg (pc' := 173) (lv' := [(0, .ref m), (1, .int op), (4, .int to), (5, .ref (m + 7486 + 9 * s9.toNatClampNeg)), (6, .ref (m + 7486 + 9 * s8.toNatClampNeg))]) (st' := [.int 0, .ref (m + 7486 + 9 * s8.toNatClampNeg), .ref (m + 83), .ref m]) [(172, .iconst 0)] (by decide +kernel) rfl ?_
                        have hl228 : (0 : Int32).toInt = 0 := by decide
                        exact (hJ173 0 (by first | assumption | omega | decide)).more (zfa1 rfl (zfa1 rfl (zfa0)))
                      ·
                        replace cc165 := Classical.not_not.mp cc165
                        have f230 := zeqI cc165
                        rw [show (1 : Int32).toInt = 1 from by decide] at f230
                        refine zp_seg (pc' := 173) (lv' := [(0, .ref m), (1, .int op), (4, .int to), (5, .ref (m + 7486 + 9 * s9.toNatClampNeg)), (6, .ref (m + 7486 + 9 * s8.toNatClampNeg))]) (st' := [.int 1, .ref (m + 7486 + 9 * s8.toNatClampNeg), .ref (m + 83), .ref m]) [(168, .iconst 1), (169, .goto 4)] (by decide +kernel) rfl ?_
                        have hl231 : (1 : Int32).toInt = 1 := by decide
                        exact (hJ173 1 (by first | assumption | omega | decide)).more (zfa1 rfl (zfa1 rfl (zfa0)))
                  refine zp_if (i := .if_icmp .le 22) (c := op ≤ 3) (t := 138) (e := 119) (lv' := [(0, .ref m), (1, .int op), (4, .int to), (5, .ref (m + 7486 + 9 * s9.toNatClampNeg)), (6, .ref (m + 7486 + 9 * s8.toNatClampNeg))]) (st' := []) (by decide +kernel) rfl (fun cc116 => ?_) (fun cc116 => ?_)
                  ·
                    have f233 := zleI cc116
                    rw [show (3 : Int32).toInt = 3 from by decide] at f233
                    exact (hJ138 trivial (by
                          refine ⟨fun e => ?_, fun e => ?_⟩
                          · first
                            | exact hop8 e
                            | exact ⟨hkk9.1.resolve_right (fun k => cc102 (hK10.trans k)), hkk9.2.resolve_right (fun k => cc111 (hK20.trans k))⟩
                            | (exfalso; omega)
                          · first
                            | exact hK10.symm.trans (hr121 (hrb121.resolve_left cc124))
                            | (exfalso; omega))).more (zfa1 rfl (zfa1 rfl (zfa1 rfl (zfa1 rfl (zfa1 rfl (zfa0))))))
                  ·
                    have f235 := znleI cc116
                    rw [show (3 : Int32).toInt = 3 from by decide] at f235
                    refine zp_seg (pc' := 121) (lv' := [(0, .ref m), (1, .int op), (4, .int to), (5, .ref (m + 7486 + 9 * s9.toNatClampNeg)), (6, .ref (m + 7486 + 9 * s8.toNatClampNeg))]) (st' := [.ref (m + 7486 + 9 * s9.toNatClampNeg)]) [(119, .aload 5)] (by decide +kernel) rfl ?_
                    refine zr_callS (idx := 637) (j := 364) (by decide +kernel) (by decide +kernel) (by decide) (show zMe 364 = some zq_X16_isPolynomial from rfl) rfl rfl (Nat.le_of_ble_eq_true rfl) rfl rfl (Nat.le_of_ble_eq_true rfl) (Nat.le_of_ble_eq_true rfl) (c_X16_isPolynomial (w := w) (m + 7486 + 9 * s9.toNatClampNeg) hT1 hAd1) (by omega) (fun v121 w121 hp121 => ?_)
                    obtain ⟨hpw121, r121, rfl, hrb121, hr121⟩ := hp121
                    replace hpw121 := hpw121.symm
                    subst hpw121
                    have kr121 := zrng r121
                    show zP _ _ _ _ [.int r121] _ _ _ _ _
                    refine zp_if (i := .ifCond .eq 11) (c := r121 = 0) (t := 135) (e := 127) (lv' := [(0, .ref m), (1, .int op), (4, .int to), (5, .ref (m + 7486 + 9 * s9.toNatClampNeg)), (6, .ref (m + 7486 + 9 * s8.toNatClampNeg))]) (st' := []) (by decide +kernel) rfl (fun cc124 => ?_) (fun cc124 => ?_)
                    ·
                      have f236 := zeqI cc124
                      rw [show (0 : Int32).toInt = 0 from by decide] at f236
                      refine zp_seg (pc' := 137) (lv' := [(0, .ref m), (1, .int op), (4, .int to), (5, .ref (m + 7486 + 9 * s9.toNatClampNeg)), (6, .ref (m + 7486 + 9 * s8.toNatClampNeg))]) (st' := [.int (Int32.ofInt (-3))]) [(135, .bipush (-3))] (by decide +kernel) rfl ?_
                      have hoffend : ∀ x, (x < m + 0 ∨ m + 0 + 8322 ≤ x) → w x = w x := fun x hx => rfl
                      refine zr_retI (by decide +kernel) rfl ?_
                      rw [← hPost]; exact ⟨rfl, _, rfl, zSI.rf, hoffend, ⟨_, _, hm, hR_m, hSl0, hMd0, hPl0, ⟨_, hAf0, hff⟩, hBo0, hBl0, hGa0, hGb0, hBd0, hI12, hI24, hI29, hI31, hIn⟩, _, rfl, trivial⟩
                    ·
                      have f238 := zneI cc124
                      rw [show (0 : Int32).toInt = 0 from by decide] at f238
                      refine zp_seg (pc' := 129) (lv' := [(0, .ref m), (1, .int op), (4, .int to), (5, .ref (m + 7486 + 9 * s9.toNatClampNeg)), (6, .ref (m + 7486 + 9 * s8.toNatClampNeg))]) (st' := [.ref (m + 7486 + 9 * s8.toNatClampNeg)]) [(127, .aload 6)] (by decide +kernel) rfl ?_
                      refine zr_callS (idx := 637) (j := 364) (by decide +kernel) (by decide +kernel) (by decide) (show zMe 364 = some zq_X16_isPolynomial from rfl) rfl rfl (Nat.le_of_ble_eq_true rfl) rfl rfl (Nat.le_of_ble_eq_true rfl) (Nat.le_of_ble_eq_true rfl) (c_X16_isPolynomial (w := w) (m + 7486 + 9 * s8.toNatClampNeg) hT2 hAd2) (by omega) (fun v129 w129 hp129 => ?_)
                      obtain ⟨hpw129, r129, rfl, hrb129, hr129⟩ := hp129
                      replace hpw129 := hpw129.symm
                      subst hpw129
                      have kr129 := zrng r129
                      show zP _ _ _ _ [.int r129] _ _ _ _ _
                      refine zp_if (i := .ifCond .ne 6) (c := ¬ r129 = 0) (t := 138) (e := 135) (lv' := [(0, .ref m), (1, .int op), (4, .int to), (5, .ref (m + 7486 + 9 * s9.toNatClampNeg)), (6, .ref (m + 7486 + 9 * s8.toNatClampNeg))]) (st' := []) (by decide +kernel) rfl (fun cc132 => ?_) (fun cc132 => ?_)
                      ·
                        have f239 := zneI cc132
                        rw [show (0 : Int32).toInt = 0 from by decide] at f239
                        exact (hJ138 trivial (by
                              refine ⟨fun e => ?_, fun e => ?_⟩
                              · first
                                | exact hop8 e
                                | exact ⟨hkk9.1.resolve_right (fun k => cc102 (hK10.trans k)), hkk9.2.resolve_right (fun k => cc111 (hK20.trans k))⟩
                                | (exfalso; omega)
                              · first
                                | exact hK10.symm.trans (hr121 (hrb121.resolve_left cc124))
                                | (exfalso; omega))).more (zfa1 rfl (zfa1 rfl (zfa1 rfl (zfa1 rfl (zfa1 rfl (zfa0))))))
                      ·
                        replace cc132 := Classical.not_not.mp cc132
                        have f240 := zeqI cc132
                        rw [show (0 : Int32).toInt = 0 from by decide] at f240
                        refine zp_seg (pc' := 137) (lv' := [(0, .ref m), (1, .int op), (4, .int to), (5, .ref (m + 7486 + 9 * s9.toNatClampNeg)), (6, .ref (m + 7486 + 9 * s8.toNatClampNeg))]) (st' := [.int (Int32.ofInt (-3))]) [(135, .bipush (-3))] (by decide +kernel) rfl ?_
                        have hoffend : ∀ x, (x < m + 0 ∨ m + 0 + 8322 ≤ x) → w x = w x := fun x hx => rfl
                        refine zr_retI (by decide +kernel) rfl ?_
                        rw [← hPost]; exact ⟨rfl, _, rfl, zSI.rf, hoffend, ⟨_, _, hm, hR_m, hSl0, hMd0, hPl0, ⟨_, hAf0, hff⟩, hBo0, hBl0, hGa0, hGb0, hBd0, hI12, hI24, hI29, hI31, hIn⟩, _, rfl, trivial⟩
                refine zp_if (i := .if_icmp .ge 21) (c := 2 ≤ op) (t := 114) (e := 96) (lv' := [(0, .ref m), (1, .int op), (4, .int to), (5, .ref (m + 7486 + 9 * s9.toNatClampNeg)), (6, .ref (m + 7486 + 9 * s8.toNatClampNeg))]) (st' := []) (by decide +kernel) rfl (fun cc93 => ?_) (fun cc93 => ?_)
                ·
                  have f243 := zleI cc93
                  rw [show (2 : Int32).toInt = 2 from by decide] at f243
                  exact (hJ114 trivial (by
                        intro e
                        first
                        | exact ⟨hkk9.1.resolve_right (fun k => cc102 (hK10.trans k)), hkk9.2.resolve_right (fun k => cc111 (hK20.trans k))⟩
                        | (exfalso; omega))).more (zfa1 rfl (zfa1 rfl (zfa1 rfl (zfa1 rfl (zfa1 rfl (zfa0))))))
                ·
                  have f245 := znleI cc93
                  rw [show (2 : Int32).toInt = 2 from by decide] at f245
                  refine zp_seg (pc' := 98) (lv' := [(0, .ref m), (1, .int op), (4, .int to), (5, .ref (m + 7486 + 9 * s9.toNatClampNeg)), (6, .ref (m + 7486 + 9 * s8.toNatClampNeg))]) (st' := [.ref (m + 7486 + 9 * s9.toNatClampNeg)]) [(96, .aload 5)] (by decide +kernel) rfl ?_
                  refine zr_get (idx := 202) (k := 0) (v := .int (g1 0)) (by decide +kernel) (by decide +kernel) hT1 rfl ?_
                  refine zp_seg (pc' := 102) (lv' := [(0, .ref m), (1, .int op), (4, .int to), (5, .ref (m + 7486 + 9 * s9.toNatClampNeg)), (6, .ref (m + 7486 + 9 * s8.toNatClampNeg))]) (st' := [.int 2, .int (g1 0)]) [(101, .iconst 2)] (by decide +kernel) rfl ?_
                  refine zp_if (i := .if_icmp .eq 33) (c := (g1 0) = 2) (t := 135) (e := 105) (lv' := [(0, .ref m), (1, .int op), (4, .int to), (5, .ref (m + 7486 + 9 * s9.toNatClampNeg)), (6, .ref (m + 7486 + 9 * s8.toNatClampNeg))]) (st' := []) (by decide +kernel) rfl (fun cc102 => ?_) (fun cc102 => ?_)
                  ·
                    have k246 := zrng (g1 0)
                    have f247 := zeqI cc102
                    rw [show (2 : Int32).toInt = 2 from by decide] at f247
                    refine zp_seg (pc' := 137) (lv' := [(0, .ref m), (1, .int op), (4, .int to), (5, .ref (m + 7486 + 9 * s9.toNatClampNeg)), (6, .ref (m + 7486 + 9 * s8.toNatClampNeg))]) (st' := [.int (Int32.ofInt (-3))]) [(135, .bipush (-3))] (by decide +kernel) rfl ?_
                    have hoffend : ∀ x, (x < m + 0 ∨ m + 0 + 8322 ≤ x) → w x = w x := fun x hx => rfl
                    refine zr_retI (by decide +kernel) rfl ?_
                    rw [← hPost]; exact ⟨rfl, _, rfl, zSI.rf, hoffend, ⟨_, _, hm, hR_m, hSl0, hMd0, hPl0, ⟨_, hAf0, hff⟩, hBo0, hBl0, hGa0, hGb0, hBd0, hI12, hI24, hI29, hI31, hIn⟩, _, rfl, trivial⟩
                  ·
                    have k249 := zrng (g1 0)
                    have f250 := zneI cc102
                    rw [show (2 : Int32).toInt = 2 from by decide] at f250
                    refine zp_seg (pc' := 107) (lv' := [(0, .ref m), (1, .int op), (4, .int to), (5, .ref (m + 7486 + 9 * s9.toNatClampNeg)), (6, .ref (m + 7486 + 9 * s8.toNatClampNeg))]) (st' := [.ref (m + 7486 + 9 * s8.toNatClampNeg)]) [(105, .aload 6)] (by decide +kernel) rfl ?_
                    refine zr_get (idx := 202) (k := 0) (v := .int (g2 0)) (by decide +kernel) (by decide +kernel) hT2 rfl ?_
                    refine zp_seg (pc' := 111) (lv' := [(0, .ref m), (1, .int op), (4, .int to), (5, .ref (m + 7486 + 9 * s9.toNatClampNeg)), (6, .ref (m + 7486 + 9 * s8.toNatClampNeg))]) (st' := [.int 2, .int (g2 0)]) [(110, .iconst 2)] (by decide +kernel) rfl ?_
                    refine zp_if (i := .if_icmp .eq 24) (c := (g2 0) = 2) (t := 135) (e := 114) (lv' := [(0, .ref m), (1, .int op), (4, .int to), (5, .ref (m + 7486 + 9 * s9.toNatClampNeg)), (6, .ref (m + 7486 + 9 * s8.toNatClampNeg))]) (st' := []) (by decide +kernel) rfl (fun cc111 => ?_) (fun cc111 => ?_)
                    ·
                      have k251 := zrng (g2 0)
                      have f252 := zeqI cc111
                      rw [show (2 : Int32).toInt = 2 from by decide] at f252
                      refine zp_seg (pc' := 137) (lv' := [(0, .ref m), (1, .int op), (4, .int to), (5, .ref (m + 7486 + 9 * s9.toNatClampNeg)), (6, .ref (m + 7486 + 9 * s8.toNatClampNeg))]) (st' := [.int (Int32.ofInt (-3))]) [(135, .bipush (-3))] (by decide +kernel) rfl ?_
                      have hoffend : ∀ x, (x < m + 0 ∨ m + 0 + 8322 ≤ x) → w x = w x := fun x hx => rfl
                      refine zr_retI (by decide +kernel) rfl ?_
                      rw [← hPost]; exact ⟨rfl, _, rfl, zSI.rf, hoffend, ⟨_, _, hm, hR_m, hSl0, hMd0, hPl0, ⟨_, hAf0, hff⟩, hBo0, hBl0, hGa0, hGb0, hBd0, hI12, hI24, hI29, hI31, hIn⟩, _, rfl, trivial⟩
                    ·
                      have k254 := zrng (g2 0)
                      have f255 := zneI cc111
                      rw [show (2 : Int32).toInt = 2 from by decide] at f255
                      exact (hJ114 trivial (by
                            intro e
                            first
                            | exact ⟨hkk9.1.resolve_right (fun k => cc102 (hK10.trans k)), hkk9.2.resolve_right (fun k => cc111 (hK20.trans k))⟩
                            | (exfalso; omega))).more (zfa1 rfl (zfa1 rfl (zfa1 rfl (zfa1 rfl (zfa1 rfl (zfa0))))))
              ·
                have f257 := znleI cc86
                rw [show (6 : Int32).toInt = 6 from by decide] at f257
                refine zp_seg (pc' := 90) (lv' := [(0, .ref m), (1, .int op), (4, .int to), (5, .ref (m + 7486 + 9 * s9.toNatClampNeg)), (6, .ref (m + 7486 + 9 * s8.toNatClampNeg))]) (st' := [.int (Int32.ofInt (-1))]) [(89, .iconst (-1))] (by decide +kernel) rfl ?_
                have hoffend : ∀ x, (x < m + 0 ∨ m + 0 + 8322 ≤ x) → w x = w x := fun x hx => rfl
                refine zr_retI (by decide +kernel) rfl ?_
                rw [← hPost]; exact ⟨rfl, _, rfl, zSI.rf, hoffend, ⟨_, _, hm, hR_m, hSl0, hMd0, hPl0, ⟨_, hAf0, hff⟩, hBo0, hBl0, hGa0, hGb0, hBd0, hI12, hI24, hI29, hI31, hIn⟩, _, rfl, trivial⟩
          refine zp_if (i := .if_icmp .eq 15) (c := (g2 0) = 1) (t := 79) (e := 67) (lv' := [(0, .ref m), (1, .int op), (4, .int to), (5, .ref (m + 7486 + 9 * s9.toNatClampNeg)), (6, .ref (m + 7486 + 9 * s8.toNatClampNeg))]) (st' := []) (by decide +kernel) rfl (fun cc64 => ?_) (fun cc64 => ?_)
          ·
            have k259 := zrng (g2 0)
            have f261 := zeqI cc64
            rw [show (1 : Int32).toInt = 1 from by decide] at f261
            exact (hJ79 trivial (by
                  exact ⟨hka9, by first | exact Or.inl (hK20.symm.trans cc64) | exact Or.inr (hK20.symm.trans cc73)⟩)).more (zfa1 rfl (zfa1 rfl (zfa1 rfl (zfa1 rfl (zfa1 rfl (zfa0))))))
          ·
            have k262 := zrng (g2 0)
            have f264 := zneI cc64
            rw [show (1 : Int32).toInt = 1 from by decide] at f264
            refine zp_seg (pc' := 69) (lv' := [(0, .ref m), (1, .int op), (4, .int to), (5, .ref (m + 7486 + 9 * s9.toNatClampNeg)), (6, .ref (m + 7486 + 9 * s8.toNatClampNeg))]) (st' := [.ref (m + 7486 + 9 * s8.toNatClampNeg)]) [(67, .aload 6)] (by decide +kernel) rfl ?_
            refine zr_get (idx := 202) (k := 0) (v := .int (g2 0)) (by decide +kernel) (by decide +kernel) hT2 rfl ?_
            refine zp_seg (pc' := 73) (lv' := [(0, .ref m), (1, .int op), (4, .int to), (5, .ref (m + 7486 + 9 * s9.toNatClampNeg)), (6, .ref (m + 7486 + 9 * s8.toNatClampNeg))]) (st' := [.int 2, .int (g2 0)]) [(72, .iconst 2)] (by decide +kernel) rfl ?_
            refine zp_if (i := .if_icmp .eq 6) (c := (g2 0) = 2) (t := 79) (e := 76) (lv' := [(0, .ref m), (1, .int op), (4, .int to), (5, .ref (m + 7486 + 9 * s9.toNatClampNeg)), (6, .ref (m + 7486 + 9 * s8.toNatClampNeg))]) (st' := []) (by decide +kernel) rfl (fun cc73 => ?_) (fun cc73 => ?_)
            ·
              have f266 := zeqI cc73
              rw [show (2 : Int32).toInt = 2 from by decide] at f266
              exact (hJ79 trivial (by
                    exact ⟨hka9, by first | exact Or.inl (hK20.symm.trans cc64) | exact Or.inr (hK20.symm.trans cc73)⟩)).more (zfa1 rfl (zfa1 rfl (zfa1 rfl (zfa1 rfl (zfa1 rfl (zfa0))))))
            ·
              have f268 := zneI cc73
              rw [show (2 : Int32).toInt = 2 from by decide] at f268
              refine zp_seg (pc' := 78) (lv' := [(0, .ref m), (1, .int op), (4, .int to), (5, .ref (m + 7486 + 9 * s9.toNatClampNeg)), (6, .ref (m + 7486 + 9 * s8.toNatClampNeg))]) (st' := [.int (Int32.ofInt (-3))]) [(76, .bipush (-3))] (by decide +kernel) rfl ?_
              have hoffend : ∀ x, (x < m + 0 ∨ m + 0 + 8322 ≤ x) → w x = w x := fun x hx => rfl
              refine zr_retI (by decide +kernel) rfl ?_
              rw [← hPost]; exact ⟨rfl, _, rfl, zSI.rf, hoffend, ⟨_, _, hm, hR_m, hSl0, hMd0, hPl0, ⟨_, hAf0, hff⟩, hBo0, hBl0, hGa0, hGb0, hBd0, hI12, hI24, hI29, hI31, hIn⟩, _, rfl, trivial⟩
        refine zp_if (i := .if_icmp .eq 12) (c := (g1 0) = 1) (t := 58) (e := 49) (lv' := [(6, .ref (m + 7486 + 9 * s8.toNatClampNeg)), (5, .ref (m + 7486 + 9 * s9.toNatClampNeg)), (0, .ref m), (1, .int op), (2, .int s9), (3, .int s8), (4, .int to)]) (st' := []) (by decide +kernel) rfl (fun cc46 => ?_) (fun cc46 => ?_)
        ·
          have k270 := zrng (g1 0)
          have f272 := zeqI cc46
          rw [show (1 : Int32).toInt = 1 from by decide] at f272
          exact (hJ58 trivial (by
                first | exact Or.inl (hK10.symm.trans cc46) | exact Or.inr (hK10.symm.trans cc55))).more (zfa1 rfl (zfa1 rfl (zfa1 rfl (zfa1 rfl (zfa1 rfl (zfa0))))))
        ·
          have k273 := zrng (g1 0)
          have f275 := zneI cc46
          rw [show (1 : Int32).toInt = 1 from by decide] at f275
          refine zp_seg (pc' := 51) (lv' := [(6, .ref (m + 7486 + 9 * s8.toNatClampNeg)), (5, .ref (m + 7486 + 9 * s9.toNatClampNeg)), (0, .ref m), (1, .int op), (2, .int s9), (3, .int s8), (4, .int to)]) (st' := [.ref (m + 7486 + 9 * s9.toNatClampNeg)]) [(49, .aload 5)] (by decide +kernel) rfl ?_
          refine zr_get (idx := 202) (k := 0) (v := .int (g1 0)) (by decide +kernel) (by decide +kernel) hT1 rfl ?_
          refine zp_seg (pc' := 55) (lv' := [(6, .ref (m + 7486 + 9 * s8.toNatClampNeg)), (5, .ref (m + 7486 + 9 * s9.toNatClampNeg)), (0, .ref m), (1, .int op), (2, .int s9), (3, .int s8), (4, .int to)]) (st' := [.int 2, .int (g1 0)]) [(54, .iconst 2)] (by decide +kernel) rfl ?_
          refine zp_if (i := .if_icmp .ne 21) (c := ¬ (g1 0) = 2) (t := 76) (e := 58) (lv' := [(6, .ref (m + 7486 + 9 * s8.toNatClampNeg)), (5, .ref (m + 7486 + 9 * s9.toNatClampNeg)), (0, .ref m), (1, .int op), (2, .int s9), (3, .int s8), (4, .int to)]) (st' := []) (by decide +kernel) rfl (fun cc55 => ?_) (fun cc55 => ?_)
          ·
            have f277 := zneI cc55
            rw [show (2 : Int32).toInt = 2 from by decide] at f277
            refine zp_seg (pc' := 78) (lv' := [(6, .ref (m + 7486 + 9 * s8.toNatClampNeg)), (5, .ref (m + 7486 + 9 * s9.toNatClampNeg)), (0, .ref m), (1, .int op), (2, .int s9), (3, .int s8), (4, .int to)]) (st' := [.int (Int32.ofInt (-3))]) [(76, .bipush (-3))] (by decide +kernel) rfl ?_
            have hoffend : ∀ x, (x < m + 0 ∨ m + 0 + 8322 ≤ x) → w x = w x := fun x hx => rfl
            refine zr_retI (by decide +kernel) rfl ?_
            rw [← hPost]; exact ⟨rfl, _, rfl, zSI.rf, hoffend, ⟨_, _, hm, hR_m, hSl0, hMd0, hPl0, ⟨_, hAf0, hff⟩, hBo0, hBl0, hGa0, hGb0, hBd0, hI12, hI24, hI29, hI31, hIn⟩, _, rfl, trivial⟩
          ·
            replace cc55 := Classical.not_not.mp cc55
            have f280 := zeqI cc55
            rw [show (2 : Int32).toInt = 2 from by decide] at f280
            exact (hJ58 trivial (by
                  first | exact Or.inl (hK10.symm.trans cc46) | exact Or.inr (hK10.symm.trans cc55))).more (zfa1 rfl (zfa1 rfl (zfa1 rfl (zfa1 rfl (zfa1 rfl (zfa0))))))
      ·
        replace cc19 := Classical.not_not.mp cc19
        have f281 := zeqI cc19
        rw [show (0 : Int32).toInt = 0 from by decide] at f281
        refine zp_seg (pc' := 23) (lv' := [(0, .ref m), (1, .int op), (2, .int s9), (3, .int s8), (4, .int to)]) (st' := [.int (Int32.ofInt (-1))]) [(22, .iconst (-1))] (by decide +kernel) rfl ?_
        have hoffend : ∀ x, (x < m + 0 ∨ m + 0 + 8322 ≤ x) → w x = w x := fun x hx => rfl
        refine zr_retI (by decide +kernel) rfl ?_
        rw [← hPost]; exact ⟨rfl, _, rfl, zSI.rf, hoffend, ⟨_, _, hm, hR_m, hSl0, hMd0, hPl0, ⟨_, hAf0, hff⟩, hBo0, hBl0, hGa0, hGb0, hBd0, hI12, hI24, hI29, hI31, hIn⟩, _, rfl, trivial⟩
