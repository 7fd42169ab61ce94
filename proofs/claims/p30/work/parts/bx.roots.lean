theorem zx_X16_roots_0 {GZ9_45_0 m x : Nat} (h0 : m + 276 + 2 * GZ9_45_0 ≤ x) (h1 : x < m + 276 + 2 * GZ9_45_0 + 2) (h2 : GZ9_45_0 = 0) : x < m ∨ m + 1 ≤ x := by omega
theorem zx_X16_roots_1 {GZ9_45_0 GZ9_45_1 m x : Nat} (h0 : m + 276 + 2 * GZ9_45_0 ≤ x) (h1 : x < m + 276 + 2 * GZ9_45_0 + 2) (h2 : GZ9_45_0 = 0) (h3 : GZ9_45_1 = 1) : x < m + 276 + 2 * GZ9_45_1 ∨ m + 276 + 2 * GZ9_45_1 + 2 ≤ x := by omega
theorem zx_X16_roots_2 {GZ9_45_0 GZ9_45_2 m x : Nat} (h0 : m + 276 + 2 * GZ9_45_0 ≤ x) (h1 : x < m + 276 + 2 * GZ9_45_0 + 2) (h2 : GZ9_45_0 = 0) (h3 : GZ9_45_2 = 2) : x < m + 276 + 2 * GZ9_45_2 ∨ m + 276 + 2 * GZ9_45_2 + 2 ≤ x := by omega
theorem zx_X16_roots_3 {GZ9_45_0 GZ9_45_3 m x : Nat} (h0 : m + 276 + 2 * GZ9_45_0 ≤ x) (h1 : x < m + 276 + 2 * GZ9_45_0 + 2) (h2 : GZ9_45_0 = 0) (h3 : GZ9_45_3 = 3) : x < m + 276 + 2 * GZ9_45_3 ∨ m + 276 + 2 * GZ9_45_3 + 2 ≤ x := by omega
theorem zx_X16_roots_4 {GZ9_45_0 GZ9_45_4 m x : Nat} (h0 : m + 276 + 2 * GZ9_45_0 ≤ x) (h1 : x < m + 276 + 2 * GZ9_45_0 + 2) (h2 : GZ9_45_0 = 0) (h3 : GZ9_45_4 = 4) : x < m + 276 + 2 * GZ9_45_4 ∨ m + 276 + 2 * GZ9_45_4 + 2 ≤ x := by omega
theorem zx_X16_roots_5 {GZ9_45_0 m : Nat} (h0 : GZ9_45_0 = 0) : m < m + 276 + 2 * GZ9_45_0 ∨ m + 276 + 2 * GZ9_45_0 + 2 ≤ m := by omega
theorem zx_X16_roots_6 {GZ9_45_0 m x : Nat} (h0 : m + 276 + 2 * GZ9_45_0 ≤ x) (h1 : x < m + 276 + 2 * GZ9_45_0 + 2) (h2 : GZ9_45_0 = 0) : x ≠ m := by omega
theorem zx_X16_roots_7 {m x : Nat} (h0 : x < m + 0 ∨ m + 0 + 8322 ≤ x) : x < m ∨ m + 1 ≤ x := by omega
theorem zx_X16_roots_8 {GZ9_45_0 m x : Nat} (h0 : x < m + 0 ∨ m + 0 + 8322 ≤ x) (h1 : GZ9_45_0 = 0) : x < m + 276 + 2 * GZ9_45_0 ∨ m + 276 + 2 * GZ9_45_0 + 2 ≤ x := by omega
theorem zx_X16_roots_9 {GZ9_45_1 m x : Nat} (h0 : x < m + 0 ∨ m + 0 + 8322 ≤ x) (h1 : GZ9_45_1 = 1) : x < m + 276 + 2 * GZ9_45_1 ∨ m + 276 + 2 * GZ9_45_1 + 2 ≤ x := by omega
theorem zx_X16_roots_10 {GZ9_45_2 m x : Nat} (h0 : x < m + 0 ∨ m + 0 + 8322 ≤ x) (h1 : GZ9_45_2 = 2) : x < m + 276 + 2 * GZ9_45_2 ∨ m + 276 + 2 * GZ9_45_2 + 2 ≤ x := by omega
theorem zx_X16_roots_11 {GZ9_45_3 m x : Nat} (h0 : x < m + 0 ∨ m + 0 + 8322 ≤ x) (h1 : GZ9_45_3 = 3) : x < m + 276 + 2 * GZ9_45_3 ∨ m + 276 + 2 * GZ9_45_3 + 2 ≤ x := by omega
theorem zx_X16_roots_12 {GZ9_45_4 m x : Nat} (h0 : x < m + 0 ∨ m + 0 + 8322 ≤ x) (h1 : GZ9_45_4 = 4) : x < m + 276 + 2 * GZ9_45_4 ∨ m + 276 + 2 * GZ9_45_4 + 2 ≤ x := by omega
theorem zx_X16_roots_13 {m x : Nat} (h0 : x < m + 0 ∨ m + 0 + 8322 ≤ x) : x ≠ m := by omega
theorem zx_X16_roots_14 {m x : Nat} (h0 : x < m + 0 ∨ m + 0 + 8322 ≤ x) : x < m + 274 ∨ m + 274 + 1 ≤ x := by omega
theorem zx_X16_roots_15 {m x : Nat} (h0 : x < m + 0 ∨ m + 0 + 8322 ≤ x) : x < m + 3 ∨ m + 3 + 1 ≤ x := by omega
theorem zx_X16_roots_16 {GZ9_45_1 m x : Nat} (h0 : x < m + 0 ∨ m + 0 + 8322 ≤ x) (h1 : GZ9_45_1 = 1) : x < m + 276 + 2 * GZ9_45_1 ∨ m + 276 + 2 * GZ9_45_1 + 318 ≤ x := by omega
theorem zx_X16_roots_17 {m x : Nat} (h0 : x < m + 0 ∨ m + 0 + 8322 ≤ x) : x < m + 95 ∨ m + 95 + 1 ≤ x := by omega
theorem zx_X16_roots_18 {GZ9_45_0 m x : Nat} (h0 : x < m + 0 ∨ m + 0 + 8322 ≤ x) (h1 : GZ9_45_0 = 0) : x < m + 276 + 2 * GZ9_45_0 ∨ m + 276 + 2 * GZ9_45_0 + 10 ≤ x := by omega
theorem zx_X16_roots_19 {m x : Nat} (h0 : m + 7486 ≤ x) (h1 : x < m + 7486 + 108) : x < m ∨ m + 1 ≤ x := by omega
theorem zx_X16_roots_20 {GZ9_45_0 m x : Nat} (h0 : m + 7486 ≤ x) (h1 : x < m + 7486 + 108) (h2 : GZ9_45_0 = 0) : x < m + 276 + 2 * GZ9_45_0 ∨ m + 276 + 2 * GZ9_45_0 + 2 ≤ x := by omega
theorem zx_X16_roots_21 {GZ9_45_1 m x : Nat} (h0 : m + 7486 ≤ x) (h1 : x < m + 7486 + 108) (h2 : GZ9_45_1 = 1) : x < m + 276 + 2 * GZ9_45_1 ∨ m + 276 + 2 * GZ9_45_1 + 2 ≤ x := by omega
theorem zx_X16_roots_22 {GZ9_45_2 m x : Nat} (h0 : m + 7486 ≤ x) (h1 : x < m + 7486 + 108) (h2 : GZ9_45_2 = 2) : x < m + 276 + 2 * GZ9_45_2 ∨ m + 276 + 2 * GZ9_45_2 + 2 ≤ x := by omega
theorem zx_X16_roots_23 {GZ9_45_3 m x : Nat} (h0 : m + 7486 ≤ x) (h1 : x < m + 7486 + 108) (h2 : GZ9_45_3 = 3) : x < m + 276 + 2 * GZ9_45_3 ∨ m + 276 + 2 * GZ9_45_3 + 2 ≤ x := by omega
theorem zx_X16_roots_24 {GZ9_45_4 m x : Nat} (h0 : m + 7486 ≤ x) (h1 : x < m + 7486 + 108) (h2 : GZ9_45_4 = 4) : x < m + 276 + 2 * GZ9_45_4 ∨ m + 276 + 2 * GZ9_45_4 + 2 ≤ x := by omega
theorem zx_X16_roots_25 {m x : Nat} (h0 : m + 7486 ≤ x) (h1 : x < m + 7486 + 108) : x ≠ m := by omega
theorem zx_X16_roots_26 {m x : Nat} (h0 : m + 7486 ≤ x) (h1 : x < m + 7486 + 108) : x < m + 274 ∨ m + 274 + 1 ≤ x := by omega
theorem zx_X16_roots_27 {m x : Nat} (h0 : m + 7486 ≤ x) (h1 : x < m + 7486 + 108) : x < m + 3 ∨ m + 3 + 1 ≤ x := by omega
theorem zx_X16_roots_28 {GZ9_45_1 m x : Nat} (h0 : m + 7486 ≤ x) (h1 : x < m + 7486 + 108) (h2 : GZ9_45_1 = 1) : x < m + 276 + 2 * GZ9_45_1 ∨ m + 276 + 2 * GZ9_45_1 + 318 ≤ x := by omega
theorem zx_X16_roots_29 {m x : Nat} (h0 : m + 7486 ≤ x) (h1 : x < m + 7486 + 108) : x < m + 95 ∨ m + 95 + 1 ≤ x := by omega
theorem zx_X16_roots_30 {GZ9_45_0 m x : Nat} (h0 : m + 7486 ≤ x) (h1 : x < m + 7486 + 108) (h2 : GZ9_45_0 = 0) : x < m + 276 + 2 * GZ9_45_0 ∨ m + 276 + 2 * GZ9_45_0 + 10 ≤ x := by omega
theorem zx_X16_roots_31 {m x : Nat} (h0 : m + 83 ≤ x) (h1 : x < m + 83 + 9) : x < m ∨ m + 1 ≤ x := by omega
theorem zx_X16_roots_32 {GZ9_45_0 m x : Nat} (h0 : m + 83 ≤ x) (h1 : x < m + 83 + 9) (h2 : GZ9_45_0 = 0) : x < m + 276 + 2 * GZ9_45_0 ∨ m + 276 + 2 * GZ9_45_0 + 2 ≤ x := by omega
theorem zx_X16_roots_33 {GZ9_45_1 m x : Nat} (h0 : m + 83 ≤ x) (h1 : x < m + 83 + 9) (h2 : GZ9_45_1 = 1) : x < m + 276 + 2 * GZ9_45_1 ∨ m + 276 + 2 * GZ9_45_1 + 2 ≤ x := by omega
theorem zx_X16_roots_34 {GZ9_45_2 m x : Nat} (h0 : m + 83 ≤ x) (h1 : x < m + 83 + 9) (h2 : GZ9_45_2 = 2) : x < m + 276 + 2 * GZ9_45_2 ∨ m + 276 + 2 * GZ9_45_2 + 2 ≤ x := by omega
theorem zx_X16_roots_35 {GZ9_45_3 m x : Nat} (h0 : m + 83 ≤ x) (h1 : x < m + 83 + 9) (h2 : GZ9_45_3 = 3) : x < m + 276 + 2 * GZ9_45_3 ∨ m + 276 + 2 * GZ9_45_3 + 2 ≤ x := by omega
theorem zx_X16_roots_36 {GZ9_45_4 m x : Nat} (h0 : m + 83 ≤ x) (h1 : x < m + 83 + 9) (h2 : GZ9_45_4 = 4) : x < m + 276 + 2 * GZ9_45_4 ∨ m + 276 + 2 * GZ9_45_4 + 2 ≤ x := by omega
theorem zx_X16_roots_37 {m x : Nat} (h0 : m + 83 ≤ x) (h1 : x < m + 83 + 9) : x ≠ m := by omega
theorem zx_X16_roots_38 {m x : Nat} (h0 : m + 83 ≤ x) (h1 : x < m + 83 + 9) : x < m + 274 ∨ m + 274 + 1 ≤ x := by omega
theorem zx_X16_roots_39 {m x : Nat} (h0 : m + 83 ≤ x) (h1 : x < m + 83 + 9) : x < m + 3 ∨ m + 3 + 1 ≤ x := by omega
theorem zx_X16_roots_40 {GZ9_45_1 m x : Nat} (h0 : m + 83 ≤ x) (h1 : x < m + 83 + 9) (h2 : GZ9_45_1 = 1) : x < m + 276 + 2 * GZ9_45_1 ∨ m + 276 + 2 * GZ9_45_1 + 318 ≤ x := by omega
theorem zx_X16_roots_41 {m x : Nat} (h0 : m + 83 ≤ x) (h1 : x < m + 83 + 9) : x < m + 95 ∨ m + 95 + 1 ≤ x := by omega
theorem zx_X16_roots_42 {GZ9_45_0 m x : Nat} (h0 : m + 83 ≤ x) (h1 : x < m + 83 + 9) (h2 : GZ9_45_0 = 0) : x < m + 276 + 2 * GZ9_45_0 ∨ m + 276 + 2 * GZ9_45_0 + 10 ≤ x := by omega
theorem zx_X16_roots_43 {m x : Nat} (h0 : m + 6316 ≤ x) (h1 : x < m + 6316 + 1170) : x < m ∨ m + 1 ≤ x := by omega
theorem zx_X16_roots_44 {GZ9_45_0 m x : Nat} (h0 : m + 6316 ≤ x) (h1 : x < m + 6316 + 1170) (h2 : GZ9_45_0 = 0) : x < m + 276 + 2 * GZ9_45_0 ∨ m + 276 + 2 * GZ9_45_0 + 2 ≤ x := by omega
theorem zx_X16_roots_45 {GZ9_45_1 m x : Nat} (h0 : m + 6316 ≤ x) (h1 : x < m + 6316 + 1170) (h2 : GZ9_45_1 = 1) : x < m + 276 + 2 * GZ9_45_1 ∨ m + 276 + 2 * GZ9_45_1 + 2 ≤ x := by omega
theorem zx_X16_roots_46 {GZ9_45_2 m x : Nat} (h0 : m + 6316 ≤ x) (h1 : x < m + 6316 + 1170) (h2 : GZ9_45_2 = 2) : x < m + 276 + 2 * GZ9_45_2 ∨ m + 276 + 2 * GZ9_45_2 + 2 ≤ x := by omega
theorem zx_X16_roots_47 {GZ9_45_3 m x : Nat} (h0 : m + 6316 ≤ x) (h1 : x < m + 6316 + 1170) (h2 : GZ9_45_3 = 3) : x < m + 276 + 2 * GZ9_45_3 ∨ m + 276 + 2 * GZ9_45_3 + 2 ≤ x := by omega
theorem zx_X16_roots_48 {GZ9_45_4 m x : Nat} (h0 : m + 6316 ≤ x) (h1 : x < m + 6316 + 1170) (h2 : GZ9_45_4 = 4) : x < m + 276 + 2 * GZ9_45_4 ∨ m + 276 + 2 * GZ9_45_4 + 2 ≤ x := by omega
theorem zx_X16_roots_49 {m x : Nat} (h0 : m + 6316 ≤ x) (h1 : x < m + 6316 + 1170) : x ≠ m := by omega
theorem zx_X16_roots_50 {m x : Nat} (h0 : m + 6316 ≤ x) (h1 : x < m + 6316 + 1170) : x < m + 274 ∨ m + 274 + 1 ≤ x := by omega
theorem zx_X16_roots_51 {m x : Nat} (h0 : m + 6316 ≤ x) (h1 : x < m + 6316 + 1170) : x < m + 3 ∨ m + 3 + 1 ≤ x := by omega
theorem zx_X16_roots_52 {GZ9_45_1 m x : Nat} (h0 : m + 6316 ≤ x) (h1 : x < m + 6316 + 1170) (h2 : GZ9_45_1 = 1) : x < m + 276 + 2 * GZ9_45_1 ∨ m + 276 + 2 * GZ9_45_1 + 318 ≤ x := by omega
theorem zx_X16_roots_53 {m x : Nat} (h0 : m + 6316 ≤ x) (h1 : x < m + 6316 + 1170) : x < m + 95 ∨ m + 95 + 1 ≤ x := by omega
theorem zx_X16_roots_54 {GZ9_45_0 m x : Nat} (h0 : m + 6316 ≤ x) (h1 : x < m + 6316 + 1170) (h2 : GZ9_45_0 = 0) : x < m + 276 + 2 * GZ9_45_0 ∨ m + 276 + 2 * GZ9_45_0 + 10 ≤ x := by omega
theorem zx_X16_roots_55 {m x : Nat} (h0 : m + 92 ≤ x) (h1 : x < m + 92 + 1) : x < m ∨ m + 1 ≤ x := by omega
theorem zx_X16_roots_56 {GZ9_45_0 m x : Nat} (h0 : m + 92 ≤ x) (h1 : x < m + 92 + 1) (h2 : GZ9_45_0 = 0) : x < m + 276 + 2 * GZ9_45_0 ∨ m + 276 + 2 * GZ9_45_0 + 2 ≤ x := by omega
theorem zx_X16_roots_57 {GZ9_45_1 m x : Nat} (h0 : m + 92 ≤ x) (h1 : x < m + 92 + 1) (h2 : GZ9_45_1 = 1) : x < m + 276 + 2 * GZ9_45_1 ∨ m + 276 + 2 * GZ9_45_1 + 2 ≤ x := by omega
theorem zx_X16_roots_58 {GZ9_45_2 m x : Nat} (h0 : m + 92 ≤ x) (h1 : x < m + 92 + 1) (h2 : GZ9_45_2 = 2) : x < m + 276 + 2 * GZ9_45_2 ∨ m + 276 + 2 * GZ9_45_2 + 2 ≤ x := by omega
theorem zx_X16_roots_59 {GZ9_45_3 m x : Nat} (h0 : m + 92 ≤ x) (h1 : x < m + 92 + 1) (h2 : GZ9_45_3 = 3) : x < m + 276 + 2 * GZ9_45_3 ∨ m + 276 + 2 * GZ9_45_3 + 2 ≤ x := by omega
theorem zx_X16_roots_60 {GZ9_45_4 m x : Nat} (h0 : m + 92 ≤ x) (h1 : x < m + 92 + 1) (h2 : GZ9_45_4 = 4) : x < m + 276 + 2 * GZ9_45_4 ∨ m + 276 + 2 * GZ9_45_4 + 2 ≤ x := by omega
theorem zx_X16_roots_61 {m x : Nat} (h0 : m + 92 ≤ x) (h1 : x < m + 92 + 1) : x ≠ m := by omega
theorem zx_X16_roots_62 {m x : Nat} (h0 : m + 92 ≤ x) (h1 : x < m + 92 + 1) : x < m + 274 ∨ m + 274 + 1 ≤ x := by omega
theorem zx_X16_roots_63 {m x : Nat} (h0 : m + 92 ≤ x) (h1 : x < m + 92 + 1) : x < m + 3 ∨ m + 3 + 1 ≤ x := by omega
theorem zx_X16_roots_64 {GZ9_45_1 m x : Nat} (h0 : m + 92 ≤ x) (h1 : x < m + 92 + 1) (h2 : GZ9_45_1 = 1) : x < m + 276 + 2 * GZ9_45_1 ∨ m + 276 + 2 * GZ9_45_1 + 318 ≤ x := by omega
theorem zx_X16_roots_65 {m x : Nat} (h0 : m + 92 ≤ x) (h1 : x < m + 92 + 1) : x < m + 95 ∨ m + 95 + 1 ≤ x := by omega
theorem zx_X16_roots_66 {GZ9_45_0 m x : Nat} (h0 : m + 92 ≤ x) (h1 : x < m + 92 + 1) (h2 : GZ9_45_0 = 0) : x < m + 276 + 2 * GZ9_45_0 ∨ m + 276 + 2 * GZ9_45_0 + 10 ≤ x := by omega
theorem zx_X16_roots_67 {m x : Nat} (h0 : m + 93 ≤ x) (h1 : x < m + 93 + 1) : x < m ∨ m + 1 ≤ x := by omega
theorem zx_X16_roots_68 {GZ9_45_0 m x : Nat} (h0 : m + 93 ≤ x) (h1 : x < m + 93 + 1) (h2 : GZ9_45_0 = 0) : x < m + 276 + 2 * GZ9_45_0 ∨ m + 276 + 2 * GZ9_45_0 + 2 ≤ x := by omega
theorem zx_X16_roots_69 {GZ9_45_1 m x : Nat} (h0 : m + 93 ≤ x) (h1 : x < m + 93 + 1) (h2 : GZ9_45_1 = 1) : x < m + 276 + 2 * GZ9_45_1 ∨ m + 276 + 2 * GZ9_45_1 + 2 ≤ x := by omega
theorem zx_X16_roots_70 {GZ9_45_2 m x : Nat} (h0 : m + 93 ≤ x) (h1 : x < m + 93 + 1) (h2 : GZ9_45_2 = 2) : x < m + 276 + 2 * GZ9_45_2 ∨ m + 276 + 2 * GZ9_45_2 + 2 ≤ x := by omega
theorem zx_X16_roots_71 {GZ9_45_3 m x : Nat} (h0 : m + 93 ≤ x) (h1 : x < m + 93 + 1) (h2 : GZ9_45_3 = 3) : x < m + 276 + 2 * GZ9_45_3 ∨ m + 276 + 2 * GZ9_45_3 + 2 ≤ x := by omega
theorem zx_X16_roots_72 {GZ9_45_4 m x : Nat} (h0 : m + 93 ≤ x) (h1 : x < m + 93 + 1) (h2 : GZ9_45_4 = 4) : x < m + 276 + 2 * GZ9_45_4 ∨ m + 276 + 2 * GZ9_45_4 + 2 ≤ x := by omega
theorem zx_X16_roots_73 {m x : Nat} (h0 : m + 93 ≤ x) (h1 : x < m + 93 + 1) : x ≠ m := by omega
theorem zx_X16_roots_74 {m x : Nat} (h0 : m + 93 ≤ x) (h1 : x < m + 93 + 1) : x < m + 274 ∨ m + 274 + 1 ≤ x := by omega
theorem zx_X16_roots_75 {m x : Nat} (h0 : m + 93 ≤ x) (h1 : x < m + 93 + 1) : x < m + 3 ∨ m + 3 + 1 ≤ x := by omega
theorem zx_X16_roots_76 {GZ9_45_1 m x : Nat} (h0 : m + 93 ≤ x) (h1 : x < m + 93 + 1) (h2 : GZ9_45_1 = 1) : x < m + 276 + 2 * GZ9_45_1 ∨ m + 276 + 2 * GZ9_45_1 + 318 ≤ x := by omega
theorem zx_X16_roots_77 {m x : Nat} (h0 : m + 93 ≤ x) (h1 : x < m + 93 + 1) : x < m + 95 ∨ m + 95 + 1 ≤ x := by omega
theorem zx_X16_roots_78 {GZ9_45_0 m x : Nat} (h0 : m + 93 ≤ x) (h1 : x < m + 93 + 1) (h2 : GZ9_45_0 = 0) : x < m + 276 + 2 * GZ9_45_0 ∨ m + 276 + 2 * GZ9_45_0 + 10 ≤ x := by omega
theorem zx_X16_roots_79 {m x : Nat} (h0 : m + 100 ≤ x) (h1 : x < m + 100 + 49) : x < m ∨ m + 1 ≤ x := by omega
theorem zx_X16_roots_80 {GZ9_45_0 m x : Nat} (h0 : m + 100 ≤ x) (h1 : x < m + 100 + 49) (h2 : GZ9_45_0 = 0) : x < m + 276 + 2 * GZ9_45_0 ∨ m + 276 + 2 * GZ9_45_0 + 2 ≤ x := by omega
theorem zx_X16_roots_81 {GZ9_45_1 m x : Nat} (h0 : m + 100 ≤ x) (h1 : x < m + 100 + 49) (h2 : GZ9_45_1 = 1) : x < m + 276 + 2 * GZ9_45_1 ∨ m + 276 + 2 * GZ9_45_1 + 2 ≤ x := by omega
theorem zx_X16_roots_82 {GZ9_45_2 m x : Nat} (h0 : m + 100 ≤ x) (h1 : x < m + 100 + 49) (h2 : GZ9_45_2 = 2) : x < m + 276 + 2 * GZ9_45_2 ∨ m + 276 + 2 * GZ9_45_2 + 2 ≤ x := by omega
theorem zx_X16_roots_83 {GZ9_45_3 m x : Nat} (h0 : m + 100 ≤ x) (h1 : x < m + 100 + 49) (h2 : GZ9_45_3 = 3) : x < m + 276 + 2 * GZ9_45_3 ∨ m + 276 + 2 * GZ9_45_3 + 2 ≤ x := by omega
theorem zx_X16_roots_84 {GZ9_45_4 m x : Nat} (h0 : m + 100 ≤ x) (h1 : x < m + 100 + 49) (h2 : GZ9_45_4 = 4) : x < m + 276 + 2 * GZ9_45_4 ∨ m + 276 + 2 * GZ9_45_4 + 2 ≤ x := by omega
theorem zx_X16_roots_85 {m x : Nat} (h0 : m + 100 ≤ x) (h1 : x < m + 100 + 49) : x ≠ m := by omega
theorem zx_X16_roots_86 {m x : Nat} (h0 : m + 100 ≤ x) (h1 : x < m + 100 + 49) : x < m + 274 ∨ m + 274 + 1 ≤ x := by omega
theorem zx_X16_roots_87 {m x : Nat} (h0 : m + 100 ≤ x) (h1 : x < m + 100 + 49) : x < m + 3 ∨ m + 3 + 1 ≤ x := by omega
theorem zx_X16_roots_88 {GZ9_45_1 m x : Nat} (h0 : m + 100 ≤ x) (h1 : x < m + 100 + 49) (h2 : GZ9_45_1 = 1) : x < m + 276 + 2 * GZ9_45_1 ∨ m + 276 + 2 * GZ9_45_1 + 318 ≤ x := by omega
theorem zx_X16_roots_89 {m x : Nat} (h0 : m + 100 ≤ x) (h1 : x < m + 100 + 49) : x < m + 95 ∨ m + 95 + 1 ≤ x := by omega
theorem zx_X16_roots_90 {GZ9_45_0 m x : Nat} (h0 : m + 100 ≤ x) (h1 : x < m + 100 + 49) (h2 : GZ9_45_0 = 0) : x < m + 276 + 2 * GZ9_45_0 ∨ m + 276 + 2 * GZ9_45_0 + 10 ≤ x := by omega
theorem zx_X16_roots_91 {m x : Nat} (h0 : m + 212 ≤ x) (h1 : x < m + 212 + 61) : x < m ∨ m + 1 ≤ x := by omega
theorem zx_X16_roots_92 {GZ9_45_0 m x : Nat} (h0 : m + 212 ≤ x) (h1 : x < m + 212 + 61) (h2 : GZ9_45_0 = 0) : x < m + 276 + 2 * GZ9_45_0 ∨ m + 276 + 2 * GZ9_45_0 + 2 ≤ x := by omega
theorem zx_X16_roots_93 {GZ9_45_1 m x : Nat} (h0 : m + 212 ≤ x) (h1 : x < m + 212 + 61) (h2 : GZ9_45_1 = 1) : x < m + 276 + 2 * GZ9_45_1 ∨ m + 276 + 2 * GZ9_45_1 + 2 ≤ x := by omega
theorem zx_X16_roots_94 {GZ9_45_2 m x : Nat} (h0 : m + 212 ≤ x) (h1 : x < m + 212 + 61) (h2 : GZ9_45_2 = 2) : x < m + 276 + 2 * GZ9_45_2 ∨ m + 276 + 2 * GZ9_45_2 + 2 ≤ x := by omega
theorem zx_X16_roots_95 {GZ9_45_3 m x : Nat} (h0 : m + 212 ≤ x) (h1 : x < m + 212 + 61) (h2 : GZ9_45_3 = 3) : x < m + 276 + 2 * GZ9_45_3 ∨ m + 276 + 2 * GZ9_45_3 + 2 ≤ x := by omega
theorem zx_X16_roots_96 {GZ9_45_4 m x : Nat} (h0 : m + 212 ≤ x) (h1 : x < m + 212 + 61) (h2 : GZ9_45_4 = 4) : x < m + 276 + 2 * GZ9_45_4 ∨ m + 276 + 2 * GZ9_45_4 + 2 ≤ x := by omega
theorem zx_X16_roots_97 {m x : Nat} (h0 : m + 212 ≤ x) (h1 : x < m + 212 + 61) : x ≠ m := by omega
theorem zx_X16_roots_98 {m x : Nat} (h0 : m + 212 ≤ x) (h1 : x < m + 212 + 61) : x < m + 274 ∨ m + 274 + 1 ≤ x := by omega
theorem zx_X16_roots_99 {m x : Nat} (h0 : m + 212 ≤ x) (h1 : x < m + 212 + 61) : x < m + 3 ∨ m + 3 + 1 ≤ x := by omega
theorem zx_X16_roots_100 {GZ9_45_1 m x : Nat} (h0 : m + 212 ≤ x) (h1 : x < m + 212 + 61) (h2 : GZ9_45_1 = 1) : x < m + 276 + 2 * GZ9_45_1 ∨ m + 276 + 2 * GZ9_45_1 + 318 ≤ x := by omega
theorem zx_X16_roots_101 {m x : Nat} (h0 : m + 212 ≤ x) (h1 : x < m + 212 + 61) : x < m + 95 ∨ m + 95 + 1 ≤ x := by omega
theorem zx_X16_roots_102 {GZ9_45_0 m x : Nat} (h0 : m + 212 ≤ x) (h1 : x < m + 212 + 61) (h2 : GZ9_45_0 = 0) : x < m + 276 + 2 * GZ9_45_0 ∨ m + 276 + 2 * GZ9_45_0 + 10 ≤ x := by omega
theorem zx_X16_roots_103 {m x : Nat} (h0 : m + 149 ≤ x) (h1 : x < m + 149 + 27) : x < m ∨ m + 1 ≤ x := by omega
theorem zx_X16_roots_104 {GZ9_45_0 m x : Nat} (h0 : m + 149 ≤ x) (h1 : x < m + 149 + 27) (h2 : GZ9_45_0 = 0) : x < m + 276 + 2 * GZ9_45_0 ∨ m + 276 + 2 * GZ9_45_0 + 2 ≤ x := by omega
theorem zx_X16_roots_105 {GZ9_45_1 m x : Nat} (h0 : m + 149 ≤ x) (h1 : x < m + 149 + 27) (h2 : GZ9_45_1 = 1) : x < m + 276 + 2 * GZ9_45_1 ∨ m + 276 + 2 * GZ9_45_1 + 2 ≤ x := by omega
theorem zx_X16_roots_106 {GZ9_45_2 m x : Nat} (h0 : m + 149 ≤ x) (h1 : x < m + 149 + 27) (h2 : GZ9_45_2 = 2) : x < m + 276 + 2 * GZ9_45_2 ∨ m + 276 + 2 * GZ9_45_2 + 2 ≤ x := by omega
theorem zx_X16_roots_107 {GZ9_45_3 m x : Nat} (h0 : m + 149 ≤ x) (h1 : x < m + 149 + 27) (h2 : GZ9_45_3 = 3) : x < m + 276 + 2 * GZ9_45_3 ∨ m + 276 + 2 * GZ9_45_3 + 2 ≤ x := by omega
theorem zx_X16_roots_108 {GZ9_45_4 m x : Nat} (h0 : m + 149 ≤ x) (h1 : x < m + 149 + 27) (h2 : GZ9_45_4 = 4) : x < m + 276 + 2 * GZ9_45_4 ∨ m + 276 + 2 * GZ9_45_4 + 2 ≤ x := by omega
theorem zx_X16_roots_109 {m x : Nat} (h0 : m + 149 ≤ x) (h1 : x < m + 149 + 27) : x ≠ m := by omega
theorem zx_X16_roots_110 {m x : Nat} (h0 : m + 149 ≤ x) (h1 : x < m + 149 + 27) : x < m + 274 ∨ m + 274 + 1 ≤ x := by omega
theorem zx_X16_roots_111 {m x : Nat} (h0 : m + 149 ≤ x) (h1 : x < m + 149 + 27) : x < m + 3 ∨ m + 3 + 1 ≤ x := by omega
theorem zx_X16_roots_112 {GZ9_45_1 m x : Nat} (h0 : m + 149 ≤ x) (h1 : x < m + 149 + 27) (h2 : GZ9_45_1 = 1) : x < m + 276 + 2 * GZ9_45_1 ∨ m + 276 + 2 * GZ9_45_1 + 318 ≤ x := by omega
theorem zx_X16_roots_113 {m x : Nat} (h0 : m + 149 ≤ x) (h1 : x < m + 149 + 27) : x < m + 95 ∨ m + 95 + 1 ≤ x := by omega
theorem zx_X16_roots_114 {GZ9_45_0 m x : Nat} (h0 : m + 149 ≤ x) (h1 : x < m + 149 + 27) (h2 : GZ9_45_0 = 0) : x < m + 276 + 2 * GZ9_45_0 ∨ m + 276 + 2 * GZ9_45_0 + 10 ≤ x := by omega
theorem zx_X16_roots_115 {m : Nat}  : (m + 94) < m ∨ m + 1 ≤ (m + 94) := by omega
theorem zx_X16_roots_116 {GZ9_45_0 m : Nat} (h0 : GZ9_45_0 = 0) : (m + 94) < m + 276 + 2 * GZ9_45_0 ∨ m + 276 + 2 * GZ9_45_0 + 2 ≤ (m + 94) := by omega
theorem zx_X16_roots_117 {GZ9_45_1 m : Nat} (h0 : GZ9_45_1 = 1) : (m + 94) < m + 276 + 2 * GZ9_45_1 ∨ m + 276 + 2 * GZ9_45_1 + 2 ≤ (m + 94) := by omega
theorem zx_X16_roots_118 {GZ9_45_2 m : Nat} (h0 : GZ9_45_2 = 2) : (m + 94) < m + 276 + 2 * GZ9_45_2 ∨ m + 276 + 2 * GZ9_45_2 + 2 ≤ (m + 94) := by omega
theorem zx_X16_roots_119 {GZ9_45_3 m : Nat} (h0 : GZ9_45_3 = 3) : (m + 94) < m + 276 + 2 * GZ9_45_3 ∨ m + 276 + 2 * GZ9_45_3 + 2 ≤ (m + 94) := by omega
theorem zx_X16_roots_120 {GZ9_45_4 m : Nat} (h0 : GZ9_45_4 = 4) : (m + 94) < m + 276 + 2 * GZ9_45_4 ∨ m + 276 + 2 * GZ9_45_4 + 2 ≤ (m + 94) := by omega
theorem zx_X16_roots_121 {m : Nat}  : (m + 94) ≠ m := by omega
theorem zx_X16_roots_122 {m : Nat}  : (m + 94) < m + 274 ∨ m + 274 + 1 ≤ (m + 94) := by omega
theorem zx_X16_roots_123 {m : Nat}  : (m + 94) < m + 3 ∨ m + 3 + 1 ≤ (m + 94) := by omega
theorem zx_X16_roots_124 {GZ9_45_1 m : Nat} (h0 : GZ9_45_1 = 1) : (m + 94) < m + 276 + 2 * GZ9_45_1 ∨ m + 276 + 2 * GZ9_45_1 + 318 ≤ (m + 94) := by omega
theorem zx_X16_roots_125 {m : Nat}  : (m + 94) < m + 95 ∨ m + 95 + 1 ≤ (m + 94) := by omega
theorem zx_X16_roots_126 {GZ9_45_0 m : Nat} (h0 : GZ9_45_0 = 0) : (m + 94) < m + 276 + 2 * GZ9_45_0 ∨ m + 276 + 2 * GZ9_45_0 + 10 ≤ (m + 94) := by omega
theorem zx_X16_roots_127 {m : Nat}  : (m + 274) < m ∨ m + 1 ≤ (m + 274) := by omega
theorem zx_X16_roots_128 {m : Nat}  : (m + 274) < m + 95 ∨ m + 95 + 1 ≤ (m + 274) := by omega
theorem zx_X16_roots_129 {GZ9_45_0 m : Nat} (h0 : GZ9_45_0 = 0) : (m + 274) < m + 276 + 2 * GZ9_45_0 ∨ m + 276 + 2 * GZ9_45_0 + 10 ≤ (m + 274) := by omega
theorem zx_X16_roots_130 {m : Nat}  : (m + 274) ≠ m := by omega
theorem zx_X16_roots_131 {GZ9_45_2 m : Nat} (h0 : GZ9_45_2 = 2) : (m + 276 + 2 * GZ9_45_2) ≠ m + 276 + 2 * GZ9_45_2 + 1 := by omega
theorem zx_X16_roots_132 {GZ9_45_2 m : Nat} (h0 : GZ9_45_2 = 2) : (m + 276 + 2 * GZ9_45_2 + 1) ≠ m + 276 + 2 * GZ9_45_2 := by omega
theorem zx_X16_roots_133 {GZ9_45_0 GZ9_45_2 m x : Nat} (h0 : m + 276 + 2 * GZ9_45_0 ≤ x) (h1 : x < m + 276 + 2 * GZ9_45_0 + 2) (h2 : GZ9_45_0 = 0) (h3 : GZ9_45_2 = 2) : x ≠ m + 276 + 2 * GZ9_45_2 + 1 := by omega
theorem zx_X16_roots_134 {GZ9_45_0 GZ9_45_2 m x : Nat} (h0 : m + 276 + 2 * GZ9_45_0 ≤ x) (h1 : x < m + 276 + 2 * GZ9_45_0 + 2) (h2 : GZ9_45_0 = 0) (h3 : GZ9_45_2 = 2) : x ≠ m + 276 + 2 * GZ9_45_2 := by omega
theorem zx_X16_roots_135 {GZ9_45_2 m : Nat} (h0 : GZ9_45_2 = 2) : m ≠ m + 276 + 2 * GZ9_45_2 + 1 := by omega
theorem zx_X16_roots_136 {GZ9_45_2 m : Nat} (h0 : GZ9_45_2 = 2) : m ≠ m + 276 + 2 * GZ9_45_2 := by omega
theorem zx_X16_roots_137 {GZ9_45_4 m : Nat} (h0 : GZ9_45_4 = 4) : m < m + 276 + 2 * GZ9_45_4 ∨ m + 276 + 2 * GZ9_45_4 + 2 ≤ m := by omega
theorem zx_X16_roots_138 {GZ9_45_3 m : Nat} (h0 : GZ9_45_3 = 3) : m < m + 276 + 2 * GZ9_45_3 ∨ m + 276 + 2 * GZ9_45_3 + 2 ≤ m := by omega
theorem zx_X16_roots_139 {GZ9_45_0 GZ9_45_2 m x : Nat} (h0 : x < m + 276 + 2 * GZ9_45_0 ∨ m + 276 + 2 * GZ9_45_0 + 10 ≤ x) (h1 : GZ9_45_0 = 0) (h2 : GZ9_45_2 = 2) : x ≠ m + 276 + 2 * GZ9_45_2 + 1 := by omega
theorem zx_X16_roots_140 {GZ9_45_0 GZ9_45_2 m x : Nat} (h0 : x < m + 276 + 2 * GZ9_45_0 ∨ m + 276 + 2 * GZ9_45_0 + 10 ≤ x) (h1 : GZ9_45_0 = 0) (h2 : GZ9_45_2 = 2) : x ≠ m + 276 + 2 * GZ9_45_2 := by omega
theorem zx_X16_roots_141 {GZ9_45_0 GZ9_45_4 m x : Nat} (h0 : x < m + 276 + 2 * GZ9_45_0 ∨ m + 276 + 2 * GZ9_45_0 + 10 ≤ x) (h1 : GZ9_45_0 = 0) (h2 : GZ9_45_4 = 4) : x < m + 276 + 2 * GZ9_45_4 ∨ m + 276 + 2 * GZ9_45_4 + 2 ≤ x := by omega
theorem zx_X16_roots_142 {GZ9_45_0 GZ9_45_3 m x : Nat} (h0 : x < m + 276 + 2 * GZ9_45_0 ∨ m + 276 + 2 * GZ9_45_0 + 10 ≤ x) (h1 : GZ9_45_0 = 0) (h2 : GZ9_45_3 = 3) : x < m + 276 + 2 * GZ9_45_3 ∨ m + 276 + 2 * GZ9_45_3 + 2 ≤ x := by omega
theorem zx_X16_roots_143 {GZ9_45_0 m x : Nat} (h0 : x < m + 276 + 2 * GZ9_45_0 ∨ m + 276 + 2 * GZ9_45_0 + 10 ≤ x) (h1 : GZ9_45_0 = 0) : x < m + 276 + 2 * GZ9_45_0 ∨ m + 276 + 2 * GZ9_45_0 + 2 ≤ x := by omega
theorem zx_X16_roots_144 {GZ9_45_0 GZ9_45_3 m x : Nat} (h0 : x < m + 276 + 2 * GZ9_45_0 ∨ m + 276 + 2 * GZ9_45_0 + 10 ≤ x) (h1 : GZ9_45_0 = 0) (h2 : GZ9_45_3 = 3) : x < m + 276 + 2 * GZ9_45_3 ∨ m + 276 + 2 * GZ9_45_3 + 4 ≤ x := by omega
theorem zx_X16_roots_145 {GZ9_45_2 m : Nat} (h0 : GZ9_45_2 = 2) : (m + 274) ≠ m + 276 + 2 * GZ9_45_2 + 1 := by omega
theorem zx_X16_roots_146 {GZ9_45_2 m : Nat} (h0 : GZ9_45_2 = 2) : (m + 274) ≠ m + 276 + 2 * GZ9_45_2 := by omega
theorem zx_X16_roots_147 {GZ9_45_4 m : Nat} (h0 : GZ9_45_4 = 4) : (m + 274) < m + 276 + 2 * GZ9_45_4 ∨ m + 276 + 2 * GZ9_45_4 + 2 ≤ (m + 274) := by omega
theorem zx_X16_roots_148 {GZ9_45_3 m : Nat} (h0 : GZ9_45_3 = 3) : (m + 274) < m + 276 + 2 * GZ9_45_3 ∨ m + 276 + 2 * GZ9_45_3 + 2 ≤ (m + 274) := by omega
theorem zx_X16_roots_149 {GZ9_45_0 m : Nat} (h0 : GZ9_45_0 = 0) : (m + 274) < m + 276 + 2 * GZ9_45_0 ∨ m + 276 + 2 * GZ9_45_0 + 2 ≤ (m + 274) := by omega
theorem zx_X16_roots_150 {GZ9_45_3 m : Nat} (h0 : GZ9_45_3 = 3) : (m + 274) < m + 276 + 2 * GZ9_45_3 ∨ m + 276 + 2 * GZ9_45_3 + 4 ≤ (m + 274) := by omega
theorem zx_X16_roots_151 {m : Nat}  : (m + 95) ≠ m := by omega
theorem zx_X16_roots_152 {GZ9_45_0 m x : Nat} (h0 : m + 276 + 2 * GZ9_45_0 ≤ x) (h1 : x < m + 276 + 2 * GZ9_45_0 + 2) (h2 : GZ9_45_0 = 0) : x ≠ m + 95 := by omega
theorem zx_X16_roots_153 {GZ9_45_3 m x : Nat} (h0 : m + 276 + 2 * GZ9_45_3 ≤ x) (h1 : x < m + 276 + 2 * GZ9_45_3 + 2) (h2 : GZ9_45_3 = 3) : x ≠ m := by omega
theorem zx_X16_roots_154 {GZ9_45_3 m x : Nat} (h0 : m + 276 + 2 * GZ9_45_3 ≤ x) (h1 : x < m + 276 + 2 * GZ9_45_3 + 2) (h2 : GZ9_45_3 = 3) : x ≠ m + 95 := by omega
theorem zx_X16_roots_155 {GZ9_45_0 GZ9_45_3 m x : Nat} (h0 : m + 276 + 2 * GZ9_45_3 ≤ x) (h1 : x < m + 276 + 2 * GZ9_45_3 + 2) (h2 : GZ9_45_0 = 0) (h3 : GZ9_45_3 = 3) : x < m + 276 + 2 * GZ9_45_0 ∨ m + 276 + 2 * GZ9_45_0 + 2 ≤ x := by omega
theorem zx_X16_roots_156 {GZ9_45_4 m x : Nat} (h0 : m + 276 + 2 * GZ9_45_4 ≤ x) (h1 : x < m + 276 + 2 * GZ9_45_4 + 2) (h2 : GZ9_45_4 = 4) : x ≠ m := by omega
theorem zx_X16_roots_157 {GZ9_45_4 m x : Nat} (h0 : m + 276 + 2 * GZ9_45_4 ≤ x) (h1 : x < m + 276 + 2 * GZ9_45_4 + 2) (h2 : GZ9_45_4 = 4) : x ≠ m + 95 := by omega
theorem zx_X16_roots_158 {GZ9_45_0 GZ9_45_4 m x : Nat} (h0 : m + 276 + 2 * GZ9_45_4 ≤ x) (h1 : x < m + 276 + 2 * GZ9_45_4 + 2) (h2 : GZ9_45_0 = 0) (h3 : GZ9_45_4 = 4) : x < m + 276 + 2 * GZ9_45_0 ∨ m + 276 + 2 * GZ9_45_0 + 2 ≤ x := by omega
theorem zx_X16_roots_159 {GZ9_45_2 GZ9_45_4 m x : Nat} (h0 : m + 276 + 2 * GZ9_45_2 ≤ x) (h1 : x < m + 276 + 2 * GZ9_45_2 + 2) (h2 : GZ9_45_2 = 2) (h3 : GZ9_45_4 = 4) : x < m + 276 + 2 * GZ9_45_4 ∨ m + 276 + 2 * GZ9_45_4 + 2 ≤ x := by omega
theorem zx_X16_roots_160 {GZ9_45_2 GZ9_45_3 m x : Nat} (h0 : m + 276 + 2 * GZ9_45_2 ≤ x) (h1 : x < m + 276 + 2 * GZ9_45_2 + 2) (h2 : GZ9_45_2 = 2) (h3 : GZ9_45_3 = 3) : x < m + 276 + 2 * GZ9_45_3 ∨ m + 276 + 2 * GZ9_45_3 + 2 ≤ x := by omega
theorem zx_X16_roots_161 {GZ9_45_2 m x : Nat} (h0 : m + 276 + 2 * GZ9_45_2 ≤ x) (h1 : x < m + 276 + 2 * GZ9_45_2 + 2) (h2 : GZ9_45_2 = 2) : x < m ∨ m + 1 ≤ x := by omega
theorem zx_X16_roots_162 {GZ9_45_2 m x : Nat} (h0 : m + 276 + 2 * GZ9_45_2 ≤ x) (h1 : x < m + 276 + 2 * GZ9_45_2 + 2) (h2 : GZ9_45_2 = 2) : x < m + 95 ∨ m + 95 + 1 ≤ x := by omega
theorem zx_X16_roots_163 {GZ9_45_0 GZ9_45_2 m x : Nat} (h0 : m + 276 + 2 * GZ9_45_2 ≤ x) (h1 : x < m + 276 + 2 * GZ9_45_2 + 2) (h2 : GZ9_45_0 = 0) (h3 : GZ9_45_2 = 2) : x < m + 276 + 2 * GZ9_45_0 ∨ m + 276 + 2 * GZ9_45_0 + 2 ≤ x := by omega
theorem zx_X16_roots_164 {GZ9_45_2 GZ9_45_3 m x : Nat} (h0 : m + 276 + 2 * GZ9_45_2 ≤ x) (h1 : x < m + 276 + 2 * GZ9_45_2 + 2) (h2 : GZ9_45_2 = 2) (h3 : GZ9_45_3 = 3) : x < m + 276 + 2 * GZ9_45_3 ∨ m + 276 + 2 * GZ9_45_3 + 4 ≤ x := by omega
theorem zx_X16_roots_165 {GZ9_45_2 m x : Nat} (h0 : m + 276 + 2 * GZ9_45_2 ≤ x) (h1 : x < m + 276 + 2 * GZ9_45_2 + 2) (h2 : GZ9_45_2 = 2) : x ≠ m := by omega
theorem zx_X16_roots_166 {GZ9_45_2 m x : Nat} (h0 : m + 276 + 2 * GZ9_45_2 ≤ x) (h1 : x < m + 276 + 2 * GZ9_45_2 + 2) (h2 : GZ9_45_2 = 2) : x ≠ m + 95 := by omega
theorem zx_X16_roots_167 {GZ9_45_0 GZ9_45_4 m : Nat} (h0 : GZ9_45_0 = 0) (h1 : GZ9_45_4 = 4) : (m + 276 + 2 * GZ9_45_0) < m + 276 + 2 * GZ9_45_4 ∨ m + 276 + 2 * GZ9_45_4 + 2 ≤ (m + 276 + 2 * GZ9_45_0) := by omega
theorem zx_X16_roots_168 {GZ9_45_0 GZ9_45_3 m : Nat} (h0 : GZ9_45_0 = 0) (h1 : GZ9_45_3 = 3) : (m + 276 + 2 * GZ9_45_0) < m + 276 + 2 * GZ9_45_3 ∨ m + 276 + 2 * GZ9_45_3 + 2 ≤ (m + 276 + 2 * GZ9_45_0) := by omega
theorem zx_X16_roots_169 {m x : Nat} (h0 : x < m + 95 ∨ m + 95 + 1 ≤ x) : x ≠ m + 95 := by omega
theorem zx_X16_roots_170 {GZ9_45_0 GZ9_45_3 GZ9_45_4 m x : Nat} (h0 : x < m + 276 + 2 * GZ9_45_0 ∨ m + 276 + 2 * GZ9_45_0 + 2 ≤ x) (h1 : x < m + 276 + 2 * GZ9_45_3 ∨ m + 276 + 2 * GZ9_45_3 + 4 ≤ x) (h2 : GZ9_45_0 = 0) (h3 : GZ9_45_3 = 3) (h4 : GZ9_45_4 = 4) : x < m + 276 + 2 * GZ9_45_4 ∨ m + 276 + 2 * GZ9_45_4 + 2 ≤ x := by omega
theorem zx_X16_roots_171 {GZ9_45_0 GZ9_45_3 m x : Nat} (h0 : x < m + 276 + 2 * GZ9_45_0 ∨ m + 276 + 2 * GZ9_45_0 + 2 ≤ x) (h1 : x < m + 276 + 2 * GZ9_45_3 ∨ m + 276 + 2 * GZ9_45_3 + 4 ≤ x) (h2 : GZ9_45_0 = 0) (h3 : GZ9_45_3 = 3) : x < m + 276 + 2 * GZ9_45_3 ∨ m + 276 + 2 * GZ9_45_3 + 2 ≤ x := by omega
theorem zx_X16_roots_172 {m : Nat}  : m ≠ m + 95 := by omega
theorem zx_X16_roots_173 {GZ9_45_0 m : Nat} (h0 : GZ9_45_0 = 0) : (m + 95) < m + 276 + 2 * GZ9_45_0 ∨ m + 276 + 2 * GZ9_45_0 + 2 ≤ (m + 95) := by omega
theorem zx_X16_roots_174 {GZ9_45_4 m : Nat} (h0 : GZ9_45_4 = 4) : (m + 95) < m + 276 + 2 * GZ9_45_4 ∨ m + 276 + 2 * GZ9_45_4 + 2 ≤ (m + 95) := by omega
theorem zx_X16_roots_175 {GZ9_45_3 m : Nat} (h0 : GZ9_45_3 = 3) : (m + 95) < m + 276 + 2 * GZ9_45_3 ∨ m + 276 + 2 * GZ9_45_3 + 2 ≤ (m + 95) := by omega
theorem zx_X16_roots_176 {GZ9_45_2 m : Nat} (h0 : GZ9_45_2 = 2) : (m + 95) ≠ m + 276 + 2 * GZ9_45_2 + 1 := by omega
theorem zx_X16_roots_177 {GZ9_45_2 m : Nat} (h0 : GZ9_45_2 = 2) : (m + 95) ≠ m + 276 + 2 * GZ9_45_2 := by omega
theorem zx_X16_roots_178 {GZ9_45_0 m x : Nat} (h0 : m + 276 + 2 * GZ9_45_0 ≤ x) (h1 : x < m + 276 + 2 * GZ9_45_0 + 2) (h2 : GZ9_45_0 = 0) : x < m + 274 ∨ m + 274 + 1 ≤ x := by omega
theorem zx_X16_roots_179 {GZ9_45_0 m x : Nat} (h0 : m + 276 + 2 * GZ9_45_0 ≤ x) (h1 : x < m + 276 + 2 * GZ9_45_0 + 2) (h2 : GZ9_45_0 = 0) : x < m + 3 ∨ m + 3 + 1 ≤ x := by omega
theorem zx_X16_roots_180 {GZ9_45_0 GZ9_45_1 m x : Nat} (h0 : m + 276 + 2 * GZ9_45_0 ≤ x) (h1 : x < m + 276 + 2 * GZ9_45_0 + 2) (h2 : GZ9_45_0 = 0) (h3 : GZ9_45_1 = 1) : x < m + 276 + 2 * GZ9_45_1 ∨ m + 276 + 2 * GZ9_45_1 + 318 ≤ x := by omega
theorem zx_X16_roots_181 {m x : Nat} (h0 : x < m + 274 ∨ m + 274 + 1 ≤ x) : x ≠ m + 274 := by omega
theorem zx_X16_roots_182 {m : Nat}  : m ≠ m + 274 := by omega
theorem zx_X16_roots_183 {GZ9_45_1 m x : Nat} (h0 : m + 276 + 2 * GZ9_45_1 ≤ x) (h1 : x < m + 276 + 2 * GZ9_45_1 + 2) (h2 : GZ9_45_1 = 1) : x < m ∨ m + 1 ≤ x := by omega
theorem zx_X16_roots_184 {GZ9_45_1 GZ9_45_2 m x : Nat} (h0 : m + 276 + 2 * GZ9_45_1 ≤ x) (h1 : x < m + 276 + 2 * GZ9_45_1 + 2) (h2 : GZ9_45_1 = 1) (h3 : GZ9_45_2 = 2) : x < m + 276 + 2 * GZ9_45_2 ∨ m + 276 + 2 * GZ9_45_2 + 2 ≤ x := by omega
theorem zx_X16_roots_185 {GZ9_45_1 GZ9_45_3 m x : Nat} (h0 : m + 276 + 2 * GZ9_45_1 ≤ x) (h1 : x < m + 276 + 2 * GZ9_45_1 + 2) (h2 : GZ9_45_1 = 1) (h3 : GZ9_45_3 = 3) : x < m + 276 + 2 * GZ9_45_3 ∨ m + 276 + 2 * GZ9_45_3 + 2 ≤ x := by omega
theorem zx_X16_roots_186 {GZ9_45_1 GZ9_45_4 m x : Nat} (h0 : m + 276 + 2 * GZ9_45_1 ≤ x) (h1 : x < m + 276 + 2 * GZ9_45_1 + 2) (h2 : GZ9_45_1 = 1) (h3 : GZ9_45_4 = 4) : x < m + 276 + 2 * GZ9_45_4 ∨ m + 276 + 2 * GZ9_45_4 + 2 ≤ x := by omega
theorem zx_X16_roots_187 {GZ9_45_0 GZ9_45_1 m x : Nat} (h0 : m + 276 + 2 * GZ9_45_1 ≤ x) (h1 : x < m + 276 + 2 * GZ9_45_1 + 2) (h2 : GZ9_45_0 = 0) (h3 : GZ9_45_1 = 1) : x < m + 276 + 2 * GZ9_45_0 ∨ m + 276 + 2 * GZ9_45_0 + 2 ≤ x := by omega
theorem zx_X16_roots_188 {GZ9_45_1 m x : Nat} (h0 : m + 276 + 2 * GZ9_45_1 ≤ x) (h1 : x < m + 276 + 2 * GZ9_45_1 + 2) (h2 : GZ9_45_1 = 1) : x ≠ m := by omega
theorem zx_X16_roots_189 {GZ9_45_3 m x : Nat} (h0 : m + 276 + 2 * GZ9_45_3 ≤ x) (h1 : x < m + 276 + 2 * GZ9_45_3 + 2) (h2 : GZ9_45_3 = 3) : x < m ∨ m + 1 ≤ x := by omega
theorem zx_X16_roots_190 {GZ9_45_3 GZ9_45_4 m x : Nat} (h0 : m + 276 + 2 * GZ9_45_3 ≤ x) (h1 : x < m + 276 + 2 * GZ9_45_3 + 2) (h2 : GZ9_45_3 = 3) (h3 : GZ9_45_4 = 4) : x < m + 276 + 2 * GZ9_45_4 ∨ m + 276 + 2 * GZ9_45_4 + 2 ≤ x := by omega
theorem zx_X16_roots_191 {GZ9_45_2 m : Nat} (h0 : GZ9_45_2 = 2) : (m + 276 + 2 * GZ9_45_2) < m ∨ m + 1 ≤ (m + 276 + 2 * GZ9_45_2) := by omega
theorem zx_X16_roots_192 {GZ9_45_2 GZ9_45_3 m : Nat} (h0 : GZ9_45_2 = 2) (h1 : GZ9_45_3 = 3) : (m + 276 + 2 * GZ9_45_2) < m + 276 + 2 * GZ9_45_3 ∨ m + 276 + 2 * GZ9_45_3 + 2 ≤ (m + 276 + 2 * GZ9_45_2) := by omega
theorem zx_X16_roots_193 {GZ9_45_2 GZ9_45_4 m : Nat} (h0 : GZ9_45_2 = 2) (h1 : GZ9_45_4 = 4) : (m + 276 + 2 * GZ9_45_2) < m + 276 + 2 * GZ9_45_4 ∨ m + 276 + 2 * GZ9_45_4 + 2 ≤ (m + 276 + 2 * GZ9_45_2) := by omega
theorem zx_X16_roots_194 {GZ9_45_0 GZ9_45_2 m : Nat} (h0 : GZ9_45_0 = 0) (h1 : GZ9_45_2 = 2) : (m + 276 + 2 * GZ9_45_2) < m + 276 + 2 * GZ9_45_0 ∨ m + 276 + 2 * GZ9_45_0 + 2 ≤ (m + 276 + 2 * GZ9_45_2) := by omega
theorem zx_X16_roots_195 {GZ9_45_2 m : Nat} (h0 : GZ9_45_2 = 2) : (m + 276 + 2 * GZ9_45_2) ≠ m := by omega
theorem zx_X16_roots_196 {GZ9_45_2 m : Nat} (h0 : GZ9_45_2 = 2) : (m + 276 + 2 * GZ9_45_2 + 1) < m ∨ m + 1 ≤ (m + 276 + 2 * GZ9_45_2 + 1) := by omega
theorem zx_X16_roots_197 {GZ9_45_2 GZ9_45_3 m : Nat} (h0 : GZ9_45_2 = 2) (h1 : GZ9_45_3 = 3) : (m + 276 + 2 * GZ9_45_2 + 1) < m + 276 + 2 * GZ9_45_3 ∨ m + 276 + 2 * GZ9_45_3 + 2 ≤ (m + 276 + 2 * GZ9_45_2 + 1) := by omega
theorem zx_X16_roots_198 {GZ9_45_2 GZ9_45_4 m : Nat} (h0 : GZ9_45_2 = 2) (h1 : GZ9_45_4 = 4) : (m + 276 + 2 * GZ9_45_2 + 1) < m + 276 + 2 * GZ9_45_4 ∨ m + 276 + 2 * GZ9_45_4 + 2 ≤ (m + 276 + 2 * GZ9_45_2 + 1) := by omega
theorem zx_X16_roots_199 {GZ9_45_0 GZ9_45_2 m : Nat} (h0 : GZ9_45_0 = 0) (h1 : GZ9_45_2 = 2) : (m + 276 + 2 * GZ9_45_2 + 1) < m + 276 + 2 * GZ9_45_0 ∨ m + 276 + 2 * GZ9_45_0 + 2 ≤ (m + 276 + 2 * GZ9_45_2 + 1) := by omega
theorem zx_X16_roots_200 {GZ9_45_2 m : Nat} (h0 : GZ9_45_2 = 2) : (m + 276 + 2 * GZ9_45_2 + 1) ≠ m := by omega
theorem zx_X16_roots_201 {GZ9_45_1 GZ9_45_2 m x : Nat} (h0 : m + 276 + 2 * GZ9_45_1 ≤ x) (h1 : x < m + 276 + 2 * GZ9_45_1 + 2) (h2 : GZ9_45_1 = 1) (h3 : GZ9_45_2 = 2) : x ≠ m + 276 + 2 * GZ9_45_2 + 1 := by omega
theorem zx_X16_roots_202 {GZ9_45_1 GZ9_45_2 m x : Nat} (h0 : m + 276 + 2 * GZ9_45_1 ≤ x) (h1 : x < m + 276 + 2 * GZ9_45_1 + 2) (h2 : GZ9_45_1 = 1) (h3 : GZ9_45_2 = 2) : x ≠ m + 276 + 2 * GZ9_45_2 := by omega
theorem zx_X16_roots_203 {GZ9_45_1 GZ9_45_2 m x : Nat} (h0 : m + 276 + 2 * GZ9_45_2 ≤ x) (h1 : x < m + 276 + 2 * GZ9_45_2 + 2) (h2 : GZ9_45_1 = 1) (h3 : GZ9_45_2 = 2) : x < m + 276 + 2 * GZ9_45_1 ∨ m + 276 + 2 * GZ9_45_1 + 2 ≤ x := by omega
theorem zx_X16_roots_204 {GZ9_45_2 GZ9_45_5 m x : Nat} (h0 : m + 276 + 2 * GZ9_45_2 ≤ x) (h1 : x < m + 276 + 2 * GZ9_45_2 + 2) (h2 : GZ9_45_2 = 2) (h3 : GZ9_45_5 = 5) : x < m + 276 + 2 * GZ9_45_5 ∨ m + 276 + 2 * GZ9_45_5 + (320 - 2 * GZ9_45_5) ≤ x := by omega
theorem zx_X16_roots_205 {GZ9_45_1 m : Nat} (h0 : GZ9_45_1 = 1) : m < m + 276 + 2 * GZ9_45_1 ∨ m + 276 + 2 * GZ9_45_1 + 2 ≤ m := by omega
theorem zx_X16_roots_206 {GZ9_45_5 m : Nat} (h0 : GZ9_45_5 = 5) : m < m + 276 + 2 * GZ9_45_5 ∨ m + 276 + 2 * GZ9_45_5 + (320 - 2 * GZ9_45_5) ≤ m := by omega
theorem zx_X16_roots_207 {GZ9_45_0 GZ9_45_5 m x : Nat} (h0 : m + 276 + 2 * GZ9_45_0 ≤ x) (h1 : x < m + 276 + 2 * GZ9_45_0 + 2) (h2 : GZ9_45_0 = 0) (h3 : GZ9_45_5 = 5) : x < m + 276 + 2 * GZ9_45_5 ∨ m + 276 + 2 * GZ9_45_5 + (320 - 2 * GZ9_45_5) ≤ x := by omega
theorem zx_X16_roots_208 {GZ9_45_1 GZ9_45_2 m x : Nat} (h0 : x < m + 276 + 2 * GZ9_45_1 ∨ m + 276 + 2 * GZ9_45_1 + 318 ≤ x) (h1 : GZ9_45_1 = 1) (h2 : GZ9_45_2 = 2) : x ≠ m + 276 + 2 * GZ9_45_2 + 1 := by omega
theorem zx_X16_roots_209 {GZ9_45_1 GZ9_45_2 m x : Nat} (h0 : x < m + 276 + 2 * GZ9_45_1 ∨ m + 276 + 2 * GZ9_45_1 + 318 ≤ x) (h1 : GZ9_45_1 = 1) (h2 : GZ9_45_2 = 2) : x ≠ m + 276 + 2 * GZ9_45_2 := by omega
theorem zx_X16_roots_210 {GZ9_45_1 m x : Nat} (h0 : x < m + 276 + 2 * GZ9_45_1 ∨ m + 276 + 2 * GZ9_45_1 + 318 ≤ x) (h1 : GZ9_45_1 = 1) : x < m + 276 + 2 * GZ9_45_1 ∨ m + 276 + 2 * GZ9_45_1 + 2 ≤ x := by omega
theorem zx_X16_roots_211 {GZ9_45_1 GZ9_45_5 m x : Nat} (h0 : x < m + 276 + 2 * GZ9_45_1 ∨ m + 276 + 2 * GZ9_45_1 + 318 ≤ x) (h1 : GZ9_45_1 = 1) (h2 : GZ9_45_5 = 5) : x < m + 276 + 2 * GZ9_45_5 ∨ m + 276 + 2 * GZ9_45_5 + (320 - 2 * GZ9_45_5) ≤ x := by omega
theorem zx_X16_roots_212 {GZ9_45_1 m x : Nat} (h0 : m + 276 + 2 * GZ9_45_1 ≤ x) (h1 : x < m + 276 + 2 * GZ9_45_1 + 2) (h2 : GZ9_45_1 = 1) : x < m + 274 ∨ m + 274 + 1 ≤ x := by omega
theorem zx_X16_roots_213 {GZ9_45_1 GZ9_45_5 m x : Nat} (h0 : m + 276 + 2 * GZ9_45_1 ≤ x) (h1 : x < m + 276 + 2 * GZ9_45_1 + 2) (h2 : GZ9_45_1 = 1) (h3 : GZ9_45_5 = 5) : x < m + 276 + 2 * GZ9_45_5 ∨ m + 276 + 2 * GZ9_45_5 + (320 - 2 * GZ9_45_5) ≤ x := by omega
theorem zx_X16_roots_214 {GZ9_45_2 m x : Nat} (h0 : m + 276 + 2 * GZ9_45_2 ≤ x) (h1 : x < m + 276 + 2 * GZ9_45_2 + 2) (h2 : GZ9_45_2 = 2) : x < m + 274 ∨ m + 274 + 1 ≤ x := by omega
theorem zx_X16_roots_215 {GZ9_45_2 GZ9_45_3 m x : Nat} (h0 : m + 276 + 2 * GZ9_45_3 ≤ x) (h1 : x < m + 276 + 2 * GZ9_45_3 + 2) (h2 : GZ9_45_2 = 2) (h3 : GZ9_45_3 = 3) : x ≠ m + 276 + 2 * GZ9_45_2 + 1 := by omega
theorem zx_X16_roots_216 {GZ9_45_2 GZ9_45_3 m x : Nat} (h0 : m + 276 + 2 * GZ9_45_3 ≤ x) (h1 : x < m + 276 + 2 * GZ9_45_3 + 2) (h2 : GZ9_45_2 = 2) (h3 : GZ9_45_3 = 3) : x ≠ m + 276 + 2 * GZ9_45_2 := by omega
theorem zx_X16_roots_217 {GZ9_45_1 GZ9_45_3 m x : Nat} (h0 : m + 276 + 2 * GZ9_45_3 ≤ x) (h1 : x < m + 276 + 2 * GZ9_45_3 + 2) (h2 : GZ9_45_1 = 1) (h3 : GZ9_45_3 = 3) : x < m + 276 + 2 * GZ9_45_1 ∨ m + 276 + 2 * GZ9_45_1 + 2 ≤ x := by omega
theorem zx_X16_roots_218 {GZ9_45_3 GZ9_45_5 m x : Nat} (h0 : m + 276 + 2 * GZ9_45_3 ≤ x) (h1 : x < m + 276 + 2 * GZ9_45_3 + 2) (h2 : GZ9_45_3 = 3) (h3 : GZ9_45_5 = 5) : x < m + 276 + 2 * GZ9_45_5 ∨ m + 276 + 2 * GZ9_45_5 + (320 - 2 * GZ9_45_5) ≤ x := by omega
theorem zx_X16_roots_219 {GZ9_45_3 m x : Nat} (h0 : m + 276 + 2 * GZ9_45_3 ≤ x) (h1 : x < m + 276 + 2 * GZ9_45_3 + 2) (h2 : GZ9_45_3 = 3) : x < m + 274 ∨ m + 274 + 1 ≤ x := by omega
theorem zx_X16_roots_220 {GZ9_45_2 GZ9_45_4 m x : Nat} (h0 : m + 276 + 2 * GZ9_45_4 ≤ x) (h1 : x < m + 276 + 2 * GZ9_45_4 + 2) (h2 : GZ9_45_2 = 2) (h3 : GZ9_45_4 = 4) : x ≠ m + 276 + 2 * GZ9_45_2 + 1 := by omega
theorem zx_X16_roots_221 {GZ9_45_2 GZ9_45_4 m x : Nat} (h0 : m + 276 + 2 * GZ9_45_4 ≤ x) (h1 : x < m + 276 + 2 * GZ9_45_4 + 2) (h2 : GZ9_45_2 = 2) (h3 : GZ9_45_4 = 4) : x ≠ m + 276 + 2 * GZ9_45_2 := by omega
theorem zx_X16_roots_222 {GZ9_45_1 GZ9_45_4 m x : Nat} (h0 : m + 276 + 2 * GZ9_45_4 ≤ x) (h1 : x < m + 276 + 2 * GZ9_45_4 + 2) (h2 : GZ9_45_1 = 1) (h3 : GZ9_45_4 = 4) : x < m + 276 + 2 * GZ9_45_1 ∨ m + 276 + 2 * GZ9_45_1 + 2 ≤ x := by omega
theorem zx_X16_roots_223 {GZ9_45_4 GZ9_45_5 m x : Nat} (h0 : m + 276 + 2 * GZ9_45_4 ≤ x) (h1 : x < m + 276 + 2 * GZ9_45_4 + 2) (h2 : GZ9_45_4 = 4) (h3 : GZ9_45_5 = 5) : x < m + 276 + 2 * GZ9_45_5 ∨ m + 276 + 2 * GZ9_45_5 + (320 - 2 * GZ9_45_5) ≤ x := by omega
theorem zx_X16_roots_224 {GZ9_45_4 m x : Nat} (h0 : m + 276 + 2 * GZ9_45_4 ≤ x) (h1 : x < m + 276 + 2 * GZ9_45_4 + 2) (h2 : GZ9_45_4 = 4) : x < m ∨ m + 1 ≤ x := by omega
theorem zx_X16_roots_225 {GZ9_45_4 m x : Nat} (h0 : m + 276 + 2 * GZ9_45_4 ≤ x) (h1 : x < m + 276 + 2 * GZ9_45_4 + 2) (h2 : GZ9_45_4 = 4) : x < m + 274 ∨ m + 274 + 1 ≤ x := by omega
set_option maxHeartbeats 8000000 in
set_option maxRecDepth 100000 in
theorem c_X16_roots {w : zM} {n9 : Int32} (m : Nat) (s9 : Int32) (hI : zInv w m n9) : zCon 57 zq_X16_roots [.ref m, .int s9] w (fun v9 w9' => zSI w w9' ∧ (∀ x, (x < m + 0 ∨ m + 0 + 8322 ≤ x) → w9' x = w x) ∧ zInv w9' m n9 ∧ ∃ r9 : Int32, v9 = some (.int r9) ∧ True) := by
  intro d sz hd
  obtain ⟨d, rfl⟩ : ∃ d9, d = d9 + 1 := ⟨d - 1, by omega⟩
  generalize hPost : (fun (r9' : Option (Option Value)) (w9' : zM) (z9 : Nat) => z9 = sz ∧ ∃ v9, r9' = some v9 ∧ (zSI w w9' ∧ (∀ x, (x < m + 0 ∨ m + 0 + 8322 ≤ x) → w9' x = w x) ∧ zInv w9' m n9 ∧ ∃ r9 : Int32, v9 = some (.int r9) ∧ True)) = Post
  show zP (d + 1) zq_X16_roots 0 [(0, .ref m), (1, .int s9)] [] w sz 0 0 Post
  have k1 := zrng s9
  obtain ⟨g, r, hm, hR_m, hSl0, hMd0, hPl0, ⟨ff, hAf0, hff⟩, hBo0, hBl0, hGa0, hGb0, hBd0, hI12, hI24, hI29, hI31, hIn⟩ := hI
  have k2 := zrng (g 12)
  have hz3 : ((g 12).toNatClampNeg : Int) = (g 12).toInt := znat (by first | omega | decide)
  have k4 := zrng (g 24)
  have hz5 : ((g 24).toNatClampNeg : Int) = (g 24).toInt := znat (by first | omega | decide)
  have k6 := zrng (g 29)
  have hz7 : ((g 29).toNatClampNeg : Int) = (g 29).toInt := znat (by first | omega | decide)
  have k8 := zrng (g 31)
  have hz9 : ((g 31).toNatClampNeg : Int) = (g 31).toInt := znat (by first | omega | decide)
  refine zp_seg (pc' := 1) (lv' := [(0, .ref m), (1, .int s9)]) (st' := [.int s9]) [(0, .iload_n 1)] (by decide +kernel) rfl ?_
  refine zr_callS (idx := 551) (j := 336) (by decide +kernel) (by decide +kernel) (by decide) (show zMe 336 = some zq_X16_isSlot from rfl) rfl rfl (Nat.le_of_ble_eq_true rfl) rfl rfl (Nat.le_of_ble_eq_true rfl) (Nat.le_of_ble_eq_true rfl) (c_X16_isSlot (w := w) s9 ) (by omega) (fun v1 w1 hp1 => ?_)
  obtain ⟨hpw1, r1, rfl, hrb1, hr1⟩ := hp1
  replace hpw1 := hpw1.symm
  subst hpw1
  have kr1 := zrng r1
  show zP _ _ _ _ [.int r1] _ _ _ _ _
  refine zp_if (i := .ifCond .ne 5) (c := ¬ r1 = 0) (t := 9) (e := 7) (lv' := [(0, .ref m), (1, .int s9)]) (st' := []) (by decide +kernel) rfl (fun cc4 => ?_) (fun cc4 => ?_)
  ·
    have f11 := zneI cc4
    rw [show (0 : Int32).toInt = 0 from by decide] at f11
    have his1 := hr1 (hrb1.resolve_left cc4)
    refine zp_seg (pc' := 10) (lv' := [(0, .ref m), (1, .int s9)]) (st' := [.ref m]) [(9, .aload_n 0)] (by decide +kernel) rfl ?_
    refine zr_get (idx := 450) (k := 20) (v := .ref (m + 82)) (by decide +kernel) (by decide +kernel) hm rfl ?_
    refine zp_seg (pc' := 14) (lv' := [(0, .ref m), (1, .int s9)]) (st' := [.int s9, .ref (m + 82)]) [(13, .iload_n 1)] (by decide +kernel) rfl ?_
    have hb13 := hR_m.slots
    have hz14 : (s9.toNatClampNeg : Int) = s9.toInt := znat (by first | omega | decide)
    refine zr_aald (v := .ref (m + 7486 + 9 * s9.toNatClampNeg)) (by decide +kernel) hb13 (by decide) (zin (by first | omega | decide) (by first | omega | decide)) (zsl_at (by omega)) ?_
    refine zp_seg (pc' := 16) (lv' := [(2, .ref (m + 7486 + 9 * s9.toNatClampNeg)), (0, .ref m), (1, .int s9)]) (st' := []) [(15, .astore_n 2)] (by decide +kernel) rfl ?_
    obtain ⟨kS1, hkS1⟩ := hSl0 s9.toNatClampNeg (by omega)
    obtain ⟨g1, fn1, fd1, fa1, fb1, fc1, fe1, fr1, fu1, hT1, hAn1, hAd1, hAa1, hAb1, hAc1, hAe1, hAr1, hAu1, hK1⟩ := id hkS1
    obtain ⟨hK10, hKn1, hKd1, hKx1, hKm1, hKl1, hKr1, hKu1, hKk1⟩ := id hK1
    refine zp_seg (pc' := 17) (lv' := [(2, .ref (m + 7486 + 9 * s9.toNatClampNeg)), (0, .ref m), (1, .int s9)]) (st' := [.ref (m + 7486 + 9 * s9.toNatClampNeg)]) [(16, .aload_n 2)] (by decide +kernel) rfl ?_
    refine zr_callS (idx := 637) (j := 364) (by decide +kernel) (by decide +kernel) (by decide) (show zMe 364 = some zq_X16_isPolynomial from rfl) rfl rfl (Nat.le_of_ble_eq_true rfl) rfl rfl (Nat.le_of_ble_eq_true rfl) (Nat.le_of_ble_eq_true rfl) (c_X16_isPolynomial (w := w) (m + 7486 + 9 * s9.toNatClampNeg) hT1 hAd1) (by omega) (fun v17 w17 hp17 => ?_)
    obtain ⟨hpw17, r17, rfl, hrb17, hr17⟩ := hp17
    replace hpw17 := hpw17.symm
    subst hpw17
    have kr17 := zrng r17
    show zP _ _ _ _ [.int r17] _ _ _ _ _
    refine zp_if (i := .ifCond .eq 21) (c := r17 = 0) (t := 41) (e := 23) (lv' := [(2, .ref (m + 7486 + 9 * s9.toNatClampNeg)), (0, .ref m), (1, .int s9)]) (st' := []) (by decide +kernel) rfl (fun cc20 => ?_) (fun cc20 => ?_)
    ·
      have f15 := zeqI cc20
      rw [show (0 : Int32).toInt = 0 from by decide] at f15
      refine zp_seg (pc' := 43) (lv' := [(2, .ref (m + 7486 + 9 * s9.toNatClampNeg)), (0, .ref m), (1, .int s9)]) (st' := [.int (Int32.ofInt (-3))]) [(41, .bipush (-3))] (by decide +kernel) rfl ?_
      have hoffend : ∀ x, (x < m + 0 ∨ m + 0 + 8322 ≤ x) → w x = w x := fun x hx => rfl
      refine zr_retI (by decide +kernel) rfl ?_
      rw [← hPost]; exact ⟨rfl, _, rfl, zSI.rf, hoffend, ⟨_, _, hm, hR_m, hSl0, hMd0, hPl0, ⟨_, hAf0, hff⟩, hBo0, hBl0, hGa0, hGb0, hBd0, hI12, hI24, hI29, hI31, hIn⟩, _, rfl, trivial⟩
    ·
      have f17 := zneI cc20
      rw [show (0 : Int32).toInt = 0 from by decide] at f17
      refine zp_seg (pc' := 24) (lv' := [(2, .ref (m + 7486 + 9 * s9.toNatClampNeg)), (0, .ref m), (1, .int s9)]) (st' := [.ref (m + 7486 + 9 * s9.toNatClampNeg)]) [(23, .aload_n 2)] (by decide +kernel) rfl ?_
      refine zr_callS (idx := 288) (j := 306) (by decide +kernel) (by decide +kernel) (by decide) (show zMe 306 = some zq_X16_isZero from rfl) rfl rfl (Nat.le_of_ble_eq_true rfl) rfl rfl (Nat.le_of_ble_eq_true rfl) (Nat.le_of_ble_eq_true rfl) (c_X16_isZero (w := w) (m + 7486 + 9 * s9.toNatClampNeg) hT1 hAn1 (by exact hKn1)) (by omega) (fun v24 w24 hp24 => ?_)
      obtain ⟨hpw24, r24, rfl, hrb24, hr24⟩ := hp24
      replace hpw24 := hpw24.symm
      subst hpw24
      have kr24 := zrng r24
      show zP _ _ _ _ [.int r24] _ _ _ _ _
      refine zp_if (i := .ifCond .ne 14) (c := ¬ r24 = 0) (t := 41) (e := 30) (lv' := [(2, .ref (m + 7486 + 9 * s9.toNatClampNeg)), (0, .ref m), (1, .int s9)]) (st' := []) (by decide +kernel) rfl (fun cc27 => ?_) (fun cc27 => ?_)
      ·
        have f18 := zneI cc27
        rw [show (0 : Int32).toInt = 0 from by decide] at f18
        refine zp_seg (pc' := 43) (lv' := [(2, .ref (m + 7486 + 9 * s9.toNatClampNeg)), (0, .ref m), (1, .int s9)]) (st' := [.int (Int32.ofInt (-3))]) [(41, .bipush (-3))] (by decide +kernel) rfl ?_
        have hoffend : ∀ x, (x < m + 0 ∨ m + 0 + 8322 ≤ x) → w x = w x := fun x hx => rfl
        refine zr_retI (by decide +kernel) rfl ?_
        rw [← hPost]; exact ⟨rfl, _, rfl, zSI.rf, hoffend, ⟨_, _, hm, hR_m, hSl0, hMd0, hPl0, ⟨_, hAf0, hff⟩, hBo0, hBl0, hGa0, hGb0, hBd0, hI12, hI24, hI29, hI31, hIn⟩, _, rfl, trivial⟩
      ·
        replace cc27 := Classical.not_not.mp cc27
        have f20 := zeqI cc27
        rw [show (0 : Int32).toInt = 0 from by decide] at f20
        refine zp_seg (pc' := 31) (lv' := [(2, .ref (m + 7486 + 9 * s9.toNatClampNeg)), (0, .ref m), (1, .int s9)]) (st' := [.ref (m + 7486 + 9 * s9.toNatClampNeg)]) [(30, .aload_n 2)] (by decide +kernel) rfl ?_
        refine zr_get (idx := 207) (k := 1) (v := .ref (m + 7486 + 9 * s9.toNatClampNeg + 1)) (by decide +kernel) (by decide +kernel) hT1 rfl ?_
        refine zp_seg (pc' := 35) (lv' := [(2, .ref (m + 7486 + 9 * s9.toNatClampNeg)), (0, .ref m), (1, .int s9)]) (st' := [.int 1, .ref (m + 7486 + 9 * s9.toNatClampNeg + 1)]) [(34, .iconst 1)] (by decide +kernel) rfl ?_
        refine zr_callS (idx := 603) (j := 354) (by decide +kernel) (by decide +kernel) (by decide) (show zMe 354 = some zq_X16_degree from rfl) rfl rfl (Nat.le_of_ble_eq_true rfl) rfl rfl (Nat.le_of_ble_eq_true rfl) (Nat.le_of_ble_eq_true rfl) (c_X16_degree (w := w) (m + 7486 + 9 * s9.toNatClampNeg + 1) 1 hAn1) (by omega) (fun v35 w35 hp35 => ?_)
        obtain ⟨hpw35, r35, rfl, hr35⟩ := hp35
        replace hpw35 := hpw35.symm
        subst hpw35
        have kr35 := zrng r35
        show zP _ _ _ _ [.int r35] _ _ _ _ _
        refine zp_if (i := .ifCond .le 6) (c := r35 ≤ 0) (t := 44) (e := 41) (lv' := [(2, .ref (m + 7486 + 9 * s9.toNatClampNeg)), (0, .ref m), (1, .int s9)]) (st' := []) (by decide +kernel) rfl (fun cc38 => ?_) (fun cc38 => ?_)
        ·
          have f21 := zleI cc38
          rw [show (0 : Int32).toInt = 0 from by decide] at f21
          refine zp_seg (pc' := 45) (lv' := [(2, .ref (m + 7486 + 9 * s9.toNatClampNeg)), (0, .ref m), (1, .int s9)]) (st' := [.ref m]) [(44, .aload_n 0)] (by decide +kernel) rfl ?_
          refine zr_callV (idx := 555) (j := 337) (by decide +kernel) (by decide +kernel) (show zMe 337 = some zq_X16_begin from rfl) rfl rfl (Nat.le_of_ble_eq_true rfl) rfl rfl hm (Nat.le_of_ble_eq_true rfl) (Nat.le_of_ble_eq_true rfl) (c_X16_beginZ (w := w) m hm hR_m) (by omega) (fun v45 w45 hp45 => ?_)
          obtain ⟨Z9_45, hsi45, heq45, hp45_0, hp45_1, rfl⟩ := hp45
          have hM45 : w45 m = some (.inl (15, zMo m (zs (zs (zs g 1 Z9_45) 3 Z9_45) 16 Z9_45) r)) := hp45_0
          show zP _ _ _ _ [] _ _ _ _ _
          have k22 := zrng Z9_45
          have hz23 : (Z9_45.toNatClampNeg : Int) = Z9_45.toInt := znat (by first | omega | decide)
          have hgzZ9_45_0 : Z9_45.toNatClampNeg = 0 := by omega
          have k25 := zaddC Z9_45 1 (n := 1) (by decide) (by omega) (by omega)
          have hz26 : ((Z9_45 + 1).toNatClampNeg : Int) = (Z9_45 + 1).toInt := znat (by first | omega | decide)
          have hgzZ9_45_1 : (Z9_45 + 1).toNatClampNeg = 1 := by omega
          have k27 := zaddC (Z9_45 + 1) 1 (n := 1) (by decide) (by omega) (by omega)
          have hz28 : ((Z9_45 + 1 + 1).toNatClampNeg : Int) = (Z9_45 + 1 + 1).toInt := znat (by first | omega | decide)
          have hgzZ9_45_2 : (Z9_45 + 1 + 1).toNatClampNeg = 2 := by omega
          have k29 := zaddC (Z9_45 + 1 + 1) 1 (n := 1) (by decide) (by omega) (by omega)
          have hz30 : ((Z9_45 + 1 + 1 + 1).toNatClampNeg : Int) = (Z9_45 + 1 + 1 + 1).toInt := znat (by first | omega | decide)
          have hgzZ9_45_3 : (Z9_45 + 1 + 1 + 1).toNatClampNeg = 3 := by omega
          have k31 := zaddC (Z9_45 + 1 + 1 + 1) 1 (n := 1) (by decide) (by omega) (by omega)
          have hz32 : ((Z9_45 + 1 + 1 + 1 + 1).toNatClampNeg : Int) = (Z9_45 + 1 + 1 + 1 + 1).toInt := znat (by first | omega | decide)
          have hgzZ9_45_4 : (Z9_45 + 1 + 1 + 1 + 1).toNatClampNeg = 4 := by omega
          have k33 := zaddC (Z9_45 + 1 + 1 + 1 + 1) 1 (n := 1) (by decide) (by omega) (by omega)
          have hz34 : ((Z9_45 + 1 + 1 + 1 + 1 + 1).toNatClampNeg : Int) = (Z9_45 + 1 + 1 + 1 + 1 + 1).toInt := znat (by first | omega | decide)
          have hgzZ9_45_5 : (Z9_45 + 1 + 1 + 1 + 1 + 1).toNatClampNeg = 5 := by omega
          refine zp_seg (pc' := 49) (lv' := [(2, .ref (m + 7486 + 9 * s9.toNatClampNeg)), (0, .ref m), (1, .int s9)]) (st' := [.ref m]) [(48, .aload_n 0)] (by decide +kernel) rfl ?_
          have hb35 := hR_m.si hsi45
          refine zr_callV (idx := 74) (j := 263) (by decide +kernel) (by decide +kernel) (show zMe 263 = some zq_X16_newU from rfl) rfl rfl (Nat.le_of_ble_eq_true rfl) rfl rfl hM45 (Nat.le_of_ble_eq_true rfl) (Nat.le_of_ble_eq_true rfl) (c_X16_newU (w := w45) (g1 := Z9_45) m hM45 hb35 (by first | omega | decide | assumption | exact zr1_1 | exact zr1_0 | fail "num") rfl) (by omega) (fun v49 w49 hp49 => ?_)
          obtain ⟨hsi49, heq49, hp49_0, hp49_1, rfl⟩ := hp49
          have hM49 : w49 m = some (.inl (15, zMo m (zs (zs (zs g 1 (Z9_45 + 1)) 3 Z9_45) 16 Z9_45) r)) := hp49_0
          show zP _ _ _ _ [.ref (m + 276 + 2 * Z9_45.toNatClampNeg)] _ _ _ _ _
          refine zp_seg (pc' := 54) (lv' := [(3, .ref (m + 276 + 2 * Z9_45.toNatClampNeg)), (2, .ref (m + 7486 + 9 * s9.toNatClampNeg)), (0, .ref m), (1, .int s9)]) (st' := [.ref m]) [(52, .astore_n 3), (53, .aload_n 0)] (by decide +kernel) rfl ?_
          have hb36 := hb35.si hsi49
          refine zr_callV (idx := 74) (j := 263) (by decide +kernel) (by decide +kernel) (show zMe 263 = some zq_X16_newU from rfl) rfl rfl (Nat.le_of_ble_eq_true rfl) rfl rfl hM49 (Nat.le_of_ble_eq_true rfl) (Nat.le_of_ble_eq_true rfl) (c_X16_newU (w := w49) (g1 := (Z9_45 + 1)) m hM49 hb36 (by first | omega | decide | assumption | exact zr1_1 | exact zr1_0 | fail "num") rfl) (by omega) (fun v54 w54 hp54 => ?_)
          obtain ⟨hsi54, heq54, hp54_0, hp54_1, rfl⟩ := hp54
          have hM54 : w54 m = some (.inl (15, zMo m (zs (zs (zs g 1 (Z9_45 + 1 + 1)) 3 Z9_45) 16 Z9_45) r)) := hp54_0
          show zP _ _ _ _ [.ref (m + 276 + 2 * (Z9_45 + 1).toNatClampNeg)] _ _ _ _ _
          refine zp_seg (pc' := 60) (lv' := [(4, .ref (m + 276 + 2 * (Z9_45 + 1).toNatClampNeg)), (3, .ref (m + 276 + 2 * Z9_45.toNatClampNeg)), (2, .ref (m + 7486 + 9 * s9.toNatClampNeg)), (0, .ref m), (1, .int s9)]) (st' := [.ref m]) [(57, .astore 4), (59, .aload_n 0)] (by decide +kernel) rfl ?_
          have hb37 := hb36.si hsi54
          refine zr_callV (idx := 74) (j := 263) (by decide +kernel) (by decide +kernel) (show zMe 263 = some zq_X16_newU from rfl) rfl rfl (Nat.le_of_ble_eq_true rfl) rfl rfl hM54 (Nat.le_of_ble_eq_true rfl) (Nat.le_of_ble_eq_true rfl) (c_X16_newU (w := w54) (g1 := (Z9_45 + 1 + 1)) m hM54 hb37 (by first | omega | decide | assumption | exact zr1_1 | exact zr1_0 | fail "num") rfl) (by omega) (fun v60 w60 hp60 => ?_)
          obtain ⟨hsi60, heq60, hp60_0, hp60_1, rfl⟩ := hp60
          have hM60 : w60 m = some (.inl (15, zMo m (zs (zs (zs g 1 (Z9_45 + 1 + 1 + 1)) 3 Z9_45) 16 Z9_45) r)) := hp60_0
          show zP _ _ _ _ [.ref (m + 276 + 2 * (Z9_45 + 1 + 1).toNatClampNeg)] _ _ _ _ _
          refine zp_seg (pc' := 66) (lv' := [(5, .ref (m + 276 + 2 * (Z9_45 + 1 + 1).toNatClampNeg)), (4, .ref (m + 276 + 2 * (Z9_45 + 1).toNatClampNeg)), (3, .ref (m + 276 + 2 * Z9_45.toNatClampNeg)), (2, .ref (m + 7486 + 9 * s9.toNatClampNeg)), (0, .ref m), (1, .int s9)]) (st' := [.ref m]) [(63, .astore 5), (65, .aload_n 0)] (by decide +kernel) rfl ?_
          have hb38 := hb37.si hsi60
          refine zr_callV (idx := 74) (j := 263) (by decide +kernel) (by decide +kernel) (show zMe 263 = some zq_X16_newU from rfl) rfl rfl (Nat.le_of_ble_eq_true rfl) rfl rfl hM60 (Nat.le_of_ble_eq_true rfl) (Nat.le_of_ble_eq_true rfl) (c_X16_newU (w := w60) (g1 := (Z9_45 + 1 + 1 + 1)) m hM60 hb38 (by first | omega | decide | assumption | exact zr1_1 | exact zr1_0 | fail "num") rfl) (by omega) (fun v66 w66 hp66 => ?_)
          obtain ⟨hsi66, heq66, hp66_0, hp66_1, rfl⟩ := hp66
          have hM66 : w66 m = some (.inl (15, zMo m (zs (zs (zs g 1 (Z9_45 + 1 + 1 + 1 + 1)) 3 Z9_45) 16 Z9_45) r)) := hp66_0
          show zP _ _ _ _ [.ref (m + 276 + 2 * (Z9_45 + 1 + 1 + 1).toNatClampNeg)] _ _ _ _ _
          refine zp_seg (pc' := 72) (lv' := [(6, .ref (m + 276 + 2 * (Z9_45 + 1 + 1 + 1).toNatClampNeg)), (5, .ref (m + 276 + 2 * (Z9_45 + 1 + 1).toNatClampNeg)), (4, .ref (m + 276 + 2 * (Z9_45 + 1).toNatClampNeg)), (3, .ref (m + 276 + 2 * Z9_45.toNatClampNeg)), (2, .ref (m + 7486 + 9 * s9.toNatClampNeg)), (0, .ref m), (1, .int s9)]) (st' := [.ref m]) [(69, .astore 6), (71, .aload_n 0)] (by decide +kernel) rfl ?_
          have hb39 := hb38.si hsi66
          refine zr_callV (idx := 74) (j := 263) (by decide +kernel) (by decide +kernel) (show zMe 263 = some zq_X16_newU from rfl) rfl rfl (Nat.le_of_ble_eq_true rfl) rfl rfl hM66 (Nat.le_of_ble_eq_true rfl) (Nat.le_of_ble_eq_true rfl) (c_X16_newU (w := w66) (g1 := (Z9_45 + 1 + 1 + 1 + 1)) m hM66 hb39 (by first | omega | decide | assumption | exact zr1_1 | exact zr1_0 | fail "num") rfl) (by omega) (fun v72 w72 hp72 => ?_)
          obtain ⟨hsi72, heq72, hp72_0, hp72_1, rfl⟩ := hp72
          have hM72 : w72 m = some (.inl (15, zMo m (zs (zs (zs g 1 (Z9_45 + 1 + 1 + 1 + 1 + 1)) 3 Z9_45) 16 Z9_45) r)) := hp72_0
          show zP _ _ _ _ [.ref (m + 276 + 2 * (Z9_45 + 1 + 1 + 1 + 1).toNatClampNeg)] _ _ _ _ _
          refine zp_seg (pc' := 79) (lv' := [(7, .ref (m + 276 + 2 * (Z9_45 + 1 + 1 + 1 + 1).toNatClampNeg)), (6, .ref (m + 276 + 2 * (Z9_45 + 1 + 1 + 1).toNatClampNeg)), (5, .ref (m + 276 + 2 * (Z9_45 + 1 + 1).toNatClampNeg)), (4, .ref (m + 276 + 2 * (Z9_45 + 1).toNatClampNeg)), (3, .ref (m + 276 + 2 * Z9_45.toNatClampNeg)), (2, .ref (m + 7486 + 9 * s9.toNatClampNeg)), (0, .ref m), (1, .int s9)]) (st' := [.ref (m + 7486 + 9 * s9.toNatClampNeg), .ref (m + 276 + 2 * Z9_45.toNatClampNeg)]) [(75, .astore 7), (77, .aload_n 3), (78, .aload_n 2)] (by decide +kernel) rfl ?_
          have hb40 : w72 (m + 7486 + 9 * s9.toNatClampNeg) = some (.inl (13, zTo (m + 7486 + 9 * s9.toNatClampNeg) g1)) := ((heq72 (m + 7486 + 9 * s9.toNatClampNeg) (by omega)).trans ((heq66 (m + 7486 + 9 * s9.toNatClampNeg) (by omega)).trans ((heq60 (m + 7486 + 9 * s9.toNatClampNeg) (by omega)).trans ((heq54 (m + 7486 + 9 * s9.toNatClampNeg) (by omega)).trans ((heq49 (m + 7486 + 9 * s9.toNatClampNeg) (by omega)).trans (heq45 (m + 7486 + 9 * s9.toNatClampNeg) (by omega))))))).trans hT1
          refine zr_get (idx := 207) (k := 1) (v := .ref (m + 7486 + 9 * s9.toNatClampNeg + 1)) (by decide +kernel) (by decide +kernel) hb40 rfl ?_
          refine zp_seg (pc' := 83) (lv' := [(7, .ref (m + 276 + 2 * (Z9_45 + 1 + 1 + 1 + 1).toNatClampNeg)), (6, .ref (m + 276 + 2 * (Z9_45 + 1 + 1 + 1).toNatClampNeg)), (5, .ref (m + 276 + 2 * (Z9_45 + 1 + 1).toNatClampNeg)), (4, .ref (m + 276 + 2 * (Z9_45 + 1).toNatClampNeg)), (3, .ref (m + 276 + 2 * Z9_45.toNatClampNeg)), (2, .ref (m + 7486 + 9 * s9.toNatClampNeg)), (0, .ref m), (1, .int s9)]) (st' := [.int 0, .ref (m + 7486 + 9 * s9.toNatClampNeg + 1), .ref (m + 276 + 2 * Z9_45.toNatClampNeg)]) [(82, .iconst 0)] (by decide +kernel) rfl ?_
          have hb41 : zU w72 (m + 276 + 2 * Z9_45.toNatClampNeg) 1000 zaZ := hp49_1.ag (fun x hx1 hx2 => ((heq72 x ⟨(zx_X16_roots_0 hx1 hx2 hgzZ9_45_0), (zx_X16_roots_4 hx1 hx2 hgzZ9_45_0 hgzZ9_45_4)⟩).trans ((heq66 x ⟨(zx_X16_roots_0 hx1 hx2 hgzZ9_45_0), (zx_X16_roots_3 hx1 hx2 hgzZ9_45_0 hgzZ9_45_3)⟩).trans ((heq60 x ⟨(zx_X16_roots_0 hx1 hx2 hgzZ9_45_0), (zx_X16_roots_2 hx1 hx2 hgzZ9_45_0 hgzZ9_45_2)⟩).trans (heq54 x ⟨(zx_X16_roots_0 hx1 hx2 hgzZ9_45_0), (zx_X16_roots_1 hx1 hx2 hgzZ9_45_0 hgzZ9_45_1)⟩)))))
          have ho83_u := zU.o hb41
          have hb42 : w72 (m + 7486 + 9 * s9.toNatClampNeg + 1) = some (.inr (0, 325, .inl fn1)) := ((heq72 (m + 7486 + 9 * s9.toNatClampNeg + 1) (by omega)).trans ((heq66 (m + 7486 + 9 * s9.toNatClampNeg + 1) (by omega)).trans ((heq60 (m + 7486 + 9 * s9.toNatClampNeg + 1) (by omega)).trans ((heq54 (m + 7486 + 9 * s9.toNatClampNeg + 1) (by omega)).trans ((heq49 (m + 7486 + 9 * s9.toNatClampNeg + 1) (by omega)).trans (heq45 (m + 7486 + 9 * s9.toNatClampNeg + 1) (by omega))))))).trans hAn1
          refine zr_callS (idx := 775) (j := 301) (by decide +kernel) (by decide +kernel) (by decide) (show zMe 301 = some zq_X16_load_ from rfl) rfl rfl (Nat.le_of_ble_eq_true rfl) rfl rfl (Nat.le_of_ble_eq_true rfl) (Nat.le_of_ble_eq_true rfl) (c_X16_load_ (w := w72) (m + 276 + 2 * Z9_45.toNatClampNeg) (m + 7486 + 9 * s9.toNatClampNeg + 1) 0 ho83_u hb42 (by first | omega | decide | assumption | exact zr1_1 | exact zr1_0 | fail "num") (by first | omega | decide | assumption | exact zr1_1 | exact zr1_0 | fail "num") (by exact fun i hi => hKn1 _ (by have h9 : (0 : Int32).toNatClampNeg = 0 := (by decide); omega)) (by first | omega | decide | assumption | exact zr1_1 | exact zr1_0 | fail "num")) (by omega) (fun v83 w83 hp83 => ?_)
          obtain ⟨hsi83, heq83, hp83_0, rfl⟩ := hp83
          show zP _ _ _ _ [] _ _ _ _ _
          refine zp_seg (pc' := 88) (lv' := [(7, .ref (m + 276 + 2 * (Z9_45 + 1 + 1 + 1 + 1).toNatClampNeg)), (6, .ref (m + 276 + 2 * (Z9_45 + 1 + 1 + 1).toNatClampNeg)), (5, .ref (m + 276 + 2 * (Z9_45 + 1 + 1).toNatClampNeg)), (4, .ref (m + 276 + 2 * (Z9_45 + 1).toNatClampNeg)), (3, .ref (m + 276 + 2 * Z9_45.toNatClampNeg)), (2, .ref (m + 7486 + 9 * s9.toNatClampNeg)), (0, .ref m), (1, .int s9)]) (st' := [.int 0, .ref m]) [(86, .aload_n 0), (87, .iconst 0)] (by decide +kernel) rfl ?_
          obtain ⟨fc0, hfc0⟩ : ∃ x9 : Int32, x9 = 0 := ⟨_, rfl⟩
          rw [← hfc0]
          have hfc0_v : fc0.toInt = 0 := by rw [hfc0]; decide
          have k43 := zrng fc0
          have hz44 : (fc0.toNatClampNeg : Int) = fc0.toInt := znat (by first | omega | decide)
          have hb45 : w83 m = some (.inl (15, zMo m (zs (zs (zs g 1 (Z9_45 + 1 + 1 + 1 + 1 + 1)) 3 Z9_45) 16 Z9_45) r)) := (heq83 m (zx_X16_roots_5 hgzZ9_45_0)).trans hM72
          refine zr_put2 (idx := 814) (k := 63) (fs2 := zMo m (zs (zs (zs (zs g 1 (Z9_45 + 1 + 1 + 1 + 1 + 1)) 3 Z9_45) 16 Z9_45) 63 fc0) r) (by decide +kernel) (by decide +kernel) hb45 (Nat.le_of_ble_eq_true rfl) rfl rfl rfl ?_
          show zP (d + 1) zq_X16_roots 91 [(7, .ref (m + 276 + 2 * (Z9_45 + 1 + 1 + 1 + 1).toNatClampNeg)), (6, .ref (m + 276 + 2 * (Z9_45 + 1 + 1 + 1).toNatClampNeg)), (5, .ref (m + 276 + 2 * (Z9_45 + 1 + 1).toNatClampNeg)), (4, .ref (m + 276 + 2 * (Z9_45 + 1).toNatClampNeg)), (3, .ref (m + 276 + 2 * Z9_45.toNatClampNeg)), (2, .ref (m + 7486 + 9 * s9.toNatClampNeg)), (0, .ref m), (1, .int s9)] [] (zup w83 m (.inl (15, zMo m (zs (zs (zs (zs g 1 (Z9_45 + 1 + 1 + 1 + 1 + 1)) 3 Z9_45) 16 Z9_45) 63 fc0) r))) sz 0 0 Post
          obtain ⟨w88, ew88⟩ : ∃ wz9, wz9 = zup w83 m (.inl (15, zMo m (zs (zs (zs (zs g 1 (Z9_45 + 1 + 1 + 1 + 1 + 1)) 3 Z9_45) 16 Z9_45) 63 fc0) r)) := ⟨_, rfl⟩
          have hsi88 : zSI w83 w88 := by rw [ew88]; exact zSI.setG hb45 _ _
          have heq88 : ∀ x, x ≠ m → w88 x = w83 x := fun x hx => by rw [ew88]; exact zup_n hx
          have hc88 : w88 m = some (.inl (15, zMo m (zs (zs (zs (zs g 1 (Z9_45 + 1 + 1 + 1 + 1 + 1)) 3 Z9_45) 16 Z9_45) 63 fc0) r)) := by rw [ew88]; exact zup_s
          rw [← ew88]
          clear ew88
          refine zp_seg (pc' := 93) (lv' := [(7, .ref (m + 276 + 2 * (Z9_45 + 1 + 1 + 1 + 1).toNatClampNeg)), (6, .ref (m + 276 + 2 * (Z9_45 + 1 + 1 + 1).toNatClampNeg)), (5, .ref (m + 276 + 2 * (Z9_45 + 1 + 1).toNatClampNeg)), (4, .ref (m + 276 + 2 * (Z9_45 + 1).toNatClampNeg)), (3, .ref (m + 276 + 2 * Z9_45.toNatClampNeg)), (2, .ref (m + 7486 + 9 * s9.toNatClampNeg)), (0, .ref m), (1, .int s9)]) (st' := [.int 0, .ref m]) [(91, .aload_n 0), (92, .iconst 0)] (by decide +kernel) rfl ?_
          obtain ⟨rc0, hrc0⟩ : ∃ x9 : Int32, x9 = 0 := ⟨_, rfl⟩
          rw [← hrc0]
          have hrc0_v : rc0.toInt = 0 := by rw [hrc0]; decide
          have k46 := zrng rc0
          have hz47 : (rc0.toNatClampNeg : Int) = rc0.toInt := znat (by first | omega | decide)
          refine zr_put2 (idx := 610) (k := 31) (fs2 := zMo m (zs (zs (zs (zs (zs g 1 (Z9_45 + 1 + 1 + 1 + 1 + 1)) 3 Z9_45) 16 Z9_45) 31 rc0) 63 fc0) r) (by decide +kernel) (by decide +kernel) hc88 (Nat.le_of_ble_eq_true rfl) rfl rfl rfl ?_
          show zP (d + 1) zq_X16_roots 96 [(7, .ref (m + 276 + 2 * (Z9_45 + 1 + 1 + 1 + 1).toNatClampNeg)), (6, .ref (m + 276 + 2 * (Z9_45 + 1 + 1 + 1).toNatClampNeg)), (5, .ref (m + 276 + 2 * (Z9_45 + 1 + 1).toNatClampNeg)), (4, .ref (m + 276 + 2 * (Z9_45 + 1).toNatClampNeg)), (3, .ref (m + 276 + 2 * Z9_45.toNatClampNeg)), (2, .ref (m + 7486 + 9 * s9.toNatClampNeg)), (0, .ref m), (1, .int s9)] [] (zup w88 m (.inl (15, zMo m (zs (zs (zs (zs (zs g 1 (Z9_45 + 1 + 1 + 1 + 1 + 1)) 3 Z9_45) 16 Z9_45) 31 rc0) 63 fc0) r))) sz 0 0 Post
          obtain ⟨w93, ew93⟩ : ∃ wz9, wz9 = zup w88 m (.inl (15, zMo m (zs (zs (zs (zs (zs g 1 (Z9_45 + 1 + 1 + 1 + 1 + 1)) 3 Z9_45) 16 Z9_45) 31 rc0) 63 fc0) r)) := ⟨_, rfl⟩
          have hsi93 : zSI w88 w93 := by rw [ew93]; exact zSI.setG hc88 _ _
          have heq93 : ∀ x, x ≠ m → w93 x = w88 x := fun x hx => by rw [ew93]; exact zup_n hx
          have hc93 : w93 m = some (.inl (15, zMo m (zs (zs (zs (zs (zs g 1 (Z9_45 + 1 + 1 + 1 + 1 + 1)) 3 Z9_45) 16 Z9_45) 31 rc0) 63 fc0) r)) := by rw [ew93]; exact zup_s
          rw [← ew93]
          clear ew93
          have hb48 : zU w93 (m + 276 + 2 * Z9_45.toNatClampNeg) 1000 (zaOf (fun i => zf (fn1 ((0 : Int32).toNatClampNeg + i))) 25) := hp83_0.ag (fun x hx1 hx2 => ((heq93 x (zx_X16_roots_6 hx1 hx2 hgzZ9_45_0)).trans (heq88 x (zx_X16_roots_6 hx1 hx2 hgzZ9_45_0))))
          have hfl9 := (hb48).cap
          have hf25 := zaOf_ln (fun i => zf (fn1 ((0 : Int32).toNatClampNeg + i))) 25
          refine zp_seg (pc' := 97) (lv' := [(7, .ref (m + 276 + 2 * (Z9_45 + 1 + 1 + 1 + 1).toNatClampNeg)), (6, .ref (m + 276 + 2 * (Z9_45 + 1 + 1 + 1).toNatClampNeg)), (5, .ref (m + 276 + 2 * (Z9_45 + 1 + 1).toNatClampNeg)), (4, .ref (m + 276 + 2 * (Z9_45 + 1).toNatClampNeg)), (3, .ref (m + 276 + 2 * Z9_45.toNatClampNeg)), (2, .ref (m + 7486 + 9 * s9.toNatClampNeg)), (0, .ref m), (1, .int s9)]) (st' := [.ref (m + 276 + 2 * Z9_45.toNatClampNeg)]) [(96, .aload_n 3)] (by decide +kernel) rfl ?_
          obtain ⟨n49, f50, hu51, hu52, hu53, hu54, hu55⟩ := id hb48
          have kn49 := zrng n49
          refine zr_get (idx := 25) (k := 1) (v := .int n49) (by decide +kernel) (by decide +kernel) hu51 rfl ?_
          refine zp_seg (pc' := 101) (lv' := [(7, .ref (m + 276 + 2 * (Z9_45 + 1 + 1 + 1 + 1).toNatClampNeg)), (6, .ref (m + 276 + 2 * (Z9_45 + 1 + 1 + 1).toNatClampNeg)), (5, .ref (m + 276 + 2 * (Z9_45 + 1 + 1).toNatClampNeg)), (4, .ref (m + 276 + 2 * (Z9_45 + 1).toNatClampNeg)), (3, .ref (m + 276 + 2 * Z9_45.toNatClampNeg)), (2, .ref (m + 7486 + 9 * s9.toNatClampNeg)), (0, .ref m), (1, .int s9)]) (st' := [.int 1, .int n49]) [(100, .iconst 1)] (by decide +kernel) rfl ?_
          have hJ164 : ∀ (wL164 : zM) (xF : Int32) (fA : Nat → Int32), (zSI w93 wL164) → (∀ x, ((x < m ∨ m + 1 ≤ x) ∧ (x < m + 274 ∨ m + 274 + 1 ≤ x) ∧ (x < m + 3 ∨ m + 3 + 1 ≤ x) ∧ (x < m + 276 + 2 * (Z9_45 + 1).toNatClampNeg ∨ m + 276 + 2 * (Z9_45 + 1).toNatClampNeg + 318 ≤ x)) ∧ x ≠ m → wL164 x = w93 x) → (wL164 m = some (.inl (15, zMo m (zs (zs (zs (zs (zs g 1 (Z9_45 + 1 + 1 + 1 + 1 + 1)) 3 Z9_45) 16 Z9_45) 31 rc0) 63 xF) r))) → (wL164 (m + 274) = some (.inr (0, 30, .inl fA))) → (zUo wL164 (m + 276 + 2 * (Z9_45 + 1).toNatClampNeg) 1000) → (zUo wL164 (m + 276 + 2 * (Z9_45 + 1 + 1).toNatClampNeg) 1000) → (zUo wL164 (m + 276 + 2 * (Z9_45 + 1 + 1 + 1).toNatClampNeg) 1000) → (zUo wL164 (m + 276 + 2 * (Z9_45 + 1 + 1 + 1 + 1).toNatClampNeg) 1000) → (0 ≤ xF.toInt ∧ xF.toInt ≤ 24 ∧ (0 < xF.toInt → 2 ≤ zln (zaOf (fun i => zf (fn1 ((0 : Int32).toNatClampNeg + i))) 25))) → (∀ i : Nat, (i : Int) < xF.toInt → zr1 (fA i)) → zP (d + 1) zq_X16_roots 164 [(0, .ref m), (3, .ref (m + 276 + 2 * Z9_45.toNatClampNeg)), (5, .ref (m + 276 + 2 * (Z9_45 + 1 + 1).toNatClampNeg)), (6, .ref (m + 276 + 2 * (Z9_45 + 1 + 1 + 1).toNatClampNeg)), (7, .ref (m + 276 + 2 * (Z9_45 + 1 + 1 + 1 + 1).toNatClampNeg))] [] wL164 sz 0 0 Post := by
            intro wL164 xF fA hsiL164 heqL164 hxM hAf hUo0 hUo1 hUo2 hUo3 hxF9 hfz9
            refine zp_seg (pc' := 167) (lv' := [(8, .int 0), (0, .ref m), (3, .ref (m + 276 + 2 * Z9_45.toNatClampNeg)), (5, .ref (m + 276 + 2 * (Z9_45 + 1 + 1).toNatClampNeg)), (6, .ref (m + 276 + 2 * (Z9_45 + 1 + 1 + 1).toNatClampNeg)), (7, .ref (m + 276 + 2 * (Z9_45 + 1 + 1 + 1 + 1).toNatClampNeg))]) (st' := []) [(164, .iconst 0), (165, .istore 8)] (by decide +kernel) rfl ?_
            have hL167 : ∀ (mm167 : Nat) (wL167 : zM) (y8_167 : Int32) (sa : Nat → Int32), (zSI wL164 wL167) → (∀ x, ((x < m + 274 ∨ m + 274 + 1 ≤ x)) ∧ x ≠ m → wL167 x = wL164 x) → (0 ≤ y8_167.toInt) → (y8_167.toInt ≤ xF.toInt) → (wL167 (m + 274) = some (.inr (0, 30, .inl sa))) → (wL167 m = some (.inl (15, zMo m (zs (zs (zs (zs (zs g 1 (Z9_45 + 1 + 1 + 1 + 1 + 1)) 3 Z9_45) 16 Z9_45) 31 rc0) 63 xF) r))) → (∀ i : Nat, (i : Int) < xF.toInt → zr1 (sa i)) → (40 - y8_167.toInt).toNat < mm167 → zP (d + 1) zq_X16_roots 167 [(0, .ref m), (3, .ref (m + 276 + 2 * Z9_45.toNatClampNeg)), (5, .ref (m + 276 + 2 * (Z9_45 + 1 + 1).toNatClampNeg)), (6, .ref (m + 276 + 2 * (Z9_45 + 1 + 1 + 1).toNatClampNeg)), (7, .ref (m + 276 + 2 * (Z9_45 + 1 + 1 + 1 + 1).toNatClampNeg)), (8, .int y8_167)] [] wL167 sz 0 0 Post := by
              intro mm167
              induction mm167 with
              | zero => intros; omega
              | succ mm167 ih167 =>
              intro wL167 y8_167 sa hsiL167 heqL167 hi167_0 hi167_1 hAs hmL167 hsa9 hmu167
              have ky8_167 := zrng y8_167
              have hz56 : (y8_167.toNatClampNeg : Int) = y8_167.toInt := znat (by first | omega | decide)
              refine zp_seg (pc' := 170) (lv' := [(0, .ref m), (3, .ref (m + 276 + 2 * Z9_45.toNatClampNeg)), (5, .ref (m + 276 + 2 * (Z9_45 + 1 + 1).toNatClampNeg)), (6, .ref (m + 276 + 2 * (Z9_45 + 1 + 1 + 1).toNatClampNeg)), (7, .ref (m + 276 + 2 * (Z9_45 + 1 + 1 + 1 + 1).toNatClampNeg)), (8, .int y8_167)]) (st' := [.ref m, .int y8_167]) [(167, .iload 8), (169, .aload_n 0)] (by decide +kernel) rfl ?_
              refine zr_get (idx := 814) (k := 63) (v := .int xF) (by decide +kernel) (by decide +kernel) hmL167 rfl ?_
              refine zp_if (i := .if_icmp .ge 72) (c := xF ≤ y8_167) (t := 245) (e := 176) (lv' := [(0, .ref m), (3, .ref (m + 276 + 2 * Z9_45.toNatClampNeg)), (5, .ref (m + 276 + 2 * (Z9_45 + 1 + 1).toNatClampNeg)), (6, .ref (m + 276 + 2 * (Z9_45 + 1 + 1 + 1).toNatClampNeg)), (7, .ref (m + 276 + 2 * (Z9_45 + 1 + 1 + 1 + 1).toNatClampNeg)), (8, .int y8_167)]) (st' := []) (by decide +kernel) rfl (fun cc173 => ?_) (fun cc173 => ?_)
              ·
                have k57 := zrng xF
                have f58 := zleI cc173
                refine zp_seg (pc' := 248) (lv' := [(8, .int 0), (0, .ref m), (3, .ref (m + 276 + 2 * Z9_45.toNatClampNeg)), (5, .ref (m + 276 + 2 * (Z9_45 + 1 + 1).toNatClampNeg)), (6, .ref (m + 276 + 2 * (Z9_45 + 1 + 1 + 1).toNatClampNeg)), (7, .ref (m + 276 + 2 * (Z9_45 + 1 + 1 + 1 + 1).toNatClampNeg))]) (st' := []) [(245, .iconst 0), (246, .istore 8)] (by decide +kernel) rfl ?_
                have hL248 : ∀ (mm248 : Nat) (wL248 : zM) (y8_248 : Int32) (rv : Int32) (ra : Nat → Int32) (fP : zA1), (zSI wL167 wL248) → (∀ x, ((x < m ∨ m + 1 ≤ x) ∧ (x < m + 95 ∨ m + 95 + 1 ≤ x) ∧ (x < m + 276 + 2 * Z9_45.toNatClampNeg ∨ m + 276 + 2 * Z9_45.toNatClampNeg + 10 ≤ x)) ∧ x ≠ m → wL248 x = wL167 x) → (0 ≤ y8_248.toInt) → (y8_248.toInt ≤ xF.toInt) → (wL248 m = some (.inl (15, zMo m (zs (zs (zs (zs (zs g 1 (Z9_45 + 1 + 1 + 1 + 1 + 1)) 3 Z9_45) 16 Z9_45) 31 rv) 63 xF) r))) → (wL248 (m + 95) = some (.inr (0, 30, .inl ra))) → (zU wL248 (m + 276 + 2 * Z9_45.toNatClampNeg) 1000 fP) → (zUo wL248 (m + 276 + 2 * (Z9_45 + 1 + 1).toNatClampNeg) 1000) → (zUo wL248 (m + 276 + 2 * (Z9_45 + 1 + 1 + 1).toNatClampNeg) 1000) → (zUo wL248 (m + 276 + 2 * (Z9_45 + 1 + 1 + 1 + 1).toNatClampNeg) 1000) → (0 ≤ rv.toInt ∧ rv.toInt ≤ 24 ∧ (0 < xF.toInt → 1 ≤ zln fP ∧ rv.toInt + (zln fP : Int) ≤ 25)) → (40 - y8_248.toInt).toNat < mm248 → zP (d + 1) zq_X16_roots 248 [(0, .ref m), (3, .ref (m + 276 + 2 * Z9_45.toNatClampNeg)), (5, .ref (m + 276 + 2 * (Z9_45 + 1 + 1).toNatClampNeg)), (6, .ref (m + 276 + 2 * (Z9_45 + 1 + 1 + 1).toNatClampNeg)), (7, .ref (m + 276 + 2 * (Z9_45 + 1 + 1 + 1 + 1).toNatClampNeg)), (8, .int y8_248)] [] wL248 sz 0 0 Post := by
                  intro mm248
                  induction mm248 with
                  | zero => intros; omega
                  | succ mm248 ih248 =>
                  intro wL248 y8_248 rv ra fP hsiL248 heqL248 hi248_0 hi248_1 hrM hAr hUf8 hUp1 hUp2 hUp3 hrv9 hmu248
                  have ky8_248 := zrng y8_248
                  have hz59 : (y8_248.toNatClampNeg : Int) = y8_248.toInt := znat (by first | omega | decide)
                  refine zp_seg (pc' := 251) (lv' := [(0, .ref m), (3, .ref (m + 276 + 2 * Z9_45.toNatClampNeg)), (5, .ref (m + 276 + 2 * (Z9_45 + 1 + 1).toNatClampNeg)), (6, .ref (m + 276 + 2 * (Z9_45 + 1 + 1 + 1).toNatClampNeg)), (7, .ref (m + 276 + 2 * (Z9_45 + 1 + 1 + 1 + 1).toNatClampNeg)), (8, .int y8_248)]) (st' := [.ref m, .int y8_248]) [(248, .iload 8), (250, .aload_n 0)] (by decide +kernel) rfl ?_
                  refine zr_get (idx := 814) (k := 63) (v := .int xF) (by decide +kernel) (by decide +kernel) hrM rfl ?_
                  refine zp_if (i := .if_icmp .ge 109) (c := xF ≤ y8_248) (t := 363) (e := 257) (lv' := [(0, .ref m), (3, .ref (m + 276 + 2 * Z9_45.toNatClampNeg)), (5, .ref (m + 276 + 2 * (Z9_45 + 1 + 1).toNatClampNeg)), (6, .ref (m + 276 + 2 * (Z9_45 + 1 + 1 + 1).toNatClampNeg)), (7, .ref (m + 276 + 2 * (Z9_45 + 1 + 1 + 1 + 1).toNatClampNeg)), (8, .int y8_248)]) (st' := []) (by decide +kernel) rfl (fun cc254 => ?_) (fun cc254 => ?_)
                  ·
                    have f60 := zleI cc254
                    refine zp_seg (pc' := 364) (lv' := [(0, .ref m), (3, .ref (m + 276 + 2 * Z9_45.toNatClampNeg)), (5, .ref (m + 276 + 2 * (Z9_45 + 1 + 1).toNatClampNeg)), (6, .ref (m + 276 + 2 * (Z9_45 + 1 + 1 + 1).toNatClampNeg)), (7, .ref (m + 276 + 2 * (Z9_45 + 1 + 1 + 1 + 1).toNatClampNeg)), (8, .int y8_248)]) (st' := [.ref m]) [(363, .aload_n 0)] (by decide +kernel) rfl ?_
                    refine zr_get (idx := 610) (k := 31) (v := .int rv) (by decide +kernel) (by decide +kernel) hrM rfl ?_
                    have hoffend : ∀ x, (x < m + 0 ∨ m + 0 + 8322 ≤ x) → wL248 x = w x := fun x hx => ((heqL248 x ⟨⟨(zx_X16_roots_7 hx), (zx_X16_roots_17 hx), (zx_X16_roots_18 hx hgzZ9_45_0)⟩, (zx_X16_roots_13 hx)⟩).trans ((heqL167 x ⟨(zx_X16_roots_14 hx), (zx_X16_roots_13 hx)⟩).trans ((heqL164 x ⟨⟨(zx_X16_roots_7 hx), (zx_X16_roots_14 hx), (zx_X16_roots_15 hx), (zx_X16_roots_16 hx hgzZ9_45_1)⟩, (zx_X16_roots_13 hx)⟩).trans ((heq93 x (zx_X16_roots_13 hx)).trans ((heq88 x (zx_X16_roots_13 hx)).trans ((heq83 x (zx_X16_roots_8 hx hgzZ9_45_0)).trans ((heq72 x ⟨(zx_X16_roots_7 hx), (zx_X16_roots_12 hx hgzZ9_45_4)⟩).trans ((heq66 x ⟨(zx_X16_roots_7 hx), (zx_X16_roots_11 hx hgzZ9_45_3)⟩).trans ((heq60 x ⟨(zx_X16_roots_7 hx), (zx_X16_roots_10 hx hgzZ9_45_2)⟩).trans ((heq54 x ⟨(zx_X16_roots_7 hx), (zx_X16_roots_9 hx hgzZ9_45_1)⟩).trans ((heq49 x ⟨(zx_X16_roots_7 hx), (zx_X16_roots_8 hx hgzZ9_45_0)⟩).trans (heq45 x (zx_X16_roots_7 hx)))))))))))))
                    have hb61 := hb39.si ((((((hsi72.tr hsi83).tr hsi88).tr hsi93).tr hsiL164).tr hsiL167).tr hsiL248)
                    have hb62 : zSlo wL248 (m + 7486) := hSl0.ag (fun x hx1 hx2 => ((heqL248 x ⟨⟨(zx_X16_roots_19 hx1 hx2), (zx_X16_roots_29 hx1 hx2), (zx_X16_roots_30 hx1 hx2 hgzZ9_45_0)⟩, (zx_X16_roots_25 hx1 hx2)⟩).trans ((heqL167 x ⟨(zx_X16_roots_26 hx1 hx2), (zx_X16_roots_25 hx1 hx2)⟩).trans ((heqL164 x ⟨⟨(zx_X16_roots_19 hx1 hx2), (zx_X16_roots_26 hx1 hx2), (zx_X16_roots_27 hx1 hx2), (zx_X16_roots_28 hx1 hx2 hgzZ9_45_1)⟩, (zx_X16_roots_25 hx1 hx2)⟩).trans ((heq93 x (zx_X16_roots_25 hx1 hx2)).trans ((heq88 x (zx_X16_roots_25 hx1 hx2)).trans ((heq83 x (zx_X16_roots_20 hx1 hx2 hgzZ9_45_0)).trans ((heq72 x ⟨(zx_X16_roots_19 hx1 hx2), (zx_X16_roots_24 hx1 hx2 hgzZ9_45_4)⟩).trans ((heq66 x ⟨(zx_X16_roots_19 hx1 hx2), (zx_X16_roots_23 hx1 hx2 hgzZ9_45_3)⟩).trans ((heq60 x ⟨(zx_X16_roots_19 hx1 hx2), (zx_X16_roots_22 hx1 hx2 hgzZ9_45_2)⟩).trans ((heq54 x ⟨(zx_X16_roots_19 hx1 hx2), (zx_X16_roots_21 hx1 hx2 hgzZ9_45_1)⟩).trans ((heq49 x ⟨(zx_X16_roots_19 hx1 hx2), (zx_X16_roots_20 hx1 hx2 hgzZ9_45_0)⟩).trans (heq45 x (zx_X16_roots_19 hx1 hx2))))))))))))))
                    have hb63 : zTm wL248 (m + 83) := hMd0.ag (fun x hx1 hx2 => ((heqL248 x ⟨⟨(zx_X16_roots_31 hx1 hx2), (zx_X16_roots_41 hx1 hx2), (zx_X16_roots_42 hx1 hx2 hgzZ9_45_0)⟩, (zx_X16_roots_37 hx1 hx2)⟩).trans ((heqL167 x ⟨(zx_X16_roots_38 hx1 hx2), (zx_X16_roots_37 hx1 hx2)⟩).trans ((heqL164 x ⟨⟨(zx_X16_roots_31 hx1 hx2), (zx_X16_roots_38 hx1 hx2), (zx_X16_roots_39 hx1 hx2), (zx_X16_roots_40 hx1 hx2 hgzZ9_45_1)⟩, (zx_X16_roots_37 hx1 hx2)⟩).trans ((heq93 x (zx_X16_roots_37 hx1 hx2)).trans ((heq88 x (zx_X16_roots_37 hx1 hx2)).trans ((heq83 x (zx_X16_roots_32 hx1 hx2 hgzZ9_45_0)).trans ((heq72 x ⟨(zx_X16_roots_31 hx1 hx2), (zx_X16_roots_36 hx1 hx2 hgzZ9_45_4)⟩).trans ((heq66 x ⟨(zx_X16_roots_31 hx1 hx2), (zx_X16_roots_35 hx1 hx2 hgzZ9_45_3)⟩).trans ((heq60 x ⟨(zx_X16_roots_31 hx1 hx2), (zx_X16_roots_34 hx1 hx2 hgzZ9_45_2)⟩).trans ((heq54 x ⟨(zx_X16_roots_31 hx1 hx2), (zx_X16_roots_33 hx1 hx2 hgzZ9_45_1)⟩).trans ((heq49 x ⟨(zx_X16_roots_31 hx1 hx2), (zx_X16_roots_32 hx1 hx2 hgzZ9_45_0)⟩).trans (heq45 x (zx_X16_roots_31 hx1 hx2))))))))))))))
                    have hb64 : zPil wL248 (m + 6316) := hPl0.ag (fun x hx1 hx2 => ((heqL248 x ⟨⟨(zx_X16_roots_43 hx1 hx2), (zx_X16_roots_53 hx1 hx2), (zx_X16_roots_54 hx1 hx2 hgzZ9_45_0)⟩, (zx_X16_roots_49 hx1 hx2)⟩).trans ((heqL167 x ⟨(zx_X16_roots_50 hx1 hx2), (zx_X16_roots_49 hx1 hx2)⟩).trans ((heqL164 x ⟨⟨(zx_X16_roots_43 hx1 hx2), (zx_X16_roots_50 hx1 hx2), (zx_X16_roots_51 hx1 hx2), (zx_X16_roots_52 hx1 hx2 hgzZ9_45_1)⟩, (zx_X16_roots_49 hx1 hx2)⟩).trans ((heq93 x (zx_X16_roots_49 hx1 hx2)).trans ((heq88 x (zx_X16_roots_49 hx1 hx2)).trans ((heq83 x (zx_X16_roots_44 hx1 hx2 hgzZ9_45_0)).trans ((heq72 x ⟨(zx_X16_roots_43 hx1 hx2), (zx_X16_roots_48 hx1 hx2 hgzZ9_45_4)⟩).trans ((heq66 x ⟨(zx_X16_roots_43 hx1 hx2), (zx_X16_roots_47 hx1 hx2 hgzZ9_45_3)⟩).trans ((heq60 x ⟨(zx_X16_roots_43 hx1 hx2), (zx_X16_roots_46 hx1 hx2 hgzZ9_45_2)⟩).trans ((heq54 x ⟨(zx_X16_roots_43 hx1 hx2), (zx_X16_roots_45 hx1 hx2 hgzZ9_45_1)⟩).trans ((heq49 x ⟨(zx_X16_roots_43 hx1 hx2), (zx_X16_roots_44 hx1 hx2 hgzZ9_45_0)⟩).trans (heq45 x (zx_X16_roots_43 hx1 hx2))))))))))))))
                    have hb65 : zBya wL248 (m + 92) 4000 := hBo0.ag (fun x hx1 hx2 => ((heqL248 x ⟨⟨(zx_X16_roots_55 hx1 hx2), (zx_X16_roots_65 hx1 hx2), (zx_X16_roots_66 hx1 hx2 hgzZ9_45_0)⟩, (zx_X16_roots_61 hx1 hx2)⟩).trans ((heqL167 x ⟨(zx_X16_roots_62 hx1 hx2), (zx_X16_roots_61 hx1 hx2)⟩).trans ((heqL164 x ⟨⟨(zx_X16_roots_55 hx1 hx2), (zx_X16_roots_62 hx1 hx2), (zx_X16_roots_63 hx1 hx2), (zx_X16_roots_64 hx1 hx2 hgzZ9_45_1)⟩, (zx_X16_roots_61 hx1 hx2)⟩).trans ((heq93 x (zx_X16_roots_61 hx1 hx2)).trans ((heq88 x (zx_X16_roots_61 hx1 hx2)).trans ((heq83 x (zx_X16_roots_56 hx1 hx2 hgzZ9_45_0)).trans ((heq72 x ⟨(zx_X16_roots_55 hx1 hx2), (zx_X16_roots_60 hx1 hx2 hgzZ9_45_4)⟩).trans ((heq66 x ⟨(zx_X16_roots_55 hx1 hx2), (zx_X16_roots_59 hx1 hx2 hgzZ9_45_3)⟩).trans ((heq60 x ⟨(zx_X16_roots_55 hx1 hx2), (zx_X16_roots_58 hx1 hx2 hgzZ9_45_2)⟩).trans ((heq54 x ⟨(zx_X16_roots_55 hx1 hx2), (zx_X16_roots_57 hx1 hx2 hgzZ9_45_1)⟩).trans ((heq49 x ⟨(zx_X16_roots_55 hx1 hx2), (zx_X16_roots_56 hx1 hx2 hgzZ9_45_0)⟩).trans (heq45 x (zx_X16_roots_55 hx1 hx2))))))))))))))
                    have hb66 : zBya wL248 (m + 93) 4000 := hBl0.ag (fun x hx1 hx2 => ((heqL248 x ⟨⟨(zx_X16_roots_67 hx1 hx2), (zx_X16_roots_77 hx1 hx2), (zx_X16_roots_78 hx1 hx2 hgzZ9_45_0)⟩, (zx_X16_roots_73 hx1 hx2)⟩).trans ((heqL167 x ⟨(zx_X16_roots_74 hx1 hx2), (zx_X16_roots_73 hx1 hx2)⟩).trans ((heqL164 x ⟨⟨(zx_X16_roots_67 hx1 hx2), (zx_X16_roots_74 hx1 hx2), (zx_X16_roots_75 hx1 hx2), (zx_X16_roots_76 hx1 hx2 hgzZ9_45_1)⟩, (zx_X16_roots_73 hx1 hx2)⟩).trans ((heq93 x (zx_X16_roots_73 hx1 hx2)).trans ((heq88 x (zx_X16_roots_73 hx1 hx2)).trans ((heq83 x (zx_X16_roots_68 hx1 hx2 hgzZ9_45_0)).trans ((heq72 x ⟨(zx_X16_roots_67 hx1 hx2), (zx_X16_roots_72 hx1 hx2 hgzZ9_45_4)⟩).trans ((heq66 x ⟨(zx_X16_roots_67 hx1 hx2), (zx_X16_roots_71 hx1 hx2 hgzZ9_45_3)⟩).trans ((heq60 x ⟨(zx_X16_roots_67 hx1 hx2), (zx_X16_roots_70 hx1 hx2 hgzZ9_45_2)⟩).trans ((heq54 x ⟨(zx_X16_roots_67 hx1 hx2), (zx_X16_roots_69 hx1 hx2 hgzZ9_45_1)⟩).trans ((heq49 x ⟨(zx_X16_roots_67 hx1 hx2), (zx_X16_roots_68 hx1 hx2 hgzZ9_45_0)⟩).trans (heq45 x (zx_X16_roots_67 hx1 hx2))))))))))))))
                    have hb67 : zGr wL248 (m + 100) 48 48 := hGa0.ag (fun x hx1 hx2 => ((heqL248 x ⟨⟨(zx_X16_roots_79 hx1 hx2), (zx_X16_roots_89 hx1 hx2), (zx_X16_roots_90 hx1 hx2 hgzZ9_45_0)⟩, (zx_X16_roots_85 hx1 hx2)⟩).trans ((heqL167 x ⟨(zx_X16_roots_86 hx1 hx2), (zx_X16_roots_85 hx1 hx2)⟩).trans ((heqL164 x ⟨⟨(zx_X16_roots_79 hx1 hx2), (zx_X16_roots_86 hx1 hx2), (zx_X16_roots_87 hx1 hx2), (zx_X16_roots_88 hx1 hx2 hgzZ9_45_1)⟩, (zx_X16_roots_85 hx1 hx2)⟩).trans ((heq93 x (zx_X16_roots_85 hx1 hx2)).trans ((heq88 x (zx_X16_roots_85 hx1 hx2)).trans ((heq83 x (zx_X16_roots_80 hx1 hx2 hgzZ9_45_0)).trans ((heq72 x ⟨(zx_X16_roots_79 hx1 hx2), (zx_X16_roots_84 hx1 hx2 hgzZ9_45_4)⟩).trans ((heq66 x ⟨(zx_X16_roots_79 hx1 hx2), (zx_X16_roots_83 hx1 hx2 hgzZ9_45_3)⟩).trans ((heq60 x ⟨(zx_X16_roots_79 hx1 hx2), (zx_X16_roots_82 hx1 hx2 hgzZ9_45_2)⟩).trans ((heq54 x ⟨(zx_X16_roots_79 hx1 hx2), (zx_X16_roots_81 hx1 hx2 hgzZ9_45_1)⟩).trans ((heq49 x ⟨(zx_X16_roots_79 hx1 hx2), (zx_X16_roots_80 hx1 hx2 hgzZ9_45_0)⟩).trans (heq45 x (zx_X16_roots_79 hx1 hx2))))))))))))))
                    have hb68 : zGr wL248 (m + 212) 60 46 := hGb0.ag (fun x hx1 hx2 => ((heqL248 x ⟨⟨(zx_X16_roots_91 hx1 hx2), (zx_X16_roots_101 hx1 hx2), (zx_X16_roots_102 hx1 hx2 hgzZ9_45_0)⟩, (zx_X16_roots_97 hx1 hx2)⟩).trans ((heqL167 x ⟨(zx_X16_roots_98 hx1 hx2), (zx_X16_roots_97 hx1 hx2)⟩).trans ((heqL164 x ⟨⟨(zx_X16_roots_91 hx1 hx2), (zx_X16_roots_98 hx1 hx2), (zx_X16_roots_99 hx1 hx2), (zx_X16_roots_100 hx1 hx2 hgzZ9_45_1)⟩, (zx_X16_roots_97 hx1 hx2)⟩).trans ((heq93 x (zx_X16_roots_97 hx1 hx2)).trans ((heq88 x (zx_X16_roots_97 hx1 hx2)).trans ((heq83 x (zx_X16_roots_92 hx1 hx2 hgzZ9_45_0)).trans ((heq72 x ⟨(zx_X16_roots_91 hx1 hx2), (zx_X16_roots_96 hx1 hx2 hgzZ9_45_4)⟩).trans ((heq66 x ⟨(zx_X16_roots_91 hx1 hx2), (zx_X16_roots_95 hx1 hx2 hgzZ9_45_3)⟩).trans ((heq60 x ⟨(zx_X16_roots_91 hx1 hx2), (zx_X16_roots_94 hx1 hx2 hgzZ9_45_2)⟩).trans ((heq54 x ⟨(zx_X16_roots_91 hx1 hx2), (zx_X16_roots_93 hx1 hx2 hgzZ9_45_1)⟩).trans ((heq49 x ⟨(zx_X16_roots_91 hx1 hx2), (zx_X16_roots_92 hx1 hx2 hgzZ9_45_0)⟩).trans (heq45 x (zx_X16_roots_91 hx1 hx2))))))))))))))
                    have hb69 : zBd wL248 (m + 149) := hBd0.ag (fun x hx1 hx2 => ((heqL248 x ⟨⟨(zx_X16_roots_103 hx1 hx2), (zx_X16_roots_113 hx1 hx2), (zx_X16_roots_114 hx1 hx2 hgzZ9_45_0)⟩, (zx_X16_roots_109 hx1 hx2)⟩).trans ((heqL167 x ⟨(zx_X16_roots_110 hx1 hx2), (zx_X16_roots_109 hx1 hx2)⟩).trans ((heqL164 x ⟨⟨(zx_X16_roots_103 hx1 hx2), (zx_X16_roots_110 hx1 hx2), (zx_X16_roots_111 hx1 hx2), (zx_X16_roots_112 hx1 hx2 hgzZ9_45_1)⟩, (zx_X16_roots_109 hx1 hx2)⟩).trans ((heq93 x (zx_X16_roots_109 hx1 hx2)).trans ((heq88 x (zx_X16_roots_109 hx1 hx2)).trans ((heq83 x (zx_X16_roots_104 hx1 hx2 hgzZ9_45_0)).trans ((heq72 x ⟨(zx_X16_roots_103 hx1 hx2), (zx_X16_roots_108 hx1 hx2 hgzZ9_45_4)⟩).trans ((heq66 x ⟨(zx_X16_roots_103 hx1 hx2), (zx_X16_roots_107 hx1 hx2 hgzZ9_45_3)⟩).trans ((heq60 x ⟨(zx_X16_roots_103 hx1 hx2), (zx_X16_roots_106 hx1 hx2 hgzZ9_45_2)⟩).trans ((heq54 x ⟨(zx_X16_roots_103 hx1 hx2), (zx_X16_roots_105 hx1 hx2 hgzZ9_45_1)⟩).trans ((heq49 x ⟨(zx_X16_roots_103 hx1 hx2), (zx_X16_roots_104 hx1 hx2 hgzZ9_45_0)⟩).trans (heq45 x (zx_X16_roots_103 hx1 hx2))))))))))))))
                    have hb70 : wL248 (m + 94) = some (.inr (0, 60, .inl ff)) := ((heqL248 (m + 94) ⟨⟨(zx_X16_roots_115), (zx_X16_roots_125), (zx_X16_roots_126 hgzZ9_45_0)⟩, (zx_X16_roots_121)⟩).trans ((heqL167 (m + 94) ⟨(zx_X16_roots_122), (zx_X16_roots_121)⟩).trans ((heqL164 (m + 94) ⟨⟨(zx_X16_roots_115), (zx_X16_roots_122), (zx_X16_roots_123), (zx_X16_roots_124 hgzZ9_45_1)⟩, (zx_X16_roots_121)⟩).trans ((heq93 (m + 94) (zx_X16_roots_121)).trans ((heq88 (m + 94) (zx_X16_roots_121)).trans ((heq83 (m + 94) (zx_X16_roots_116 hgzZ9_45_0)).trans ((heq72 (m + 94) ⟨(zx_X16_roots_115), (zx_X16_roots_120 hgzZ9_45_4)⟩).trans ((heq66 (m + 94) ⟨(zx_X16_roots_115), (zx_X16_roots_119 hgzZ9_45_3)⟩).trans ((heq60 (m + 94) ⟨(zx_X16_roots_115), (zx_X16_roots_118 hgzZ9_45_2)⟩).trans ((heq54 (m + 94) ⟨(zx_X16_roots_115), (zx_X16_roots_117 hgzZ9_45_1)⟩).trans ((heq49 (m + 94) ⟨(zx_X16_roots_115), (zx_X16_roots_116 hgzZ9_45_0)⟩).trans (heq45 (m + 94) (zx_X16_roots_115))))))))))))).trans hAf0
                    have k71 := zrng rv
                    refine zr_retI (by decide +kernel) rfl ?_
                    rw [← hPost]; exact ⟨rfl, _, rfl, (((((((((((hsi45.tr hsi49).tr hsi54).tr hsi60).tr hsi66).tr hsi72).tr hsi83).tr hsi88).tr hsi93).tr hsiL164).tr hsiL167).tr hsiL248), hoffend, ⟨_, _, hrM, hb61, hb62, hb63, hb64, ⟨_, hb70, hff⟩, hb65, hb66, hb67, hb68, hb69, hI12, hI24, hI29, (show 0 ≤ (rv).toInt ∧ (rv).toInt ≤ 30 by omega), hIn⟩, _, rfl, trivial⟩
                  ·
                    have f72 := znleI cc254
                    refine zp_seg (pc' := 259) (lv' := [(0, .ref m), (3, .ref (m + 276 + 2 * Z9_45.toNatClampNeg)), (5, .ref (m + 276 + 2 * (Z9_45 + 1 + 1).toNatClampNeg)), (6, .ref (m + 276 + 2 * (Z9_45 + 1 + 1 + 1).toNatClampNeg)), (7, .ref (m + 276 + 2 * (Z9_45 + 1 + 1 + 1 + 1).toNatClampNeg)), (8, .int y8_248)]) (st' := [.ref (m + 276 + 2 * (Z9_45 + 1 + 1).toNatClampNeg)]) [(257, .aload 5)] (by decide +kernel) rfl ?_
                    obtain ⟨n73, f74, hu75, hu76⟩ := id hUp1
                    have kn73 := zrng n73
                    refine zr_get (idx := 30) (k := 0) (v := .ref (m + 276 + 2 * (Z9_45 + 1 + 1).toNatClampNeg + 1)) (by decide +kernel) (by decide +kernel) hu75 rfl ?_
                    refine zp_seg (pc' := 265) (lv' := [(0, .ref m), (3, .ref (m + 276 + 2 * Z9_45.toNatClampNeg)), (5, .ref (m + 276 + 2 * (Z9_45 + 1 + 1).toNatClampNeg)), (6, .ref (m + 276 + 2 * (Z9_45 + 1 + 1 + 1).toNatClampNeg)), (7, .ref (m + 276 + 2 * (Z9_45 + 1 + 1 + 1 + 1).toNatClampNeg)), (8, .int y8_248)]) (st' := [.ref m, .int 0, .int 0, .ref (m + 276 + 2 * (Z9_45 + 1 + 1).toNatClampNeg + 1)]) [(262, .iconst 0), (263, .iconst 0), (264, .aload_n 0)] (by decide +kernel) rfl ?_
                    refine zr_get (idx := 538) (k := 62) (v := .ref (m + 274)) (by decide +kernel) (by decide +kernel) hrM rfl ?_
                    refine zp_seg (pc' := 270) (lv' := [(0, .ref m), (3, .ref (m + 276 + 2 * Z9_45.toNatClampNeg)), (5, .ref (m + 276 + 2 * (Z9_45 + 1 + 1).toNatClampNeg)), (6, .ref (m + 276 + 2 * (Z9_45 + 1 + 1 + 1).toNatClampNeg)), (7, .ref (m + 276 + 2 * (Z9_45 + 1 + 1 + 1 + 1).toNatClampNeg)), (8, .int y8_248)]) (st' := [.int y8_248, .ref (m + 274), .int 0, .int 0, .ref (m + 276 + 2 * (Z9_45 + 1 + 1).toNatClampNeg + 1)]) [(268, .iload 8)] (by decide +kernel) rfl ?_
                    have hb77 : wL248 (m + 274) = some (.inr (0, 30, .inl sa)) := (heqL248 (m + 274) ⟨⟨(zx_X16_roots_127), (zx_X16_roots_128), (zx_X16_roots_129 hgzZ9_45_0)⟩, (zx_X16_roots_130)⟩).trans hAs
                    refine zr_iald (by decide +kernel) hb77 (zin (by first | omega | decide) (by first | omega | decide)) ?_
                    obtain ⟨x270, ex270⟩ : ∃ x9, x9 = sa (y8_248.toNatClampNeg) := ⟨_, rfl⟩
                    rw [← ex270]
                    have kx270 := zrng x270
                    refine zr_callS (idx := 46) (j := 256) (by decide +kernel) (by decide +kernel) (by decide) (show zMe 256 = some zq_X16_sub from rfl) rfl rfl (Nat.le_of_ble_eq_true rfl) rfl rfl (Nat.le_of_ble_eq_true rfl) (Nat.le_of_ble_eq_true rfl) (c_X16_sub (w := wL248) 0 x270 (by exact zr1_0) (by rw [ex270]; exact hsa9 _ (by omega))) (by omega) (fun v271 w271 hp271 => ?_)
                    obtain ⟨hpw271, r271, rfl, hr271⟩ := hp271
                    replace hpw271 := hpw271.symm
                    subst hpw271
                    have kr271 := zrng r271
                    show zP _ _ _ _ [.int r271, .int 0, .ref (m + 276 + 2 * (Z9_45 + 1 + 1).toNatClampNeg + 1)] _ _ _ _ _
                    have hl78 : (0 : Int32).toInt = 0 := by decide
                    have hz79 : ((0 : Int32).toNatClampNeg : Int) = 0 := by decide
                    refine zr_iast (by decide +kernel) hu76 (zin (by decide) (by decide)) ?_
                    show zP (d + 1) zq_X16_roots 275 [(0, .ref m), (3, .ref (m + 276 + 2 * Z9_45.toNatClampNeg)), (5, .ref (m + 276 + 2 * (Z9_45 + 1 + 1).toNatClampNeg)), (6, .ref (m + 276 + 2 * (Z9_45 + 1 + 1 + 1).toNatClampNeg)), (7, .ref (m + 276 + 2 * (Z9_45 + 1 + 1 + 1 + 1).toNatClampNeg)), (8, .int y8_248)] [] (zup wL248 (m + 276 + 2 * (Z9_45 + 1 + 1).toNatClampNeg + 1) (.inr (0, 1000, .inl (upd f74 ((0 : Int32).toNatClampNeg) r271)))) sz 0 0 Post
                    obtain ⟨w274, ew274⟩ : ∃ wz9, wz9 = zup wL248 (m + 276 + 2 * (Z9_45 + 1 + 1).toNatClampNeg + 1) (.inr (0, 1000, .inl (upd f74 ((0 : Int32).toNatClampNeg) r271))) := ⟨_, rfl⟩
                    have hsi274 : zSI wL248 w274 := by rw [ew274]; exact zSI.arr _ hu76
                    have heq274 : ∀ x, x ≠ m + 276 + 2 * (Z9_45 + 1 + 1).toNatClampNeg + 1 → w274 x = wL248 x := fun x hx => by rw [ew274]; exact zup_n hx
                    have hc274 : w274 (m + 276 + 2 * (Z9_45 + 1 + 1).toNatClampNeg + 1) = some (.inr (0, 1000, .inl (upd f74 ((0 : Int32).toNatClampNeg) r271))) := by rw [ew274]; exact zup_s
                    rw [← ew274]
                    clear ew274
                    refine zp_seg (pc' := 277) (lv' := [(0, .ref m), (3, .ref (m + 276 + 2 * Z9_45.toNatClampNeg)), (5, .ref (m + 276 + 2 * (Z9_45 + 1 + 1).toNatClampNeg)), (6, .ref (m + 276 + 2 * (Z9_45 + 1 + 1 + 1).toNatClampNeg)), (7, .ref (m + 276 + 2 * (Z9_45 + 1 + 1 + 1 + 1).toNatClampNeg)), (8, .int y8_248)]) (st' := [.ref (m + 276 + 2 * (Z9_45 + 1 + 1).toNatClampNeg)]) [(275, .aload 5)] (by decide +kernel) rfl ?_
                    have hb80 : w274 (m + 276 + 2 * (Z9_45 + 1 + 1).toNatClampNeg) = some (.inl (14, [.ref (m + 276 + 2 * (Z9_45 + 1 + 1).toNatClampNeg + 1), .int n73])) := (heq274 (m + 276 + 2 * (Z9_45 + 1 + 1).toNatClampNeg) (zx_X16_roots_131 hgzZ9_45_2)).trans hu75
                    refine zr_get (idx := 30) (k := 0) (v := .ref (m + 276 + 2 * (Z9_45 + 1 + 1).toNatClampNeg + 1)) (by decide +kernel) (by decide +kernel) hb80 rfl ?_
                    refine zp_seg (pc' := 282) (lv' := [(0, .ref m), (3, .ref (m + 276 + 2 * Z9_45.toNatClampNeg)), (5, .ref (m + 276 + 2 * (Z9_45 + 1 + 1).toNatClampNeg)), (6, .ref (m + 276 + 2 * (Z9_45 + 1 + 1 + 1).toNatClampNeg)), (7, .ref (m + 276 + 2 * (Z9_45 + 1 + 1 + 1 + 1).toNatClampNeg)), (8, .int y8_248)]) (st' := [.int 1, .int 1, .ref (m + 276 + 2 * (Z9_45 + 1 + 1).toNatClampNeg + 1)]) [(280, .iconst 1), (281, .iconst 1)] (by decide +kernel) rfl ?_
                    have hl81 : (1 : Int32).toInt = 1 := by decide
                    have hz82 : ((1 : Int32).toNatClampNeg : Int) = 1 := by decide
                    refine zr_iast (by decide +kernel) hc274 (zin (by decide) (by decide)) ?_
                    show zP (d + 1) zq_X16_roots 283 [(0, .ref m), (3, .ref (m + 276 + 2 * Z9_45.toNatClampNeg)), (5, .ref (m + 276 + 2 * (Z9_45 + 1 + 1).toNatClampNeg)), (6, .ref (m + 276 + 2 * (Z9_45 + 1 + 1 + 1).toNatClampNeg)), (7, .ref (m + 276 + 2 * (Z9_45 + 1 + 1 + 1 + 1).toNatClampNeg)), (8, .int y8_248)] [] (zup w274 (m + 276 + 2 * (Z9_45 + 1 + 1).toNatClampNeg + 1) (.inr (0, 1000, .inl (upd (upd f74 ((0 : Int32).toNatClampNeg) r271) ((1 : Int32).toNatClampNeg) 1)))) sz 0 0 Post
                    obtain ⟨w282, ew282⟩ : ∃ wz9, wz9 = zup w274 (m + 276 + 2 * (Z9_45 + 1 + 1).toNatClampNeg + 1) (.inr (0, 1000, .inl (upd (upd f74 ((0 : Int32).toNatClampNeg) r271) ((1 : Int32).toNatClampNeg) 1))) := ⟨_, rfl⟩
                    have hsi282 : zSI w274 w282 := by rw [ew282]; exact zSI.arr _ hc274
                    have heq282 : ∀ x, x ≠ m + 276 + 2 * (Z9_45 + 1 + 1).toNatClampNeg + 1 → w282 x = w274 x := fun x hx => by rw [ew282]; exact zup_n hx
                    have hc282 : w282 (m + 276 + 2 * (Z9_45 + 1 + 1).toNatClampNeg + 1) = some (.inr (0, 1000, .inl (upd (upd f74 ((0 : Int32).toNatClampNeg) r271) ((1 : Int32).toNatClampNeg) 1))) := by rw [ew282]; exact zup_s
                    rw [← ew282]
                    clear ew282
                    refine zp_seg (pc' := 286) (lv' := [(0, .ref m), (3, .ref (m + 276 + 2 * Z9_45.toNatClampNeg)), (5, .ref (m + 276 + 2 * (Z9_45 + 1 + 1).toNatClampNeg)), (6, .ref (m + 276 + 2 * (Z9_45 + 1 + 1 + 1).toNatClampNeg)), (7, .ref (m + 276 + 2 * (Z9_45 + 1 + 1 + 1 + 1).toNatClampNeg)), (8, .int y8_248)]) (st' := [.int 2, .ref (m + 276 + 2 * (Z9_45 + 1 + 1).toNatClampNeg)]) [(283, .aload 5), (285, .iconst 2)] (by decide +kernel) rfl ?_
                    have hb83 : w282 (m + 276 + 2 * (Z9_45 + 1 + 1).toNatClampNeg) = some (.inl (14, [.ref (m + 276 + 2 * (Z9_45 + 1 + 1).toNatClampNeg + 1), .int n73])) := (heq282 (m + 276 + 2 * (Z9_45 + 1 + 1).toNatClampNeg) (zx_X16_roots_131 hgzZ9_45_2)).trans hb80
                    refine zr_put2 (idx := 25) (k := 1) (fs2 := [.ref (m + 276 + 2 * (Z9_45 + 1 + 1).toNatClampNeg + 1), .int 2]) (by decide +kernel) (by decide +kernel) hb83 (Nat.le_of_ble_eq_true rfl) rfl rfl rfl ?_
                    show zP (d + 1) zq_X16_roots 289 [(0, .ref m), (3, .ref (m + 276 + 2 * Z9_45.toNatClampNeg)), (5, .ref (m + 276 + 2 * (Z9_45 + 1 + 1).toNatClampNeg)), (6, .ref (m + 276 + 2 * (Z9_45 + 1 + 1 + 1).toNatClampNeg)), (7, .ref (m + 276 + 2 * (Z9_45 + 1 + 1 + 1 + 1).toNatClampNeg)), (8, .int y8_248)] [] (zup w282 (m + 276 + 2 * (Z9_45 + 1 + 1).toNatClampNeg) (.inl (14, [.ref (m + 276 + 2 * (Z9_45 + 1 + 1).toNatClampNeg + 1), .int 2]))) sz 0 0 Post
                    obtain ⟨w286, ew286⟩ : ∃ wz9, wz9 = zup w282 (m + 276 + 2 * (Z9_45 + 1 + 1).toNatClampNeg) (.inl (14, [.ref (m + 276 + 2 * (Z9_45 + 1 + 1).toNatClampNeg + 1), .int 2])) := ⟨_, rfl⟩
                    have hsi286 : zSI w282 w286 := by rw [ew286]; exact zSI.setU hb83
                    have heq286 : ∀ x, x ≠ m + 276 + 2 * (Z9_45 + 1 + 1).toNatClampNeg → w286 x = w282 x := fun x hx => by rw [ew286]; exact zup_n hx
                    have hc286 : w286 (m + 276 + 2 * (Z9_45 + 1 + 1).toNatClampNeg) = some (.inl (14, [.ref (m + 276 + 2 * (Z9_45 + 1 + 1).toNatClampNeg + 1), .int 2])) := by rw [ew286]; exact zup_s
                    rw [← ew286]
                    clear ew286
                    have hb84 : w286 (m + 276 + 2 * (Z9_45 + 1 + 1).toNatClampNeg + 1) = some (.inr (0, 1000, .inl (upd (upd f74 ((0 : Int32).toNatClampNeg) r271) ((1 : Int32).toNatClampNeg) 1))) := (heq286 (m + 276 + 2 * (Z9_45 + 1 + 1).toNatClampNeg + 1) (zx_X16_roots_132 hgzZ9_45_2)).trans hc282
                    have hXU8 := zlineX hc286 hb84 (by decide) hr271.1
                    have hXl8 := zlin_ln (- zf r271)
                    have hql8 := zquo_ln (p := fP) (d := zlin (- zf r271)) (by omega)
                    have hrl8 := (zdm (p := fP) (d := zlin (- zf r271)) (by omega)).2
                    refine zp_seg (pc' := 296) (lv' := [(0, .ref m), (3, .ref (m + 276 + 2 * Z9_45.toNatClampNeg)), (5, .ref (m + 276 + 2 * (Z9_45 + 1 + 1).toNatClampNeg)), (6, .ref (m + 276 + 2 * (Z9_45 + 1 + 1 + 1).toNatClampNeg)), (7, .ref (m + 276 + 2 * (Z9_45 + 1 + 1 + 1 + 1).toNatClampNeg)), (8, .int y8_248)]) (st' := [.ref (m + 276 + 2 * (Z9_45 + 1 + 1).toNatClampNeg), .ref (m + 276 + 2 * Z9_45.toNatClampNeg), .ref (m + 276 + 2 * (Z9_45 + 1 + 1 + 1 + 1).toNatClampNeg), .ref (m + 276 + 2 * (Z9_45 + 1 + 1 + 1).toNatClampNeg)]) [(289, .aload 6), (291, .aload 7), (293, .aload_n 3), (294, .aload 5)] (by decide +kernel) rfl ?_
                    have hb85 := hUp2.si ((hsi274.tr hsi282).tr hsi286)
                    have hb86 := hUp3.si ((hsi274.tr hsi282).tr hsi286)
                    have hb87 : zU w286 (m + 276 + 2 * Z9_45.toNatClampNeg) 1000 fP := hUf8.ag (fun x hx1 hx2 => ((heq286 x (zx_X16_roots_134 hx1 hx2 hgzZ9_45_0 hgzZ9_45_2)).trans ((heq282 x (zx_X16_roots_133 hx1 hx2 hgzZ9_45_0 hgzZ9_45_2)).trans (heq274 x (zx_X16_roots_133 hx1 hx2 hgzZ9_45_0 hgzZ9_45_2)))))
                    refine zr_callS (idx := 78) (j := 268) (by decide +kernel) (by decide +kernel) (by decide) (show zMe 268 = some zq_X16_divide from rfl) rfl rfl (Nat.le_of_ble_eq_true rfl) rfl rfl (Nat.le_of_ble_eq_true rfl) (Nat.le_of_ble_eq_true rfl) (c_X16_divideQ (w := w286) (m + 276 + 2 * (Z9_45 + 1 + 1 + 1).toNatClampNeg) (m + 276 + 2 * (Z9_45 + 1 + 1 + 1 + 1).toNatClampNeg) (m + 276 + 2 * Z9_45.toNatClampNeg) (m + 276 + 2 * (Z9_45 + 1 + 1).toNatClampNeg) hb85 hb86 hb87 hXU8 (by first | omega | decide | assumption | exact zr1_1 | exact zr1_0 | fail "num") (by first | omega | decide | assumption | exact zr1_1 | exact zr1_0 | fail "num") (by first | omega | decide | assumption | exact zr1_1 | exact zr1_0 | fail "num") (by first | omega | decide | assumption | exact zr1_1 | exact zr1_0 | fail "num") (by first | omega | decide | assumption | exact zr1_1 | exact zr1_0 | fail "num") (by first | omega | decide | assumption | exact zr1_1 | exact zr1_0 | fail "num") (by first | omega | decide | assumption | exact zr1_1 | exact zr1_0 | fail "num") (by first | omega | decide | assumption | exact zr1_1 | exact zr1_0 | fail "num") (by first | omega | decide | assumption | exact zr1_1 | exact zr1_0 | fail "num")) (by omega) (fun v296 w296 hp296 => ?_)
                    obtain ⟨hsi296, heq296, hp296_0, hp296_1, rfl⟩ := hp296
                    show zP _ _ _ _ [] _ _ _ _ _
                    have hb88 : w296 m = some (.inl (15, zMo m (zs (zs (zs (zs (zs g 1 (Z9_45 + 1 + 1 + 1 + 1 + 1)) 3 Z9_45) 16 Z9_45) 31 rv) 63 xF) r)) := ((heq296 m ⟨(zx_X16_roots_137 hgzZ9_45_4), (zx_X16_roots_138 hgzZ9_45_3)⟩).trans ((heq286 m (zx_X16_roots_136 hgzZ9_45_2)).trans ((heq282 m (zx_X16_roots_135 hgzZ9_45_2)).trans (heq274 m (zx_X16_roots_135 hgzZ9_45_2))))).trans hrM
                    have hL299 : ∀ (mm299 : Nat) (wL299 : zM) (rw9 : Int32) (rb : Nat → Int32) (fQ : zA1), (zSI w296 wL299) → (∀ x, ((x < m ∨ m + 1 ≤ x) ∧ (x < m + 95 ∨ m + 95 + 1 ≤ x) ∧ (x < m + 276 + 2 * Z9_45.toNatClampNeg ∨ m + 276 + 2 * Z9_45.toNatClampNeg + 2 ≤ x) ∧ (x < m + 276 + 2 * (Z9_45 + 1 + 1 + 1).toNatClampNeg ∨ m + 276 + 2 * (Z9_45 + 1 + 1 + 1).toNatClampNeg + 4 ≤ x)) ∧ x ≠ m → wL299 x = w296 x) → (wL299 m = some (.inl (15, zMo m (zs (zs (zs (zs (zs g 1 (Z9_45 + 1 + 1 + 1 + 1 + 1)) 3 Z9_45) 16 Z9_45) 31 rw9) 63 xF) r))) → (wL299 (m + 95) = some (.inr (0, 30, .inl rb))) → (zU wL299 (m + 276 + 2 * Z9_45.toNatClampNeg) 1000 fQ) → (zU wL299 (m + 276 + 2 * (Z9_45 + 1 + 1 + 1).toNatClampNeg) 1000 (zquo fQ (zlin (- zf r271)))) → (zU wL299 (m + 276 + 2 * (Z9_45 + 1 + 1 + 1 + 1).toNatClampNeg) 1000 (zrem fQ (zlin (- zf r271)))) → (0 ≤ rw9.toInt ∧ 1 ≤ zln fQ ∧ rw9.toInt + (zln fQ : Int) ≤ 25) → zln fQ < mm299 → zP (d + 1) zq_X16_roots 299 [(0, .ref m), (3, .ref (m + 276 + 2 * Z9_45.toNatClampNeg)), (5, .ref (m + 276 + 2 * (Z9_45 + 1 + 1).toNatClampNeg)), (6, .ref (m + 276 + 2 * (Z9_45 + 1 + 1 + 1).toNatClampNeg)), (7, .ref (m + 276 + 2 * (Z9_45 + 1 + 1 + 1 + 1).toNatClampNeg)), (8, .int y8_248)] [] wL299 sz 0 0 Post := by
                      intro mm299
                      induction mm299 with
                      | zero => intros; omega
                      | succ mm299 ih299 =>
                      intro wL299 rw9 rb fQ hsiL299 heqL299 hsM hAq hUf9 hUq9 hUr9 hrw9 hmu299
                      refine zp_seg (pc' := 301) (lv' := [(0, .ref m), (3, .ref (m + 276 + 2 * Z9_45.toNatClampNeg)), (5, .ref (m + 276 + 2 * (Z9_45 + 1 + 1).toNatClampNeg)), (6, .ref (m + 276 + 2 * (Z9_45 + 1 + 1 + 1).toNatClampNeg)), (7, .ref (m + 276 + 2 * (Z9_45 + 1 + 1 + 1 + 1).toNatClampNeg)), (8, .int y8_248)]) (st' := [.ref (m + 276 + 2 * (Z9_45 + 1 + 1 + 1 + 1).toNatClampNeg)]) [(299, .aload 7)] (by decide +kernel) rfl ?_
                      obtain ⟨n89, f90, hu91, hu92, hu93, hu94, hu95⟩ := id hUr9
                      have kn89 := zrng n89
                      refine zr_get (idx := 25) (k := 1) (v := .int n89) (by decide +kernel) (by decide +kernel) hu91 rfl ?_
                      refine zp_if (i := .ifCond .ne 53) (c := ¬ n89 = 0) (t := 357) (e := 307) (lv' := [(0, .ref m), (3, .ref (m + 276 + 2 * Z9_45.toNatClampNeg)), (5, .ref (m + 276 + 2 * (Z9_45 + 1 + 1).toNatClampNeg)), (6, .ref (m + 276 + 2 * (Z9_45 + 1 + 1 + 1).toNatClampNeg)), (7, .ref (m + 276 + 2 * (Z9_45 + 1 + 1 + 1 + 1).toNatClampNeg)), (8, .int y8_248)]) (st' := []) (by decide +kernel) rfl (fun cc304 => ?_) (fun cc304 => ?_)
                      ·
                        have f96 := zneI cc304
                        rw [show (0 : Int32).toInt = 0 from by decide] at f96
                        refine zp_seg (pc' := 360) (lv' := [(8, .int (y8_248 + 1)), (0, .ref m), (3, .ref (m + 276 + 2 * Z9_45.toNatClampNeg)), (5, .ref (m + 276 + 2 * (Z9_45 + 1 + 1).toNatClampNeg)), (6, .ref (m + 276 + 2 * (Z9_45 + 1 + 1 + 1).toNatClampNeg)), (7, .ref (m + 276 + 2 * (Z9_45 + 1 + 1 + 1 + 1).toNatClampNeg))]) (st' := []) [(357, .iinc 8 1)] (by decide +kernel) rfl ?_
                        have k97 := zaddC y8_248 1 (n := 1) (by decide) (by omega) (by omega)
                        generalize ev360 : (y8_248 + 1 : Int32) = v360 at k97 ⊢
                        have kv360 := zrng v360
                        refine zp_seg (pc' := 248) (lv' := [(8, .int v360), (0, .ref m), (3, .ref (m + 276 + 2 * Z9_45.toNatClampNeg)), (5, .ref (m + 276 + 2 * (Z9_45 + 1 + 1).toNatClampNeg)), (6, .ref (m + 276 + 2 * (Z9_45 + 1 + 1 + 1).toNatClampNeg)), (7, .ref (m + 276 + 2 * (Z9_45 + 1 + 1 + 1 + 1).toNatClampNeg))]) (st' := []) [(360, .goto (-112))] (by decide +kernel) rfl ?_
                        have hz98 : (v360.toNatClampNeg : Int) = v360.toInt := znat (by first | omega | decide)
                        have hb99 := hUp1.si ((((hsi274.tr hsi282).tr hsi286).tr hsi296).tr hsiL299)
                        have hb100 := hb85.si (hsi296.tr hsiL299)
                        have hb101 := hb86.si (hsi296.tr hsiL299)
                        exact (ih248 wL299 v360 (rw9) (rb) (fQ) (((((hsiL248.tr hsi274).tr hsi282).tr hsi286).tr hsi296).tr hsiL299) (fun x hx => ((heqL299 x ⟨⟨hx.1.1, hx.1.2.1, (zx_X16_roots_143 hx.1.2.2 hgzZ9_45_0), (zx_X16_roots_144 hx.1.2.2 hgzZ9_45_0 hgzZ9_45_3)⟩, hx.2⟩).trans ((heq296 x ⟨(zx_X16_roots_141 hx.1.2.2 hgzZ9_45_0 hgzZ9_45_4), (zx_X16_roots_142 hx.1.2.2 hgzZ9_45_0 hgzZ9_45_3)⟩).trans ((heq286 x (zx_X16_roots_140 hx.1.2.2 hgzZ9_45_0 hgzZ9_45_2)).trans ((heq282 x (zx_X16_roots_139 hx.1.2.2 hgzZ9_45_0 hgzZ9_45_2)).trans ((heq274 x (zx_X16_roots_139 hx.1.2.2 hgzZ9_45_0 hgzZ9_45_2)).trans (heqL248 x ⟨⟨hx.1.1, hx.1.2.1, hx.1.2.2⟩, hx.2⟩))))))) (by first | assumption | omega | decide) (by first | assumption | omega | decide) (by
                              exact hsM) hAq hUf9 hb99 hb100 hb101 (by
                              exact ⟨by omega, by omega, fun _ => ⟨by omega, by omega⟩⟩) (by omega)).more (zfa1 rfl (zfa1 rfl (zfa1 rfl (zfa1 rfl (zfa1 rfl (zfa1 rfl (zfa0)))))))
                      ·
                        replace cc304 := Classical.not_not.mp cc304
                        have f102 := zeqI cc304
                        rw [show (0 : Int32).toInt = 0 from by decide] at f102
                        have hrz9 : zln (zrem fQ (zlin (- zf r271))) = 0 := by omega
                        have hq29 : 2 ≤ zln fQ := by
                          have hd9 := (zdm (p := fQ) (d := zlin (- zf r271)) (by omega)).1
                          apply Classical.byContradiction
                          intro hc9
                          have hq9 := zquo_ln (p := fQ) (d := zlin (- zf r271)) (by omega)
                          rw [zln_0.mp hrz9, zln_0.mp (show zln (zquo fQ (zlin (- zf r271))) = 0 by omega), zaM_Zl, zaA_Zr] at hd9
                          rw [hd9, zln_Z] at hrw9
                          omega
                        have hql9 := zquo_ln (p := fQ) (d := zlin (- zf r271)) (by omega)
                        have k103 := zrng rw9
                        have hz104 : (rw9.toNatClampNeg : Int) = rw9.toInt := znat (by first | omega | decide)
                        refine zp_seg (pc' := 308) (lv' := [(0, .ref m), (3, .ref (m + 276 + 2 * Z9_45.toNatClampNeg)), (5, .ref (m + 276 + 2 * (Z9_45 + 1 + 1).toNatClampNeg)), (6, .ref (m + 276 + 2 * (Z9_45 + 1 + 1 + 1).toNatClampNeg)), (7, .ref (m + 276 + 2 * (Z9_45 + 1 + 1 + 1 + 1).toNatClampNeg)), (8, .int y8_248)]) (st' := [.ref m]) [(307, .aload_n 0)] (by decide +kernel) rfl ?_
                        refine zr_get (idx := 468) (k := 30) (v := .ref (m + 95)) (by decide +kernel) (by decide +kernel) hsM rfl ?_
                        refine zp_seg (pc' := 313) (lv' := [(0, .ref m), (3, .ref (m + 276 + 2 * Z9_45.toNatClampNeg)), (5, .ref (m + 276 + 2 * (Z9_45 + 1 + 1).toNatClampNeg)), (6, .ref (m + 276 + 2 * (Z9_45 + 1 + 1 + 1).toNatClampNeg)), (7, .ref (m + 276 + 2 * (Z9_45 + 1 + 1 + 1 + 1).toNatClampNeg)), (8, .int y8_248)]) (st' := [.ref m, .ref m, .ref (m + 95)]) [(311, .aload_n 0), (312, .dup)] (by decide +kernel) rfl ?_
                        refine zr_get (idx := 610) (k := 31) (v := .int rw9) (by decide +kernel) (by decide +kernel) hsM rfl ?_
                        refine zp_seg (pc' := 319) (lv' := [(0, .ref m), (3, .ref (m + 276 + 2 * Z9_45.toNatClampNeg)), (5, .ref (m + 276 + 2 * (Z9_45 + 1 + 1).toNatClampNeg)), (6, .ref (m + 276 + 2 * (Z9_45 + 1 + 1 + 1).toNatClampNeg)), (7, .ref (m + 276 + 2 * (Z9_45 + 1 + 1 + 1 + 1).toNatClampNeg)), (8, .int y8_248)]) (st' := [.int (rw9 + 1), .ref m, .int rw9, .ref (m + 95)]) [(316, .dup_x1), (317, .iconst 1), (318, .iadd)] (by decide +kernel) rfl ?_
                        have k105 := zaddC rw9 1 (n := 1) (by decide) (by omega) (by omega)
                        generalize ev319 : (rw9 + 1 : Int32) = v319 at k105 ⊢
                        have kv319 := zrng v319
                        refine zr_put2 (idx := 610) (k := 31) (fs2 := zMo m (zs (zs (zs (zs (zs g 1 (Z9_45 + 1 + 1 + 1 + 1 + 1)) 3 Z9_45) 16 Z9_45) 31 v319) 63 xF) r) (by decide +kernel) (by decide +kernel) hsM (Nat.le_of_ble_eq_true rfl) rfl rfl rfl ?_
                        show zP (d + 1) zq_X16_roots 322 [(0, .ref m), (3, .ref (m + 276 + 2 * Z9_45.toNatClampNeg)), (5, .ref (m + 276 + 2 * (Z9_45 + 1 + 1).toNatClampNeg)), (6, .ref (m + 276 + 2 * (Z9_45 + 1 + 1 + 1).toNatClampNeg)), (7, .ref (m + 276 + 2 * (Z9_45 + 1 + 1 + 1 + 1).toNatClampNeg)), (8, .int y8_248)] [.int rw9, .ref (m + 95)] (zup wL299 m (.inl (15, zMo m (zs (zs (zs (zs (zs g 1 (Z9_45 + 1 + 1 + 1 + 1 + 1)) 3 Z9_45) 16 Z9_45) 31 v319) 63 xF) r))) sz 0 0 Post
                        obtain ⟨w319, ew319⟩ : ∃ wz9, wz9 = zup wL299 m (.inl (15, zMo m (zs (zs (zs (zs (zs g 1 (Z9_45 + 1 + 1 + 1 + 1 + 1)) 3 Z9_45) 16 Z9_45) 31 v319) 63 xF) r)) := ⟨_, rfl⟩
                        have hsi319 : zSI wL299 w319 := by rw [ew319]; exact zSI.setG hsM _ _
                        have heq319 : ∀ x, x ≠ m → w319 x = wL299 x := fun x hx => by rw [ew319]; exact zup_n hx
                        have hc319 : w319 m = some (.inl (15, zMo m (zs (zs (zs (zs (zs g 1 (Z9_45 + 1 + 1 + 1 + 1 + 1)) 3 Z9_45) 16 Z9_45) 31 v319) 63 xF) r)) := by rw [ew319]; exact zup_s
                        rw [← ew319]
                        clear ew319
                        refine zp_seg (pc' := 323) (lv' := [(0, .ref m), (3, .ref (m + 276 + 2 * Z9_45.toNatClampNeg)), (5, .ref (m + 276 + 2 * (Z9_45 + 1 + 1).toNatClampNeg)), (6, .ref (m + 276 + 2 * (Z9_45 + 1 + 1 + 1).toNatClampNeg)), (7, .ref (m + 276 + 2 * (Z9_45 + 1 + 1 + 1 + 1).toNatClampNeg)), (8, .int y8_248)]) (st' := [.ref m, .int rw9, .ref (m + 95)]) [(322, .aload_n 0)] (by decide +kernel) rfl ?_
                        refine zr_get (idx := 538) (k := 62) (v := .ref (m + 274)) (by decide +kernel) (by decide +kernel) hc319 rfl ?_
                        refine zp_seg (pc' := 328) (lv' := [(0, .ref m), (3, .ref (m + 276 + 2 * Z9_45.toNatClampNeg)), (5, .ref (m + 276 + 2 * (Z9_45 + 1 + 1).toNatClampNeg)), (6, .ref (m + 276 + 2 * (Z9_45 + 1 + 1 + 1).toNatClampNeg)), (7, .ref (m + 276 + 2 * (Z9_45 + 1 + 1 + 1 + 1).toNatClampNeg)), (8, .int y8_248)]) (st' := [.int y8_248, .ref (m + 274), .int rw9, .ref (m + 95)]) [(326, .iload 8)] (by decide +kernel) rfl ?_
                        have hb106 : w319 (m + 274) = some (.inr (0, 30, .inl sa)) := ((heq319 (m + 274) (zx_X16_roots_130)).trans ((heqL299 (m + 274) ⟨⟨(zx_X16_roots_127), (zx_X16_roots_128), (zx_X16_roots_149 hgzZ9_45_0), (zx_X16_roots_150 hgzZ9_45_3)⟩, (zx_X16_roots_130)⟩).trans ((heq296 (m + 274) ⟨(zx_X16_roots_147 hgzZ9_45_4), (zx_X16_roots_148 hgzZ9_45_3)⟩).trans ((heq286 (m + 274) (zx_X16_roots_146 hgzZ9_45_2)).trans ((heq282 (m + 274) (zx_X16_roots_145 hgzZ9_45_2)).trans (heq274 (m + 274) (zx_X16_roots_145 hgzZ9_45_2))))))).trans hb77
                        refine zr_iald (by decide +kernel) hb106 (zin (by first | omega | decide) (by first | omega | decide)) ?_
                        rw [← ex270]
                        have hb107 : w319 (m + 95) = some (.inr (0, 30, .inl rb)) := (heq319 (m + 95) (zx_X16_roots_151)).trans hAq
                        refine zr_iast (by decide +kernel) hb107 (zin (by first | omega | decide) (by first | omega | decide)) ?_
                        show zP (d + 1) zq_X16_roots 330 [(0, .ref m), (3, .ref (m + 276 + 2 * Z9_45.toNatClampNeg)), (5, .ref (m + 276 + 2 * (Z9_45 + 1 + 1).toNatClampNeg)), (6, .ref (m + 276 + 2 * (Z9_45 + 1 + 1 + 1).toNatClampNeg)), (7, .ref (m + 276 + 2 * (Z9_45 + 1 + 1 + 1 + 1).toNatClampNeg)), (8, .int y8_248)] [] (zup w319 (m + 95) (.inr (0, 30, .inl (upd rb (rw9.toNatClampNeg) x270)))) sz 0 0 Post
                        obtain ⟨w329, ew329⟩ : ∃ wz9, wz9 = zup w319 (m + 95) (.inr (0, 30, .inl (upd rb (rw9.toNatClampNeg) x270))) := ⟨_, rfl⟩
                        have hsi329 : zSI w319 w329 := by rw [ew329]; exact zSI.arr _ hb107
                        have heq329 : ∀ x, x ≠ m + 95 → w329 x = w319 x := fun x hx => by rw [ew329]; exact zup_n hx
                        have hc329 : w329 (m + 95) = some (.inr (0, 30, .inl (upd rb (rw9.toNatClampNeg) x270))) := by rw [ew329]; exact zup_s
                        rw [← ew329]
                        clear ew329
                        refine zp_seg (pc' := 333) (lv' := [(0, .ref m), (3, .ref (m + 276 + 2 * Z9_45.toNatClampNeg)), (5, .ref (m + 276 + 2 * (Z9_45 + 1 + 1).toNatClampNeg)), (6, .ref (m + 276 + 2 * (Z9_45 + 1 + 1 + 1).toNatClampNeg)), (7, .ref (m + 276 + 2 * (Z9_45 + 1 + 1 + 1 + 1).toNatClampNeg)), (8, .int y8_248)]) (st' := [.ref (m + 276 + 2 * (Z9_45 + 1 + 1 + 1).toNatClampNeg), .ref (m + 276 + 2 * Z9_45.toNatClampNeg)]) [(330, .aload_n 3), (331, .aload 6)] (by decide +kernel) rfl ?_
                        have hb108 : zU w329 (m + 276 + 2 * Z9_45.toNatClampNeg) 1000 fQ := hUf9.ag (fun x hx1 hx2 => ((heq329 x (zx_X16_roots_152 hx1 hx2 hgzZ9_45_0)).trans (heq319 x (zx_X16_roots_6 hx1 hx2 hgzZ9_45_0))))
                        have ho333_to := zU.o hb108
                        have hb109 : zU w329 (m + 276 + 2 * (Z9_45 + 1 + 1 + 1).toNatClampNeg) 1000 (zquo fQ (zlin (- zf r271))) := hUq9.ag (fun x hx1 hx2 => ((heq329 x (zx_X16_roots_154 hx1 hx2 hgzZ9_45_3)).trans (heq319 x (zx_X16_roots_153 hx1 hx2 hgzZ9_45_3))))
                        refine zr_callS (idx := 62) (j := 264) (by decide +kernel) (by decide +kernel) (by decide) (show zMe 264 = some zq_X16_set from rfl) rfl rfl (Nat.le_of_ble_eq_true rfl) rfl rfl (Nat.le_of_ble_eq_true rfl) (Nat.le_of_ble_eq_true rfl) (c_X16_set (w := w329) (m + 276 + 2 * Z9_45.toNatClampNeg) (m + 276 + 2 * (Z9_45 + 1 + 1 + 1).toNatClampNeg) ho333_to hb109 (by first | omega | decide | assumption | exact zr1_1 | exact zr1_0 | fail "num") (by first | omega | decide | assumption | exact zr1_1 | exact zr1_0 | fail "num")) (by omega) (fun v333 w333 hp333 => ?_)
                        obtain ⟨hsi333, heq333, hp333_0, rfl⟩ := hp333
                        show zP _ _ _ _ [] _ _ _ _ _
                        refine zp_seg (pc' := 343) (lv' := [(0, .ref m), (3, .ref (m + 276 + 2 * Z9_45.toNatClampNeg)), (5, .ref (m + 276 + 2 * (Z9_45 + 1 + 1).toNatClampNeg)), (6, .ref (m + 276 + 2 * (Z9_45 + 1 + 1 + 1).toNatClampNeg)), (7, .ref (m + 276 + 2 * (Z9_45 + 1 + 1 + 1 + 1).toNatClampNeg)), (8, .int y8_248)]) (st' := [.ref (m + 276 + 2 * (Z9_45 + 1 + 1).toNatClampNeg), .ref (m + 276 + 2 * Z9_45.toNatClampNeg), .ref (m + 276 + 2 * (Z9_45 + 1 + 1 + 1 + 1).toNatClampNeg), .ref (m + 276 + 2 * (Z9_45 + 1 + 1 + 1).toNatClampNeg)]) [(336, .aload 6), (338, .aload 7), (340, .aload_n 3), (341, .aload 5)] (by decide +kernel) rfl ?_
                        have hb110 : zU w333 (m + 276 + 2 * (Z9_45 + 1 + 1 + 1).toNatClampNeg) 1000 (zquo fQ (zlin (- zf r271))) := hb109.ag (fun x hx1 hx2 => (heq333 x (zx_X16_roots_155 hx1 hx2 hgzZ9_45_0 hgzZ9_45_3)))
                        have ho343_q := zU.o hb110
                        have hb111 : zU w333 (m + 276 + 2 * (Z9_45 + 1 + 1 + 1 + 1).toNatClampNeg) 1000 (zrem fQ (zlin (- zf r271))) := hUr9.ag (fun x hx1 hx2 => ((heq333 x (zx_X16_roots_158 hx1 hx2 hgzZ9_45_0 hgzZ9_45_4)).trans ((heq329 x (zx_X16_roots_157 hx1 hx2 hgzZ9_45_4)).trans (heq319 x (zx_X16_roots_156 hx1 hx2 hgzZ9_45_4)))))
                        have ho343_r := zU.o hb111
                        have hb112 : zU w333 (m + 276 + 2 * (Z9_45 + 1 + 1).toNatClampNeg) 1000 (zlin (- zf r271)) := hXU8.ag (fun x hx1 hx2 => ((heq333 x (zx_X16_roots_163 hx1 hx2 hgzZ9_45_0 hgzZ9_45_2)).trans ((heq329 x (zx_X16_roots_166 hx1 hx2 hgzZ9_45_2)).trans ((heq319 x (zx_X16_roots_165 hx1 hx2 hgzZ9_45_2)).trans ((heqL299 x ⟨⟨(zx_X16_roots_161 hx1 hx2 hgzZ9_45_2), (zx_X16_roots_162 hx1 hx2 hgzZ9_45_2), (zx_X16_roots_163 hx1 hx2 hgzZ9_45_0 hgzZ9_45_2), (zx_X16_roots_164 hx1 hx2 hgzZ9_45_2 hgzZ9_45_3)⟩, (zx_X16_roots_165 hx1 hx2 hgzZ9_45_2)⟩).trans (heq296 x ⟨(zx_X16_roots_159 hx1 hx2 hgzZ9_45_2 hgzZ9_45_4), (zx_X16_roots_160 hx1 hx2 hgzZ9_45_2 hgzZ9_45_3)⟩))))))
                        refine zr_callS (idx := 78) (j := 268) (by decide +kernel) (by decide +kernel) (by decide) (show zMe 268 = some zq_X16_divide from rfl) rfl rfl (Nat.le_of_ble_eq_true rfl) rfl rfl (Nat.le_of_ble_eq_true rfl) (Nat.le_of_ble_eq_true rfl) (c_X16_divideQ (w := w333) (m + 276 + 2 * (Z9_45 + 1 + 1 + 1).toNatClampNeg) (m + 276 + 2 * (Z9_45 + 1 + 1 + 1 + 1).toNatClampNeg) (m + 276 + 2 * Z9_45.toNatClampNeg) (m + 276 + 2 * (Z9_45 + 1 + 1).toNatClampNeg) ho343_q ho343_r hp333_0 hb112 (by first | omega | decide | assumption | exact zr1_1 | exact zr1_0 | fail "num") (by first | omega | decide | assumption | exact zr1_1 | exact zr1_0 | fail "num") (by first | omega | decide | assumption | exact zr1_1 | exact zr1_0 | fail "num") (by first | omega | decide | assumption | exact zr1_1 | exact zr1_0 | fail "num") (by first | omega | decide | assumption | exact zr1_1 | exact zr1_0 | fail "num") (by first | omega | decide | assumption | exact zr1_1 | exact zr1_0 | fail "num") (by first | omega | decide | assumption | exact zr1_1 | exact zr1_0 | fail "num") (by first | omega | decide | assumption | exact zr1_1 | exact zr1_0 | fail "num") (by first | omega | decide | assumption | exact zr1_1 | exact zr1_0 | fail "num")) (by omega) (fun v343 w343 hp343 => ?_)
                        obtain ⟨hsi343, heq343, hp343_0, hp343_1, rfl⟩ := hp343
                        show zP _ _ _ _ [] _ _ _ _ _
                        refine zp_seg (pc' := 347) (lv' := [(0, .ref m), (3, .ref (m + 276 + 2 * Z9_45.toNatClampNeg)), (5, .ref (m + 276 + 2 * (Z9_45 + 1 + 1).toNatClampNeg)), (6, .ref (m + 276 + 2 * (Z9_45 + 1 + 1 + 1).toNatClampNeg)), (7, .ref (m + 276 + 2 * (Z9_45 + 1 + 1 + 1 + 1).toNatClampNeg)), (8, .int y8_248)]) (st' := [.ref (m + 276 + 2 * Z9_45.toNatClampNeg)]) [(346, .aload_n 3)] (by decide +kernel) rfl ?_
                        obtain ⟨n113, f114, hu115, hu116, hu117, hu118, hu119⟩ := id hp333_0
                        have kn113 := zrng n113
                        have hb120 : w343 (m + 276 + 2 * Z9_45.toNatClampNeg) = some (.inl (14, [.ref (m + 276 + 2 * Z9_45.toNatClampNeg + 1), .int n113])) := (heq343 (m + 276 + 2 * Z9_45.toNatClampNeg) ⟨(zx_X16_roots_167 hgzZ9_45_0 hgzZ9_45_4), (zx_X16_roots_168 hgzZ9_45_0 hgzZ9_45_3)⟩).trans hu115
                        refine zr_get (idx := 25) (k := 1) (v := .int n113) (by decide +kernel) (by decide +kernel) hb120 rfl ?_
                        refine zp_seg (pc' := 351) (lv' := [(0, .ref m), (3, .ref (m + 276 + 2 * Z9_45.toNatClampNeg)), (5, .ref (m + 276 + 2 * (Z9_45 + 1 + 1).toNatClampNeg)), (6, .ref (m + 276 + 2 * (Z9_45 + 1 + 1 + 1).toNatClampNeg)), (7, .ref (m + 276 + 2 * (Z9_45 + 1 + 1 + 1 + 1).toNatClampNeg)), (8, .int y8_248)]) (st' := [.int 1, .int n113]) [(350, .iconst 1)] (by decide +kernel) rfl ?_
                        refine zp_if (i := .if_icmp .gt (-52)) (c := 1 < n113) (t := 299) (e := 354) (lv' := [(0, .ref m), (3, .ref (m + 276 + 2 * Z9_45.toNatClampNeg)), (5, .ref (m + 276 + 2 * (Z9_45 + 1 + 1).toNatClampNeg)), (6, .ref (m + 276 + 2 * (Z9_45 + 1 + 1 + 1).toNatClampNeg)), (7, .ref (m + 276 + 2 * (Z9_45 + 1 + 1 + 1 + 1).toNatClampNeg)), (8, .int y8_248)]) (st' := []) (by decide +kernel) rfl (fun cc351 => ?_) (fun cc351 => ?_)
                        ·
                          have f121 := zltI cc351
                          rw [show (1 : Int32).toInt = 1 from by decide] at f121
                          have hb122 : w343 m = some (.inl (15, zMo m (zs (zs (zs (zs (zs g 1 (Z9_45 + 1 + 1 + 1 + 1 + 1)) 3 Z9_45) 16 Z9_45) 31 v319) 63 xF) r)) := ((heq343 m ⟨(zx_X16_roots_137 hgzZ9_45_4), (zx_X16_roots_138 hgzZ9_45_3)⟩).trans ((heq333 m (zx_X16_roots_5 hgzZ9_45_0)).trans (heq329 m (zx_X16_roots_172)))).trans hc319
                          have hb123 : w343 (m + 95) = some (.inr (0, 30, .inl (upd rb (rw9.toNatClampNeg) x270))) := ((heq343 (m + 95) ⟨(zx_X16_roots_174 hgzZ9_45_4), (zx_X16_roots_175 hgzZ9_45_3)⟩).trans (heq333 (m + 95) (zx_X16_roots_173 hgzZ9_45_0))).trans hc329
                          have hb124 : zU w343 (m + 276 + 2 * Z9_45.toNatClampNeg) 1000 ((zquo fQ (zlin (- zf r271)))) := hp333_0.ag (fun x hx1 hx2 => (heq343 x ⟨(zx_X16_roots_4 hx1 hx2 hgzZ9_45_0 hgzZ9_45_4), (zx_X16_roots_3 hx1 hx2 hgzZ9_45_0 hgzZ9_45_3)⟩))
                          exact (ih299 w343 (v319) ((upd rb (rw9.toNatClampNeg) x270)) (((zquo fQ (zlin (- zf r271))))) ((((hsiL299.tr hsi319).tr hsi329).tr hsi333).tr hsi343) (fun x hx => ((heq343 x ⟨(zx_X16_roots_170 hx.1.2.2.1 hx.1.2.2.2 hgzZ9_45_0 hgzZ9_45_3 hgzZ9_45_4), (zx_X16_roots_171 hx.1.2.2.1 hx.1.2.2.2 hgzZ9_45_0 hgzZ9_45_3)⟩).trans ((heq333 x hx.1.2.2.1).trans ((heq329 x (zx_X16_roots_169 hx.1.2.1)).trans ((heq319 x hx.2).trans (heqL299 x ⟨⟨hx.1.1, hx.1.2.1, hx.1.2.2.1, hx.1.2.2.2⟩, hx.2⟩)))))) (by
                                exact hb122) hb123 hb124 hp343_1 hp343_0 (by
                                exact ⟨by omega, by omega, by omega⟩) (by omega)).more (zfa1 rfl (zfa1 rfl (zfa1 rfl (zfa1 rfl (zfa1 rfl (zfa1 rfl (zfa0)))))))
                        ·
                          have f125 := znltI cc351
                          rw [show (1 : Int32).toInt = 1 from by decide] at f125
                          refine zp_seg (pc' := 357) (lv' := [(0, .ref m), (3, .ref (m + 276 + 2 * Z9_45.toNatClampNeg)), (5, .ref (m + 276 + 2 * (Z9_45 + 1 + 1).toNatClampNeg)), (6, .ref (m + 276 + 2 * (Z9_45 + 1 + 1 + 1).toNatClampNeg)), (7, .ref (m + 276 + 2 * (Z9_45 + 1 + 1 + 1 + 1).toNatClampNeg)), (8, .int y8_248)]) (st' := []) [(354, .goto 3)] (by decide +kernel) rfl ?_
                          refine zp_seg (pc' := 360) (lv' := [(8, .int (y8_248 + 1)), (0, .ref m), (3, .ref (m + 276 + 2 * Z9_45.toNatClampNeg)), (5, .ref (m + 276 + 2 * (Z9_45 + 1 + 1).toNatClampNeg)), (6, .ref (m + 276 + 2 * (Z9_45 + 1 + 1 + 1).toNatClampNeg)), (7, .ref (m + 276 + 2 * (Z9_45 + 1 + 1 + 1 + 1).toNatClampNeg))]) (st' := []) [(357, .iinc 8 1)] (by decide +kernel) rfl ?_
                          have k126 := zaddC y8_248 1 (n := 1) (by decide) (by omega) (by omega)
                          generalize ev360 : (y8_248 + 1 : Int32) = v360 at k126 ⊢
                          have kv360 := zrng v360
                          refine zp_seg (pc' := 248) (lv' := [(8, .int v360), (0, .ref m), (3, .ref (m + 276 + 2 * Z9_45.toNatClampNeg)), (5, .ref (m + 276 + 2 * (Z9_45 + 1 + 1).toNatClampNeg)), (6, .ref (m + 276 + 2 * (Z9_45 + 1 + 1 + 1).toNatClampNeg)), (7, .ref (m + 276 + 2 * (Z9_45 + 1 + 1 + 1 + 1).toNatClampNeg))]) (st' := []) [(360, .goto (-112))] (by decide +kernel) rfl ?_
                          have hz127 : (v360.toNatClampNeg : Int) = v360.toInt := znat (by first | omega | decide)
                          have hb128 : w343 m = some (.inl (15, zMo m (zs (zs (zs (zs (zs g 1 (Z9_45 + 1 + 1 + 1 + 1 + 1)) 3 Z9_45) 16 Z9_45) 31 v319) 63 xF) r)) := ((heq343 m ⟨(zx_X16_roots_137 hgzZ9_45_4), (zx_X16_roots_138 hgzZ9_45_3)⟩).trans ((heq333 m (zx_X16_roots_5 hgzZ9_45_0)).trans (heq329 m (zx_X16_roots_172)))).trans hc319
                          have hb129 : w343 (m + 95) = some (.inr (0, 30, .inl (upd rb (rw9.toNatClampNeg) x270))) := ((heq343 (m + 95) ⟨(zx_X16_roots_174 hgzZ9_45_4), (zx_X16_roots_175 hgzZ9_45_3)⟩).trans (heq333 (m + 95) (zx_X16_roots_173 hgzZ9_45_0))).trans hc329
                          have hb130 : zU w343 (m + 276 + 2 * Z9_45.toNatClampNeg) 1000 ((zquo fQ (zlin (- zf r271)))) := hp333_0.ag (fun x hx1 hx2 => (heq343 x ⟨(zx_X16_roots_4 hx1 hx2 hgzZ9_45_0 hgzZ9_45_4), (zx_X16_roots_3 hx1 hx2 hgzZ9_45_0 hgzZ9_45_3)⟩))
                          have hb131 := hUp1.si ((((((((hsi274.tr hsi282).tr hsi286).tr hsi296).tr hsiL299).tr hsi319).tr hsi329).tr hsi333).tr hsi343)
                          have hb132 := hb85.si (((((hsi296.tr hsiL299).tr hsi319).tr hsi329).tr hsi333).tr hsi343)
                          have hb133 := hb86.si (((((hsi296.tr hsiL299).tr hsi319).tr hsi329).tr hsi333).tr hsi343)
                          exact (ih248 w343 v360 (v319) ((upd rb (rw9.toNatClampNeg) x270)) (((zquo fQ (zlin (- zf r271))))) (((((((((hsiL248.tr hsi274).tr hsi282).tr hsi286).tr hsi296).tr hsiL299).tr hsi319).tr hsi329).tr hsi333).tr hsi343) (fun x hx => ((heq343 x ⟨(zx_X16_roots_141 hx.1.2.2 hgzZ9_45_0 hgzZ9_45_4), (zx_X16_roots_142 hx.1.2.2 hgzZ9_45_0 hgzZ9_45_3)⟩).trans ((heq333 x (zx_X16_roots_143 hx.1.2.2 hgzZ9_45_0)).trans ((heq329 x (zx_X16_roots_169 hx.1.2.1)).trans ((heq319 x hx.2).trans ((heqL299 x ⟨⟨hx.1.1, hx.1.2.1, (zx_X16_roots_143 hx.1.2.2 hgzZ9_45_0), (zx_X16_roots_144 hx.1.2.2 hgzZ9_45_0 hgzZ9_45_3)⟩, hx.2⟩).trans ((heq296 x ⟨(zx_X16_roots_141 hx.1.2.2 hgzZ9_45_0 hgzZ9_45_4), (zx_X16_roots_142 hx.1.2.2 hgzZ9_45_0 hgzZ9_45_3)⟩).trans ((heq286 x (zx_X16_roots_140 hx.1.2.2 hgzZ9_45_0 hgzZ9_45_2)).trans ((heq282 x (zx_X16_roots_139 hx.1.2.2 hgzZ9_45_0 hgzZ9_45_2)).trans ((heq274 x (zx_X16_roots_139 hx.1.2.2 hgzZ9_45_0 hgzZ9_45_2)).trans (heqL248 x ⟨⟨hx.1.1, hx.1.2.1, hx.1.2.2⟩, hx.2⟩))))))))))) (by first | assumption | omega | decide) (by first | assumption | omega | decide) (by
                                exact hb128) hb129 hb130 hb131 hb132 hb133 (by
                                exact ⟨by omega, by omega, fun _ => ⟨by omega, by omega⟩⟩) (by omega)).more (zfa1 rfl (zfa1 rfl (zfa1 rfl (zfa1 rfl (zfa1 rfl (zfa1 rfl (zfa0)))))))
                    have hb134 : w296 (m + 95) = some (.inr (0, 30, .inl ra)) := ((heq296 (m + 95) ⟨(zx_X16_roots_174 hgzZ9_45_4), (zx_X16_roots_175 hgzZ9_45_3)⟩).trans ((heq286 (m + 95) (zx_X16_roots_177 hgzZ9_45_2)).trans ((heq282 (m + 95) (zx_X16_roots_176 hgzZ9_45_2)).trans (heq274 (m + 95) (zx_X16_roots_176 hgzZ9_45_2))))).trans hAr
                    have hb135 : zU w296 (m + 276 + 2 * Z9_45.toNatClampNeg) 1000 fP := hb87.ag (fun x hx1 hx2 => (heq296 x ⟨(zx_X16_roots_4 hx1 hx2 hgzZ9_45_0 hgzZ9_45_4), (zx_X16_roots_3 hx1 hx2 hgzZ9_45_0 hgzZ9_45_3)⟩))
                    exact (hL299 _ w296 (rv) (ra) (fP) zSI.rf (fun _ _ => rfl) (by
                          exact hb88) hb134 hb135 hp296_1 hp296_0 (by
                          exact ⟨by omega, by omega, by omega⟩) (Nat.lt_succ_self _)).more (zfa1 rfl (zfa1 rfl (zfa1 rfl (zfa1 rfl (zfa1 rfl (zfa1 rfl (zfa0)))))))
                have hl136 : (0 : Int32).toInt = 0 := by decide
                have hz137 : ((0 : Int32).toNatClampNeg : Int) = 0 := by decide
                have hb138 := hb39.si (((((hsi72.tr hsi83).tr hsi88).tr hsi93).tr hsiL164).tr hsiL167)
                obtain ⟨f139, hb140⟩ := hb138.ia_95
                have hb141 : zU wL167 (m + 276 + 2 * Z9_45.toNatClampNeg) 1000 (zaOf (fun i => zf (fn1 ((0 : Int32).toNatClampNeg + i))) 25) := hb48.ag (fun x hx1 hx2 => ((heqL167 x ⟨(zx_X16_roots_178 hx1 hx2 hgzZ9_45_0), (zx_X16_roots_6 hx1 hx2 hgzZ9_45_0)⟩).trans (heqL164 x ⟨⟨(zx_X16_roots_0 hx1 hx2 hgzZ9_45_0), (zx_X16_roots_178 hx1 hx2 hgzZ9_45_0), (zx_X16_roots_179 hx1 hx2 hgzZ9_45_0), (zx_X16_roots_180 hx1 hx2 hgzZ9_45_0 hgzZ9_45_1)⟩, (zx_X16_roots_6 hx1 hx2 hgzZ9_45_0)⟩)))
                have hb142 := hUo1.si hsiL167
                have hb143 := hUo2.si hsiL167
                have hb144 := hUo3.si hsiL167
                exact (hL248 _ wL167 0 (rc0) (f139) ((zaOf (fun i => zf (fn1 ((0 : Int32).toNatClampNeg + i))) 25)) zSI.rf (fun _ _ => rfl) (by first | assumption | omega | decide) (by first | assumption | omega | decide) (by
                      exact hmL167) hb140 hb141 hb142 hb143 hb144 (by
                      exact ⟨by omega, by omega, fun h9 => ⟨by have := hxF9.2.2 h9; omega, by omega⟩⟩) (Nat.lt_succ_self _)).more (zfa1 rfl (zfa1 rfl (zfa1 rfl (zfa1 rfl (zfa1 rfl (zfa1 rfl (zfa0)))))))
              ·
                have k145 := zrng xF
                have f146 := znleI cc173
                refine zp_seg (pc' := 181) (lv' := [(9, .int y8_167), (0, .ref m), (3, .ref (m + 276 + 2 * Z9_45.toNatClampNeg)), (5, .ref (m + 276 + 2 * (Z9_45 + 1 + 1).toNatClampNeg)), (6, .ref (m + 276 + 2 * (Z9_45 + 1 + 1 + 1).toNatClampNeg)), (7, .ref (m + 276 + 2 * (Z9_45 + 1 + 1 + 1 + 1).toNatClampNeg)), (8, .int y8_167)]) (st' := [.ref m]) [(176, .iload 8), (178, .istore 9), (180, .aload_n 0)] (by decide +kernel) rfl ?_
                refine zr_get (idx := 538) (k := 62) (v := .ref (m + 274)) (by decide +kernel) (by decide +kernel) hmL167 rfl ?_
                refine zp_seg (pc' := 186) (lv' := [(9, .int y8_167), (0, .ref m), (3, .ref (m + 276 + 2 * Z9_45.toNatClampNeg)), (5, .ref (m + 276 + 2 * (Z9_45 + 1 + 1).toNatClampNeg)), (6, .ref (m + 276 + 2 * (Z9_45 + 1 + 1 + 1).toNatClampNeg)), (7, .ref (m + 276 + 2 * (Z9_45 + 1 + 1 + 1 + 1).toNatClampNeg)), (8, .int y8_167)]) (st' := [.int y8_167, .ref (m + 274)]) [(184, .iload 8)] (by decide +kernel) rfl ?_
                refine zr_iald (by decide +kernel) hAs (zin (by first | omega | decide) (by first | omega | decide)) ?_
                obtain ⟨x186, ex186⟩ : ∃ x9, x9 = sa (y8_167.toNatClampNeg) := ⟨_, rfl⟩
                rw [← ex186]
                have kx186 := zrng x186
                have hv187 : zr1 x186 := by rw [ex186]; exact hsa9 _ (by omega)
                refine zp_seg (pc' := 189) (lv' := [(10, .int x186), (9, .int y8_167), (0, .ref m), (3, .ref (m + 276 + 2 * Z9_45.toNatClampNeg)), (5, .ref (m + 276 + 2 * (Z9_45 + 1 + 1).toNatClampNeg)), (6, .ref (m + 276 + 2 * (Z9_45 + 1 + 1 + 1).toNatClampNeg)), (7, .ref (m + 276 + 2 * (Z9_45 + 1 + 1 + 1 + 1).toNatClampNeg)), (8, .int y8_167)]) (st' := []) [(187, .istore 10)] (by decide +kernel) rfl ?_
                have hL189 : ∀ (mm189 : Nat) (wL189 : zM) (y9_189 : Int32) (sb : Nat → Int32), (zSI wL167 wL189) → (∀ x, ((x < m + 274 ∨ m + 274 + 1 ≤ x)) ∧ x ≠ m → wL189 x = wL167 x) → (0 ≤ y9_189.toInt) → (y9_189.toInt ≤ y8_167.toInt) → (wL189 (m + 274) = some (.inr (0, 30, .inl sb))) → (wL189 m = some (.inl (15, zMo m (zs (zs (zs (zs (zs g 1 (Z9_45 + 1 + 1 + 1 + 1 + 1)) 3 Z9_45) 16 Z9_45) 31 rc0) 63 xF) r))) → (∀ i : Nat, (i : Int) < xF.toInt → zr1 (sb i)) → (y9_189.toInt + 1).toNat < mm189 → zP (d + 1) zq_X16_roots 189 [(0, .ref m), (3, .ref (m + 276 + 2 * Z9_45.toNatClampNeg)), (5, .ref (m + 276 + 2 * (Z9_45 + 1 + 1).toNatClampNeg)), (6, .ref (m + 276 + 2 * (Z9_45 + 1 + 1 + 1).toNatClampNeg)), (7, .ref (m + 276 + 2 * (Z9_45 + 1 + 1 + 1 + 1).toNatClampNeg)), (8, .int y8_167), (9, .int y9_189), (10, .int x186)] [] wL189 sz 0 0 Post := by
                  intro mm189
                  induction mm189 with
                  | zero => intros; omega
                  | succ mm189 ih189 =>
                  intro wL189 y9_189 sb hsiL189 heqL189 hi189_0 hi189_1 hAb hmL189 hsb9 hmu189
                  have ky9_189 := zrng y9_189
                  have hz147 : (y9_189.toNatClampNeg : Int) = y9_189.toInt := znat (by first | omega | decide)
                  refine zp_seg (pc' := 191) (lv' := [(0, .ref m), (3, .ref (m + 276 + 2 * Z9_45.toNatClampNeg)), (5, .ref (m + 276 + 2 * (Z9_45 + 1 + 1).toNatClampNeg)), (6, .ref (m + 276 + 2 * (Z9_45 + 1 + 1 + 1).toNatClampNeg)), (7, .ref (m + 276 + 2 * (Z9_45 + 1 + 1 + 1 + 1).toNatClampNeg)), (8, .int y8_167), (9, .int y9_189), (10, .int x186)]) (st' := [.int y9_189]) [(189, .iload 9)] (by decide +kernel) rfl ?_
                  refine zp_if (i := .ifCond .le 39) (c := y9_189 ≤ 0) (t := 230) (e := 194) (lv' := [(0, .ref m), (3, .ref (m + 276 + 2 * Z9_45.toNatClampNeg)), (5, .ref (m + 276 + 2 * (Z9_45 + 1 + 1).toNatClampNeg)), (6, .ref (m + 276 + 2 * (Z9_45 + 1 + 1 + 1).toNatClampNeg)), (7, .ref (m + 276 + 2 * (Z9_45 + 1 + 1 + 1 + 1).toNatClampNeg)), (8, .int y8_167), (9, .int y9_189), (10, .int x186)]) (st' := []) (by decide +kernel) rfl (fun cc191 => ?_) (fun cc191 => ?_)
                  ·
                    have f148 := zleI cc191
                    rw [show (0 : Int32).toInt = 0 from by decide] at f148
                    refine zp_seg (pc' := 231) (lv' := [(0, .ref m), (3, .ref (m + 276 + 2 * Z9_45.toNatClampNeg)), (5, .ref (m + 276 + 2 * (Z9_45 + 1 + 1).toNatClampNeg)), (6, .ref (m + 276 + 2 * (Z9_45 + 1 + 1 + 1).toNatClampNeg)), (7, .ref (m + 276 + 2 * (Z9_45 + 1 + 1 + 1 + 1).toNatClampNeg)), (8, .int y8_167), (9, .int y9_189), (10, .int x186)]) (st' := [.ref m]) [(230, .aload_n 0)] (by decide +kernel) rfl ?_
                    refine zr_get (idx := 538) (k := 62) (v := .ref (m + 274)) (by decide +kernel) (by decide +kernel) hmL189 rfl ?_
                    refine zp_seg (pc' := 238) (lv' := [(0, .ref m), (3, .ref (m + 276 + 2 * Z9_45.toNatClampNeg)), (5, .ref (m + 276 + 2 * (Z9_45 + 1 + 1).toNatClampNeg)), (6, .ref (m + 276 + 2 * (Z9_45 + 1 + 1 + 1).toNatClampNeg)), (7, .ref (m + 276 + 2 * (Z9_45 + 1 + 1 + 1 + 1).toNatClampNeg)), (8, .int y8_167), (9, .int y9_189), (10, .int x186)]) (st' := [.int x186, .int y9_189, .ref (m + 274)]) [(234, .iload 9), (236, .iload 10)] (by decide +kernel) rfl ?_
                    refine zr_iast (by decide +kernel) hAb (zin (by first | omega | decide) (by first | omega | decide)) ?_
                    show zP (d + 1) zq_X16_roots 239 [(0, .ref m), (3, .ref (m + 276 + 2 * Z9_45.toNatClampNeg)), (5, .ref (m + 276 + 2 * (Z9_45 + 1 + 1).toNatClampNeg)), (6, .ref (m + 276 + 2 * (Z9_45 + 1 + 1 + 1).toNatClampNeg)), (7, .ref (m + 276 + 2 * (Z9_45 + 1 + 1 + 1 + 1).toNatClampNeg)), (8, .int y8_167), (9, .int y9_189), (10, .int x186)] [] (zup wL189 (m + 274) (.inr (0, 30, .inl (upd sb (y9_189.toNatClampNeg) x186)))) sz 0 0 Post
                    obtain ⟨w238, ew238⟩ : ∃ wz9, wz9 = zup wL189 (m + 274) (.inr (0, 30, .inl (upd sb (y9_189.toNatClampNeg) x186))) := ⟨_, rfl⟩
                    have hsi238 : zSI wL189 w238 := by rw [ew238]; exact zSI.arr _ hAb
                    have heq238 : ∀ x, x ≠ m + 274 → w238 x = wL189 x := fun x hx => by rw [ew238]; exact zup_n hx
                    have hc238 : w238 (m + 274) = some (.inr (0, 30, .inl (upd sb (y9_189.toNatClampNeg) x186))) := by rw [ew238]; exact zup_s
                    rw [← ew238]
                    clear ew238
                    refine zp_seg (pc' := 242) (lv' := [(8, .int (y8_167 + 1)), (0, .ref m), (3, .ref (m + 276 + 2 * Z9_45.toNatClampNeg)), (5, .ref (m + 276 + 2 * (Z9_45 + 1 + 1).toNatClampNeg)), (6, .ref (m + 276 + 2 * (Z9_45 + 1 + 1 + 1).toNatClampNeg)), (7, .ref (m + 276 + 2 * (Z9_45 + 1 + 1 + 1 + 1).toNatClampNeg)), (9, .int y9_189), (10, .int x186)]) (st' := []) [(239, .iinc 8 1)] (by decide +kernel) rfl ?_
                    have k149 := zaddC y8_167 1 (n := 1) (by decide) (by omega) (by omega)
                    generalize ev242 : (y8_167 + 1 : Int32) = v242 at k149 ⊢
                    have kv242 := zrng v242
                    refine zp_seg (pc' := 167) (lv' := [(8, .int v242), (0, .ref m), (3, .ref (m + 276 + 2 * Z9_45.toNatClampNeg)), (5, .ref (m + 276 + 2 * (Z9_45 + 1 + 1).toNatClampNeg)), (6, .ref (m + 276 + 2 * (Z9_45 + 1 + 1 + 1).toNatClampNeg)), (7, .ref (m + 276 + 2 * (Z9_45 + 1 + 1 + 1 + 1).toNatClampNeg)), (9, .int y9_189), (10, .int x186)]) (st' := []) [(242, .goto (-75))] (by decide +kernel) rfl ?_
                    have hz150 : (v242.toNatClampNeg : Int) = v242.toInt := znat (by first | omega | decide)
                    have hb151 : w238 m = some (.inl (15, zMo m (zs (zs (zs (zs (zs g 1 (Z9_45 + 1 + 1 + 1 + 1 + 1)) 3 Z9_45) 16 Z9_45) 31 rc0) 63 xF) r)) := (heq238 m (zx_X16_roots_182)).trans hmL189
                    exact (ih167 w238 v242 ((upd sb (y9_189.toNatClampNeg) x186)) ((hsiL167.tr hsiL189).tr hsi238) (fun x hx => ((heq238 x (zx_X16_roots_181 hx.1)).trans ((heqL189 x ⟨hx.1, hx.2⟩).trans (heqL167 x ⟨hx.1, hx.2⟩)))) (by first | assumption | omega | decide) (by first | assumption | omega | decide) hc238 hb151 (by
                          intro i hi
                          by_cases e : i = y9_189.toNatClampNeg
                          · rw [e, zupd_s]; exact hv187
                          · rw [zupd_n _ _ e]; exact hsb9 i hi) (by omega)).more (zfa1 rfl (zfa1 rfl (zfa1 rfl (zfa1 rfl (zfa1 rfl (zfa1 rfl (zfa0)))))))
                  ·
                    have f152 := znleI cc191
                    rw [show (0 : Int32).toInt = 0 from by decide] at f152
                    refine zp_seg (pc' := 195) (lv' := [(0, .ref m), (3, .ref (m + 276 + 2 * Z9_45.toNatClampNeg)), (5, .ref (m + 276 + 2 * (Z9_45 + 1 + 1).toNatClampNeg)), (6, .ref (m + 276 + 2 * (Z9_45 + 1 + 1 + 1).toNatClampNeg)), (7, .ref (m + 276 + 2 * (Z9_45 + 1 + 1 + 1 + 1).toNatClampNeg)), (8, .int y8_167), (9, .int y9_189), (10, .int x186)]) (st' := [.ref m]) [(194, .aload_n 0)] (by decide +kernel) rfl ?_
                    refine zr_get (idx := 538) (k := 62) (v := .ref (m + 274)) (by decide +kernel) (by decide +kernel) hmL189 rfl ?_
                    refine zp_seg (pc' := 202) (lv' := [(0, .ref m), (3, .ref (m + 276 + 2 * Z9_45.toNatClampNeg)), (5, .ref (m + 276 + 2 * (Z9_45 + 1 + 1).toNatClampNeg)), (6, .ref (m + 276 + 2 * (Z9_45 + 1 + 1 + 1).toNatClampNeg)), (7, .ref (m + 276 + 2 * (Z9_45 + 1 + 1 + 1 + 1).toNatClampNeg)), (8, .int y8_167), (9, .int y9_189), (10, .int x186)]) (st' := [.int (y9_189 - 1), .ref (m + 274)]) [(198, .iload 9), (200, .iconst 1), (201, .isub)] (by decide +kernel) rfl ?_
                    have k153 := zsubC y9_189 1 (n := 1) (by decide) (by omega) (by omega)
                    generalize ev202 : (y9_189 - 1 : Int32) = v202 at k153 ⊢
                    have kv202 := zrng v202
                    refine zr_iald (by decide +kernel) hAb (zin (by first | omega | decide) (by first | omega | decide)) ?_
                    have hz154 : (v202.toNatClampNeg : Int) = v202.toInt := znat (by first | omega | decide)
                    obtain ⟨x202, ex202⟩ : ∃ x9, x9 = sb (v202.toNatClampNeg) := ⟨_, rfl⟩
                    rw [← ex202]
                    have kx202 := zrng x202
                    refine zp_seg (pc' := 205) (lv' := [(0, .ref m), (3, .ref (m + 276 + 2 * Z9_45.toNatClampNeg)), (5, .ref (m + 276 + 2 * (Z9_45 + 1 + 1).toNatClampNeg)), (6, .ref (m + 276 + 2 * (Z9_45 + 1 + 1 + 1).toNatClampNeg)), (7, .ref (m + 276 + 2 * (Z9_45 + 1 + 1 + 1 + 1).toNatClampNeg)), (8, .int y8_167), (9, .int y9_189), (10, .int x186)]) (st' := [.int x186, .int x202]) [(203, .iload 10)] (by decide +kernel) rfl ?_
                    refine zp_if (i := .if_icmp .le 25) (c := x202 ≤ x186) (t := 230) (e := 208) (lv' := [(0, .ref m), (3, .ref (m + 276 + 2 * Z9_45.toNatClampNeg)), (5, .ref (m + 276 + 2 * (Z9_45 + 1 + 1).toNatClampNeg)), (6, .ref (m + 276 + 2 * (Z9_45 + 1 + 1 + 1).toNatClampNeg)), (7, .ref (m + 276 + 2 * (Z9_45 + 1 + 1 + 1 + 1).toNatClampNeg)), (8, .int y8_167), (9, .int y9_189), (10, .int x186)]) (st' := []) (by decide +kernel) rfl (fun cc205 => ?_) (fun cc205 => ?_)
                    ·
                      have f155 := zleI cc205
                      refine zp_seg (pc' := 231) (lv' := [(0, .ref m), (3, .ref (m + 276 + 2 * Z9_45.toNatClampNeg)), (5, .ref (m + 276 + 2 * (Z9_45 + 1 + 1).toNatClampNeg)), (6, .ref (m + 276 + 2 * (Z9_45 + 1 + 1 + 1).toNatClampNeg)), (7, .ref (m + 276 + 2 * (Z9_45 + 1 + 1 + 1 + 1).toNatClampNeg)), (8, .int y8_167), (9, .int y9_189), (10, .int x186)]) (st' := [.ref m]) [(230, .aload_n 0)] (by decide +kernel) rfl ?_
                      refine zr_get (idx := 538) (k := 62) (v := .ref (m + 274)) (by decide +kernel) (by decide +kernel) hmL189 rfl ?_
                      refine zp_seg (pc' := 238) (lv' := [(0, .ref m), (3, .ref (m + 276 + 2 * Z9_45.toNatClampNeg)), (5, .ref (m + 276 + 2 * (Z9_45 + 1 + 1).toNatClampNeg)), (6, .ref (m + 276 + 2 * (Z9_45 + 1 + 1 + 1).toNatClampNeg)), (7, .ref (m + 276 + 2 * (Z9_45 + 1 + 1 + 1 + 1).toNatClampNeg)), (8, .int y8_167), (9, .int y9_189), (10, .int x186)]) (st' := [.int x186, .int y9_189, .ref (m + 274)]) [(234, .iload 9), (236, .iload 10)] (by decide +kernel) rfl ?_
                      refine zr_iast (by decide +kernel) hAb (zin (by first | omega | decide) (by first | omega | decide)) ?_
                      show zP (d + 1) zq_X16_roots 239 [(0, .ref m), (3, .ref (m + 276 + 2 * Z9_45.toNatClampNeg)), (5, .ref (m + 276 + 2 * (Z9_45 + 1 + 1).toNatClampNeg)), (6, .ref (m + 276 + 2 * (Z9_45 + 1 + 1 + 1).toNatClampNeg)), (7, .ref (m + 276 + 2 * (Z9_45 + 1 + 1 + 1 + 1).toNatClampNeg)), (8, .int y8_167), (9, .int y9_189), (10, .int x186)] [] (zup wL189 (m + 274) (.inr (0, 30, .inl (upd sb (y9_189.toNatClampNeg) x186)))) sz 0 0 Post
                      obtain ⟨w238, ew238⟩ : ∃ wz9, wz9 = zup wL189 (m + 274) (.inr (0, 30, .inl (upd sb (y9_189.toNatClampNeg) x186))) := ⟨_, rfl⟩
                      have hsi238 : zSI wL189 w238 := by rw [ew238]; exact zSI.arr _ hAb
                      have heq238 : ∀ x, x ≠ m + 274 → w238 x = wL189 x := fun x hx => by rw [ew238]; exact zup_n hx
                      have hc238 : w238 (m + 274) = some (.inr (0, 30, .inl (upd sb (y9_189.toNatClampNeg) x186))) := by rw [ew238]; exact zup_s
                      rw [← ew238]
                      clear ew238
                      refine zp_seg (pc' := 242) (lv' := [(8, .int (y8_167 + 1)), (0, .ref m), (3, .ref (m + 276 + 2 * Z9_45.toNatClampNeg)), (5, .ref (m + 276 + 2 * (Z9_45 + 1 + 1).toNatClampNeg)), (6, .ref (m + 276 + 2 * (Z9_45 + 1 + 1 + 1).toNatClampNeg)), (7, .ref (m + 276 + 2 * (Z9_45 + 1 + 1 + 1 + 1).toNatClampNeg)), (9, .int y9_189), (10, .int x186)]) (st' := []) [(239, .iinc 8 1)] (by decide +kernel) rfl ?_
                      have k156 := zaddC y8_167 1 (n := 1) (by decide) (by omega) (by omega)
                      generalize ev242 : (y8_167 + 1 : Int32) = v242 at k156 ⊢
                      have kv242 := zrng v242
                      refine zp_seg (pc' := 167) (lv' := [(8, .int v242), (0, .ref m), (3, .ref (m + 276 + 2 * Z9_45.toNatClampNeg)), (5, .ref (m + 276 + 2 * (Z9_45 + 1 + 1).toNatClampNeg)), (6, .ref (m + 276 + 2 * (Z9_45 + 1 + 1 + 1).toNatClampNeg)), (7, .ref (m + 276 + 2 * (Z9_45 + 1 + 1 + 1 + 1).toNatClampNeg)), (9, .int y9_189), (10, .int x186)]) (st' := []) [(242, .goto (-75))] (by decide +kernel) rfl ?_
                      have hz157 : (v242.toNatClampNeg : Int) = v242.toInt := znat (by first | omega | decide)
                      have hb158 : w238 m = some (.inl (15, zMo m (zs (zs (zs (zs (zs g 1 (Z9_45 + 1 + 1 + 1 + 1 + 1)) 3 Z9_45) 16 Z9_45) 31 rc0) 63 xF) r)) := (heq238 m (zx_X16_roots_182)).trans hmL189
                      exact (ih167 w238 v242 ((upd sb (y9_189.toNatClampNeg) x186)) ((hsiL167.tr hsiL189).tr hsi238) (fun x hx => ((heq238 x (zx_X16_roots_181 hx.1)).trans ((heqL189 x ⟨hx.1, hx.2⟩).trans (heqL167 x ⟨hx.1, hx.2⟩)))) (by first | assumption | omega | decide) (by first | assumption | omega | decide) hc238 hb158 (by
                            intro i hi
                            by_cases e : i = y9_189.toNatClampNeg
                            · rw [e, zupd_s]; exact hv187
                            · rw [zupd_n _ _ e]; exact hsb9 i hi) (by omega)).more (zfa1 rfl (zfa1 rfl (zfa1 rfl (zfa1 rfl (zfa1 rfl (zfa1 rfl (zfa0)))))))
                    ·
                      have f159 := znleI cc205
                      refine zp_seg (pc' := 209) (lv' := [(0, .ref m), (3, .ref (m + 276 + 2 * Z9_45.toNatClampNeg)), (5, .ref (m + 276 + 2 * (Z9_45 + 1 + 1).toNatClampNeg)), (6, .ref (m + 276 + 2 * (Z9_45 + 1 + 1 + 1).toNatClampNeg)), (7, .ref (m + 276 + 2 * (Z9_45 + 1 + 1 + 1 + 1).toNatClampNeg)), (8, .int y8_167), (9, .int y9_189), (10, .int x186)]) (st' := [.ref m]) [(208, .aload_n 0)] (by decide +kernel) rfl ?_
                      refine zr_get (idx := 538) (k := 62) (v := .ref (m + 274)) (by decide +kernel) (by decide +kernel) hmL189 rfl ?_
                      refine zp_seg (pc' := 215) (lv' := [(0, .ref m), (3, .ref (m + 276 + 2 * Z9_45.toNatClampNeg)), (5, .ref (m + 276 + 2 * (Z9_45 + 1 + 1).toNatClampNeg)), (6, .ref (m + 276 + 2 * (Z9_45 + 1 + 1 + 1).toNatClampNeg)), (7, .ref (m + 276 + 2 * (Z9_45 + 1 + 1 + 1 + 1).toNatClampNeg)), (8, .int y8_167), (9, .int y9_189), (10, .int x186)]) (st' := [.ref m, .int y9_189, .ref (m + 274)]) [(212, .iload 9), (214, .aload_n 0)] (by decide +kernel) rfl ?_
                      refine zr_get (idx := 538) (k := 62) (v := .ref (m + 274)) (by decide +kernel) (by decide +kernel) hmL189 rfl ?_
                      refine zp_seg (pc' := 222) (lv' := [(0, .ref m), (3, .ref (m + 276 + 2 * Z9_45.toNatClampNeg)), (5, .ref (m + 276 + 2 * (Z9_45 + 1 + 1).toNatClampNeg)), (6, .ref (m + 276 + 2 * (Z9_45 + 1 + 1 + 1).toNatClampNeg)), (7, .ref (m + 276 + 2 * (Z9_45 + 1 + 1 + 1 + 1).toNatClampNeg)), (8, .int y8_167), (9, .int y9_189), (10, .int x186)]) (st' := [.int (y9_189 - 1), .ref (m + 274), .int y9_189, .ref (m + 274)]) [(218, .iload 9), (220, .iconst 1), (221, .isub)] (by decide +kernel) rfl ?_
                      have k160 := zsubC y9_189 1 (n := 1) (by decide) (by omega) (by omega)
                      generalize ev222 : (y9_189 - 1 : Int32) = v222 at k160 ⊢
                      have kv222 := zrng v222
                      refine zr_iald (by decide +kernel) hAb (zin (by first | omega | decide) (by first | omega | decide)) ?_
                      have hz161 : (v222.toNatClampNeg : Int) = v222.toInt := znat (by first | omega | decide)
                      obtain ⟨x222, ex222⟩ : ∃ x9, x9 = sb (v222.toNatClampNeg) := ⟨_, rfl⟩
                      rw [← ex222]
                      have kx222 := zrng x222
                      refine zr_iast (by decide +kernel) hAb (zin (by first | omega | decide) (by first | omega | decide)) ?_
                      show zP (d + 1) zq_X16_roots 224 [(0, .ref m), (3, .ref (m + 276 + 2 * Z9_45.toNatClampNeg)), (5, .ref (m + 276 + 2 * (Z9_45 + 1 + 1).toNatClampNeg)), (6, .ref (m + 276 + 2 * (Z9_45 + 1 + 1 + 1).toNatClampNeg)), (7, .ref (m + 276 + 2 * (Z9_45 + 1 + 1 + 1 + 1).toNatClampNeg)), (8, .int y8_167), (9, .int y9_189), (10, .int x186)] [] (zup wL189 (m + 274) (.inr (0, 30, .inl (upd sb (y9_189.toNatClampNeg) x222)))) sz 0 0 Post
                      obtain ⟨w223, ew223⟩ : ∃ wz9, wz9 = zup wL189 (m + 274) (.inr (0, 30, .inl (upd sb (y9_189.toNatClampNeg) x222))) := ⟨_, rfl⟩
                      have hsi223 : zSI wL189 w223 := by rw [ew223]; exact zSI.arr _ hAb
                      have heq223 : ∀ x, x ≠ m + 274 → w223 x = wL189 x := fun x hx => by rw [ew223]; exact zup_n hx
                      have hc223 : w223 (m + 274) = some (.inr (0, 30, .inl (upd sb (y9_189.toNatClampNeg) x222))) := by rw [ew223]; exact zup_s
                      rw [← ew223]
                      clear ew223
                      refine zp_seg (pc' := 227) (lv' := [(9, .int (y9_189 + (Int32.ofInt (-1)))), (0, .ref m), (3, .ref (m + 276 + 2 * Z9_45.toNatClampNeg)), (5, .ref (m + 276 + 2 * (Z9_45 + 1 + 1).toNatClampNeg)), (6, .ref (m + 276 + 2 * (Z9_45 + 1 + 1 + 1).toNatClampNeg)), (7, .ref (m + 276 + 2 * (Z9_45 + 1 + 1 + 1 + 1).toNatClampNeg)), (8, .int y8_167), (10, .int x186)]) (st' := []) [(224, .iinc 9 (-1))] (by decide +kernel) rfl ?_
                      have k162 := zaddC y9_189 ((Int32.ofInt (-1))) (n := (-1)) (by decide) (by omega) (by omega)
                      generalize ev227 : (y9_189 + (Int32.ofInt (-1)) : Int32) = v227 at k162 ⊢
                      have kv227 := zrng v227
                      refine zp_seg (pc' := 189) (lv' := [(9, .int v227), (0, .ref m), (3, .ref (m + 276 + 2 * Z9_45.toNatClampNeg)), (5, .ref (m + 276 + 2 * (Z9_45 + 1 + 1).toNatClampNeg)), (6, .ref (m + 276 + 2 * (Z9_45 + 1 + 1 + 1).toNatClampNeg)), (7, .ref (m + 276 + 2 * (Z9_45 + 1 + 1 + 1 + 1).toNatClampNeg)), (8, .int y8_167), (10, .int x186)]) (st' := []) [(227, .goto (-38))] (by decide +kernel) rfl ?_
                      have hz163 : (v227.toNatClampNeg : Int) = v227.toInt := znat (by first | omega | decide)
                      have hb164 : w223 m = some (.inl (15, zMo m (zs (zs (zs (zs (zs g 1 (Z9_45 + 1 + 1 + 1 + 1 + 1)) 3 Z9_45) 16 Z9_45) 31 rc0) 63 xF) r)) := (heq223 m (zx_X16_roots_182)).trans hmL189
                      exact (ih189 w223 v227 ((upd sb (y9_189.toNatClampNeg) x222)) (hsiL189.tr hsi223) (fun x hx => ((heq223 x (zx_X16_roots_181 hx.1)).trans (heqL189 x ⟨hx.1, hx.2⟩))) (by first | assumption | omega | decide) (by first | assumption | omega | decide) hc223 hb164 (by
                            intro i hi
                            by_cases e : i = y9_189.toNatClampNeg
                            · rw [e, zupd_s, ex222]; exact hsb9 _ (by omega)
                            · rw [zupd_n _ _ e]; exact hsb9 i hi) (by omega)).more (zfa1 rfl (zfa1 rfl (zfa1 rfl (zfa1 rfl (zfa1 rfl (zfa1 rfl (zfa1 rfl (zfa1 rfl (zfa0)))))))))
                exact (hL189 _ wL167 y8_167 (sa) zSI.rf (fun _ _ => rfl) (by first | assumption | omega | decide) (by first | assumption | omega | decide) hAs hmL167 (by
                      exact hsa9) (Nat.lt_succ_self _)).more (zfa1 rfl (zfa1 rfl (zfa1 rfl (zfa1 rfl (zfa1 rfl (zfa1 rfl (zfa1 rfl (zfa1 rfl (zfa0)))))))))
            have hl165 : (0 : Int32).toInt = 0 := by decide
            have hz166 : ((0 : Int32).toNatClampNeg : Int) = 0 := by decide
            exact (hL167 _ wL164 0 (fA) zSI.rf (fun _ _ => rfl) (by first | assumption | omega | decide) (by first | assumption | omega | decide) hAf hxM (by
                  exact hfz9) (Nat.lt_succ_self _)).more (zfa1 rfl (zfa1 rfl (zfa1 rfl (zfa1 rfl (zfa1 rfl (zfa1 rfl (zfa0)))))))
          refine zp_if (i := .if_icmp .le 63) (c := n49 ≤ 1) (t := 164) (e := 104) (lv' := [(7, .ref (m + 276 + 2 * (Z9_45 + 1 + 1 + 1 + 1).toNatClampNeg)), (6, .ref (m + 276 + 2 * (Z9_45 + 1 + 1 + 1).toNatClampNeg)), (5, .ref (m + 276 + 2 * (Z9_45 + 1 + 1).toNatClampNeg)), (4, .ref (m + 276 + 2 * (Z9_45 + 1).toNatClampNeg)), (3, .ref (m + 276 + 2 * Z9_45.toNatClampNeg)), (2, .ref (m + 7486 + 9 * s9.toNatClampNeg)), (0, .ref m), (1, .int s9)]) (st' := []) (by decide +kernel) rfl (fun cc101 => ?_) (fun cc101 => ?_)
          ·
            have f167 := zleI cc101
            rw [show (1 : Int32).toInt = 1 from by decide] at f167
            have hb168 := hb39.si (((hsi72.tr hsi83).tr hsi88).tr hsi93)
            obtain ⟨f169, hb170⟩ := hb168.ia_274
            have hb171 : zU w93 (m + 276 + 2 * (Z9_45 + 1).toNatClampNeg) 1000 zaZ := hp54_1.ag (fun x hx1 hx2 => ((heq93 x (zx_X16_roots_188 hx1 hx2 hgzZ9_45_1)).trans ((heq88 x (zx_X16_roots_188 hx1 hx2 hgzZ9_45_1)).trans ((heq83 x (zx_X16_roots_187 hx1 hx2 hgzZ9_45_0 hgzZ9_45_1)).trans ((heq72 x ⟨(zx_X16_roots_183 hx1 hx2 hgzZ9_45_1), (zx_X16_roots_186 hx1 hx2 hgzZ9_45_1 hgzZ9_45_4)⟩).trans ((heq66 x ⟨(zx_X16_roots_183 hx1 hx2 hgzZ9_45_1), (zx_X16_roots_185 hx1 hx2 hgzZ9_45_1 hgzZ9_45_3)⟩).trans (heq60 x ⟨(zx_X16_roots_183 hx1 hx2 hgzZ9_45_1), (zx_X16_roots_184 hx1 hx2 hgzZ9_45_1 hgzZ9_45_2)⟩)))))))
            have hb172 : zU w93 (m + 276 + 2 * (Z9_45 + 1 + 1).toNatClampNeg) 1000 zaZ := hp60_1.ag (fun x hx1 hx2 => ((heq93 x (zx_X16_roots_165 hx1 hx2 hgzZ9_45_2)).trans ((heq88 x (zx_X16_roots_165 hx1 hx2 hgzZ9_45_2)).trans ((heq83 x (zx_X16_roots_163 hx1 hx2 hgzZ9_45_0 hgzZ9_45_2)).trans ((heq72 x ⟨(zx_X16_roots_161 hx1 hx2 hgzZ9_45_2), (zx_X16_roots_159 hx1 hx2 hgzZ9_45_2 hgzZ9_45_4)⟩).trans (heq66 x ⟨(zx_X16_roots_161 hx1 hx2 hgzZ9_45_2), (zx_X16_roots_160 hx1 hx2 hgzZ9_45_2 hgzZ9_45_3)⟩))))))
            have hb173 : zU w93 (m + 276 + 2 * (Z9_45 + 1 + 1 + 1).toNatClampNeg) 1000 zaZ := hp66_1.ag (fun x hx1 hx2 => ((heq93 x (zx_X16_roots_153 hx1 hx2 hgzZ9_45_3)).trans ((heq88 x (zx_X16_roots_153 hx1 hx2 hgzZ9_45_3)).trans ((heq83 x (zx_X16_roots_155 hx1 hx2 hgzZ9_45_0 hgzZ9_45_3)).trans (heq72 x ⟨(zx_X16_roots_189 hx1 hx2 hgzZ9_45_3), (zx_X16_roots_190 hx1 hx2 hgzZ9_45_3 hgzZ9_45_4)⟩)))))
            have hb174 : zU w93 (m + 276 + 2 * (Z9_45 + 1 + 1 + 1 + 1).toNatClampNeg) 1000 zaZ := hp72_1.ag (fun x hx1 hx2 => ((heq93 x (zx_X16_roots_156 hx1 hx2 hgzZ9_45_4)).trans ((heq88 x (zx_X16_roots_156 hx1 hx2 hgzZ9_45_4)).trans (heq83 x (zx_X16_roots_158 hx1 hx2 hgzZ9_45_0 hgzZ9_45_4)))))
            exact (hJ164 w93 (fc0) (f169) zSI.rf (fun _ _ => rfl) (by
                  exact hc93) hb170 (zU.o hb171) (zU.o hb172) (zU.o hb173) (zU.o hb174) (by
                  exact ⟨by omega, by omega, fun _ => by omega⟩) (by
                  first | exact hp161_2.2 | exact fun i hi => absurd hi (by omega))).more (zfa1 rfl (zfa1 rfl (zfa1 rfl (zfa1 rfl (zfa1 rfl (zfa0))))))
          ·
            have f175 := znleI cc101
            rw [show (1 : Int32).toInt = 1 from by decide] at f175
            refine zp_seg (pc' := 106) (lv' := [(7, .ref (m + 276 + 2 * (Z9_45 + 1 + 1 + 1 + 1).toNatClampNeg)), (6, .ref (m + 276 + 2 * (Z9_45 + 1 + 1 + 1).toNatClampNeg)), (5, .ref (m + 276 + 2 * (Z9_45 + 1 + 1).toNatClampNeg)), (4, .ref (m + 276 + 2 * (Z9_45 + 1).toNatClampNeg)), (3, .ref (m + 276 + 2 * Z9_45.toNatClampNeg)), (2, .ref (m + 7486 + 9 * s9.toNatClampNeg)), (0, .ref m), (1, .int s9)]) (st' := [.ref (m + 276 + 2 * (Z9_45 + 1 + 1).toNatClampNeg)]) [(104, .aload 5)] (by decide +kernel) rfl ?_
            obtain ⟨n176, f177, hu178, hu179, hu180, hu181, hu182⟩ := id hp60_1
            have kn176 := zrng n176
            have hb183 : w93 (m + 276 + 2 * (Z9_45 + 1 + 1).toNatClampNeg) = some (.inl (14, [.ref (m + 276 + 2 * (Z9_45 + 1 + 1).toNatClampNeg + 1), .int n176])) := ((heq93 (m + 276 + 2 * (Z9_45 + 1 + 1).toNatClampNeg) (zx_X16_roots_195 hgzZ9_45_2)).trans ((heq88 (m + 276 + 2 * (Z9_45 + 1 + 1).toNatClampNeg) (zx_X16_roots_195 hgzZ9_45_2)).trans ((heq83 (m + 276 + 2 * (Z9_45 + 1 + 1).toNatClampNeg) (zx_X16_roots_194 hgzZ9_45_0 hgzZ9_45_2)).trans ((heq72 (m + 276 + 2 * (Z9_45 + 1 + 1).toNatClampNeg) ⟨(zx_X16_roots_191 hgzZ9_45_2), (zx_X16_roots_193 hgzZ9_45_2 hgzZ9_45_4)⟩).trans (heq66 (m + 276 + 2 * (Z9_45 + 1 + 1).toNatClampNeg) ⟨(zx_X16_roots_191 hgzZ9_45_2), (zx_X16_roots_192 hgzZ9_45_2 hgzZ9_45_3)⟩))))).trans hu178
            refine zr_get (idx := 30) (k := 0) (v := .ref (m + 276 + 2 * (Z9_45 + 1 + 1).toNatClampNeg + 1)) (by decide +kernel) (by decide +kernel) hb183 rfl ?_
            refine zp_seg (pc' := 111) (lv' := [(7, .ref (m + 276 + 2 * (Z9_45 + 1 + 1 + 1 + 1).toNatClampNeg)), (6, .ref (m + 276 + 2 * (Z9_45 + 1 + 1 + 1).toNatClampNeg)), (5, .ref (m + 276 + 2 * (Z9_45 + 1 + 1).toNatClampNeg)), (4, .ref (m + 276 + 2 * (Z9_45 + 1).toNatClampNeg)), (3, .ref (m + 276 + 2 * Z9_45.toNatClampNeg)), (2, .ref (m + 7486 + 9 * s9.toNatClampNeg)), (0, .ref m), (1, .int s9)]) (st' := [.int 0, .int 0, .ref (m + 276 + 2 * (Z9_45 + 1 + 1).toNatClampNeg + 1)]) [(109, .iconst 0), (110, .iconst 0)] (by decide +kernel) rfl ?_
            have hb184 : w93 (m + 276 + 2 * (Z9_45 + 1 + 1).toNatClampNeg + 1) = some (.inr (0, 1000, .inl f177)) := ((heq93 (m + 276 + 2 * (Z9_45 + 1 + 1).toNatClampNeg + 1) (zx_X16_roots_200 hgzZ9_45_2)).trans ((heq88 (m + 276 + 2 * (Z9_45 + 1 + 1).toNatClampNeg + 1) (zx_X16_roots_200 hgzZ9_45_2)).trans ((heq83 (m + 276 + 2 * (Z9_45 + 1 + 1).toNatClampNeg + 1) (zx_X16_roots_199 hgzZ9_45_0 hgzZ9_45_2)).trans ((heq72 (m + 276 + 2 * (Z9_45 + 1 + 1).toNatClampNeg + 1) ⟨(zx_X16_roots_196 hgzZ9_45_2), (zx_X16_roots_198 hgzZ9_45_2 hgzZ9_45_4)⟩).trans (heq66 (m + 276 + 2 * (Z9_45 + 1 + 1).toNatClampNeg + 1) ⟨(zx_X16_roots_196 hgzZ9_45_2), (zx_X16_roots_197 hgzZ9_45_2 hgzZ9_45_3)⟩))))).trans hu179
            have hl185 : (0 : Int32).toInt = 0 := by decide
            have hz186 : ((0 : Int32).toNatClampNeg : Int) = 0 := by decide
            refine zr_iast (by decide +kernel) hb184 (zin (by decide) (by decide)) ?_
            show zP (d + 1) zq_X16_roots 112 [(7, .ref (m + 276 + 2 * (Z9_45 + 1 + 1 + 1 + 1).toNatClampNeg)), (6, .ref (m + 276 + 2 * (Z9_45 + 1 + 1 + 1).toNatClampNeg)), (5, .ref (m + 276 + 2 * (Z9_45 + 1 + 1).toNatClampNeg)), (4, .ref (m + 276 + 2 * (Z9_45 + 1).toNatClampNeg)), (3, .ref (m + 276 + 2 * Z9_45.toNatClampNeg)), (2, .ref (m + 7486 + 9 * s9.toNatClampNeg)), (0, .ref m), (1, .int s9)] [] (zup w93 (m + 276 + 2 * (Z9_45 + 1 + 1).toNatClampNeg + 1) (.inr (0, 1000, .inl (upd f177 ((0 : Int32).toNatClampNeg) 0)))) sz 0 0 Post
            obtain ⟨w111, ew111⟩ : ∃ wz9, wz9 = zup w93 (m + 276 + 2 * (Z9_45 + 1 + 1).toNatClampNeg + 1) (.inr (0, 1000, .inl (upd f177 ((0 : Int32).toNatClampNeg) 0))) := ⟨_, rfl⟩
            have hsi111 : zSI w93 w111 := by rw [ew111]; exact zSI.arr _ hb184
            have heq111 : ∀ x, x ≠ m + 276 + 2 * (Z9_45 + 1 + 1).toNatClampNeg + 1 → w111 x = w93 x := fun x hx => by rw [ew111]; exact zup_n hx
            have hc111 : w111 (m + 276 + 2 * (Z9_45 + 1 + 1).toNatClampNeg + 1) = some (.inr (0, 1000, .inl (upd f177 ((0 : Int32).toNatClampNeg) 0))) := by rw [ew111]; exact zup_s
            rw [← ew111]
            clear ew111
            refine zp_seg (pc' := 114) (lv' := [(7, .ref (m + 276 + 2 * (Z9_45 + 1 + 1 + 1 + 1).toNatClampNeg)), (6, .ref (m + 276 + 2 * (Z9_45 + 1 + 1 + 1).toNatClampNeg)), (5, .ref (m + 276 + 2 * (Z9_45 + 1 + 1).toNatClampNeg)), (4, .ref (m + 276 + 2 * (Z9_45 + 1).toNatClampNeg)), (3, .ref (m + 276 + 2 * Z9_45.toNatClampNeg)), (2, .ref (m + 7486 + 9 * s9.toNatClampNeg)), (0, .ref m), (1, .int s9)]) (st' := [.ref (m + 276 + 2 * (Z9_45 + 1 + 1).toNatClampNeg)]) [(112, .aload 5)] (by decide +kernel) rfl ?_
            have hb187 : w111 (m + 276 + 2 * (Z9_45 + 1 + 1).toNatClampNeg) = some (.inl (14, [.ref (m + 276 + 2 * (Z9_45 + 1 + 1).toNatClampNeg + 1), .int n176])) := (heq111 (m + 276 + 2 * (Z9_45 + 1 + 1).toNatClampNeg) (zx_X16_roots_131 hgzZ9_45_2)).trans hb183
            refine zr_get (idx := 30) (k := 0) (v := .ref (m + 276 + 2 * (Z9_45 + 1 + 1).toNatClampNeg + 1)) (by decide +kernel) (by decide +kernel) hb187 rfl ?_
            refine zp_seg (pc' := 119) (lv' := [(7, .ref (m + 276 + 2 * (Z9_45 + 1 + 1 + 1 + 1).toNatClampNeg)), (6, .ref (m + 276 + 2 * (Z9_45 + 1 + 1 + 1).toNatClampNeg)), (5, .ref (m + 276 + 2 * (Z9_45 + 1 + 1).toNatClampNeg)), (4, .ref (m + 276 + 2 * (Z9_45 + 1).toNatClampNeg)), (3, .ref (m + 276 + 2 * Z9_45.toNatClampNeg)), (2, .ref (m + 7486 + 9 * s9.toNatClampNeg)), (0, .ref m), (1, .int s9)]) (st' := [.int 1, .int 1, .ref (m + 276 + 2 * (Z9_45 + 1 + 1).toNatClampNeg + 1)]) [(117, .iconst 1), (118, .iconst 1)] (by decide +kernel) rfl ?_
            have hl188 : (1 : Int32).toInt = 1 := by decide
            have hz189 : ((1 : Int32).toNatClampNeg : Int) = 1 := by decide
            refine zr_iast (by decide +kernel) hc111 (zin (by decide) (by decide)) ?_
            show zP (d + 1) zq_X16_roots 120 [(7, .ref (m + 276 + 2 * (Z9_45 + 1 + 1 + 1 + 1).toNatClampNeg)), (6, .ref (m + 276 + 2 * (Z9_45 + 1 + 1 + 1).toNatClampNeg)), (5, .ref (m + 276 + 2 * (Z9_45 + 1 + 1).toNatClampNeg)), (4, .ref (m + 276 + 2 * (Z9_45 + 1).toNatClampNeg)), (3, .ref (m + 276 + 2 * Z9_45.toNatClampNeg)), (2, .ref (m + 7486 + 9 * s9.toNatClampNeg)), (0, .ref m), (1, .int s9)] [] (zup w111 (m + 276 + 2 * (Z9_45 + 1 + 1).toNatClampNeg + 1) (.inr (0, 1000, .inl (upd (upd f177 ((0 : Int32).toNatClampNeg) 0) ((1 : Int32).toNatClampNeg) 1)))) sz 0 0 Post
            obtain ⟨w119, ew119⟩ : ∃ wz9, wz9 = zup w111 (m + 276 + 2 * (Z9_45 + 1 + 1).toNatClampNeg + 1) (.inr (0, 1000, .inl (upd (upd f177 ((0 : Int32).toNatClampNeg) 0) ((1 : Int32).toNatClampNeg) 1))) := ⟨_, rfl⟩
            have hsi119 : zSI w111 w119 := by rw [ew119]; exact zSI.arr _ hc111
            have heq119 : ∀ x, x ≠ m + 276 + 2 * (Z9_45 + 1 + 1).toNatClampNeg + 1 → w119 x = w111 x := fun x hx => by rw [ew119]; exact zup_n hx
            have hc119 : w119 (m + 276 + 2 * (Z9_45 + 1 + 1).toNatClampNeg + 1) = some (.inr (0, 1000, .inl (upd (upd f177 ((0 : Int32).toNatClampNeg) 0) ((1 : Int32).toNatClampNeg) 1))) := by rw [ew119]; exact zup_s
            rw [← ew119]
            clear ew119
            refine zp_seg (pc' := 123) (lv' := [(7, .ref (m + 276 + 2 * (Z9_45 + 1 + 1 + 1 + 1).toNatClampNeg)), (6, .ref (m + 276 + 2 * (Z9_45 + 1 + 1 + 1).toNatClampNeg)), (5, .ref (m + 276 + 2 * (Z9_45 + 1 + 1).toNatClampNeg)), (4, .ref (m + 276 + 2 * (Z9_45 + 1).toNatClampNeg)), (3, .ref (m + 276 + 2 * Z9_45.toNatClampNeg)), (2, .ref (m + 7486 + 9 * s9.toNatClampNeg)), (0, .ref m), (1, .int s9)]) (st' := [.int 2, .ref (m + 276 + 2 * (Z9_45 + 1 + 1).toNatClampNeg)]) [(120, .aload 5), (122, .iconst 2)] (by decide +kernel) rfl ?_
            have hb190 : w119 (m + 276 + 2 * (Z9_45 + 1 + 1).toNatClampNeg) = some (.inl (14, [.ref (m + 276 + 2 * (Z9_45 + 1 + 1).toNatClampNeg + 1), .int n176])) := (heq119 (m + 276 + 2 * (Z9_45 + 1 + 1).toNatClampNeg) (zx_X16_roots_131 hgzZ9_45_2)).trans hb187
            refine zr_put2 (idx := 25) (k := 1) (fs2 := [.ref (m + 276 + 2 * (Z9_45 + 1 + 1).toNatClampNeg + 1), .int 2]) (by decide +kernel) (by decide +kernel) hb190 (Nat.le_of_ble_eq_true rfl) rfl rfl rfl ?_
            show zP (d + 1) zq_X16_roots 126 [(7, .ref (m + 276 + 2 * (Z9_45 + 1 + 1 + 1 + 1).toNatClampNeg)), (6, .ref (m + 276 + 2 * (Z9_45 + 1 + 1 + 1).toNatClampNeg)), (5, .ref (m + 276 + 2 * (Z9_45 + 1 + 1).toNatClampNeg)), (4, .ref (m + 276 + 2 * (Z9_45 + 1).toNatClampNeg)), (3, .ref (m + 276 + 2 * Z9_45.toNatClampNeg)), (2, .ref (m + 7486 + 9 * s9.toNatClampNeg)), (0, .ref m), (1, .int s9)] [] (zup w119 (m + 276 + 2 * (Z9_45 + 1 + 1).toNatClampNeg) (.inl (14, [.ref (m + 276 + 2 * (Z9_45 + 1 + 1).toNatClampNeg + 1), .int 2]))) sz 0 0 Post
            obtain ⟨w123, ew123⟩ : ∃ wz9, wz9 = zup w119 (m + 276 + 2 * (Z9_45 + 1 + 1).toNatClampNeg) (.inl (14, [.ref (m + 276 + 2 * (Z9_45 + 1 + 1).toNatClampNeg + 1), .int 2])) := ⟨_, rfl⟩
            have hsi123 : zSI w119 w123 := by rw [ew123]; exact zSI.setU hb190
            have heq123 : ∀ x, x ≠ m + 276 + 2 * (Z9_45 + 1 + 1).toNatClampNeg → w123 x = w119 x := fun x hx => by rw [ew123]; exact zup_n hx
            have hc123 : w123 (m + 276 + 2 * (Z9_45 + 1 + 1).toNatClampNeg) = some (.inl (14, [.ref (m + 276 + 2 * (Z9_45 + 1 + 1).toNatClampNeg + 1), .int 2])) := by rw [ew123]; exact zup_s
            rw [← ew123]
            clear ew123
            have hb191 : w123 (m + 276 + 2 * (Z9_45 + 1 + 1).toNatClampNeg + 1) = some (.inr (0, 1000, .inl (upd (upd f177 ((0 : Int32).toNatClampNeg) 0) ((1 : Int32).toNatClampNeg) 1))) := (heq123 (m + 276 + 2 * (Z9_45 + 1 + 1).toNatClampNeg + 1) (zx_X16_roots_132 hgzZ9_45_2)).trans hc119
            have hXU9 := zlineX hc123 hb191 (by decide) zr1_0
            have hXl9 := zlin_ln (- zf 0)
            refine zp_seg (pc' := 131) (lv' := [(7, .ref (m + 276 + 2 * (Z9_45 + 1 + 1 + 1 + 1).toNatClampNeg)), (6, .ref (m + 276 + 2 * (Z9_45 + 1 + 1 + 1).toNatClampNeg)), (5, .ref (m + 276 + 2 * (Z9_45 + 1 + 1).toNatClampNeg)), (4, .ref (m + 276 + 2 * (Z9_45 + 1).toNatClampNeg)), (3, .ref (m + 276 + 2 * Z9_45.toNatClampNeg)), (2, .ref (m + 7486 + 9 * s9.toNatClampNeg)), (0, .ref m), (1, .int s9)]) (st' := [.ref (m + 276 + 2 * (Z9_45 + 1 + 1).toNatClampNeg), .ref (m + 276 + 2 * (Z9_45 + 1).toNatClampNeg), .ref m]) [(126, .aload_n 0), (127, .aload 4), (129, .aload 5)] (by decide +kernel) rfl ?_
            refine zr_ldc2 (idx := 3) (v := 2147483647) (by decide +kernel) (by decide +kernel) ?_
            refine zp_seg (pc' := 135) (lv' := [(7, .ref (m + 276 + 2 * (Z9_45 + 1 + 1 + 1 + 1).toNatClampNeg)), (6, .ref (m + 276 + 2 * (Z9_45 + 1 + 1 + 1).toNatClampNeg)), (5, .ref (m + 276 + 2 * (Z9_45 + 1 + 1).toNatClampNeg)), (4, .ref (m + 276 + 2 * (Z9_45 + 1).toNatClampNeg)), (3, .ref (m + 276 + 2 * Z9_45.toNatClampNeg)), (2, .ref (m + 7486 + 9 * s9.toNatClampNeg)), (0, .ref m), (1, .int s9)]) (st' := [.ref (m + 276 + 2 * Z9_45.toNatClampNeg), .long 2147483647, .ref (m + 276 + 2 * (Z9_45 + 1 + 1).toNatClampNeg), .ref (m + 276 + 2 * (Z9_45 + 1).toNatClampNeg), .ref m]) [(134, .aload_n 3)] (by decide +kernel) rfl ?_
            have hb192 : w123 m = some (.inl (15, zMo m (zs (zs (zs (zs (zs g 1 (Z9_45 + 1 + 1 + 1 + 1 + 1)) 3 Z9_45) 16 Z9_45) 31 rc0) 63 fc0) r)) := ((heq123 m (zx_X16_roots_136 hgzZ9_45_2)).trans ((heq119 m (zx_X16_roots_135 hgzZ9_45_2)).trans (heq111 m (zx_X16_roots_135 hgzZ9_45_2)))).trans hc93
            have hb193 := hb39.si ((((((hsi72.tr hsi83).tr hsi88).tr hsi93).tr hsi111).tr hsi119).tr hsi123)
            have hb194 : zU w123 (m + 276 + 2 * (Z9_45 + 1).toNatClampNeg) 1000 zaZ := hp54_1.ag (fun x hx1 hx2 => ((heq123 x (zx_X16_roots_202 hx1 hx2 hgzZ9_45_1 hgzZ9_45_2)).trans ((heq119 x (zx_X16_roots_201 hx1 hx2 hgzZ9_45_1 hgzZ9_45_2)).trans ((heq111 x (zx_X16_roots_201 hx1 hx2 hgzZ9_45_1 hgzZ9_45_2)).trans ((heq93 x (zx_X16_roots_188 hx1 hx2 hgzZ9_45_1)).trans ((heq88 x (zx_X16_roots_188 hx1 hx2 hgzZ9_45_1)).trans ((heq83 x (zx_X16_roots_187 hx1 hx2 hgzZ9_45_0 hgzZ9_45_1)).trans ((heq72 x ⟨(zx_X16_roots_183 hx1 hx2 hgzZ9_45_1), (zx_X16_roots_186 hx1 hx2 hgzZ9_45_1 hgzZ9_45_4)⟩).trans ((heq66 x ⟨(zx_X16_roots_183 hx1 hx2 hgzZ9_45_1), (zx_X16_roots_185 hx1 hx2 hgzZ9_45_1 hgzZ9_45_3)⟩).trans (heq60 x ⟨(zx_X16_roots_183 hx1 hx2 hgzZ9_45_1), (zx_X16_roots_184 hx1 hx2 hgzZ9_45_1 hgzZ9_45_2)⟩))))))))))
            have ho135_to := zU.o hb194
            have hb195 : zU w123 (m + 276 + 2 * Z9_45.toNatClampNeg) 1000 (zaOf (fun i => zf (fn1 ((0 : Int32).toNatClampNeg + i))) 25) := hb48.ag (fun x hx1 hx2 => ((heq123 x (zx_X16_roots_134 hx1 hx2 hgzZ9_45_0 hgzZ9_45_2)).trans ((heq119 x (zx_X16_roots_133 hx1 hx2 hgzZ9_45_0 hgzZ9_45_2)).trans (heq111 x (zx_X16_roots_133 hx1 hx2 hgzZ9_45_0 hgzZ9_45_2)))))
            refine zr_callV (idx := 819) (j := 419) (by decide +kernel) (by decide +kernel) (show zMe 419 = some zq_X16_powerOf from rfl) rfl rfl (Nat.le_of_ble_eq_true rfl) rfl rfl hb192 (Nat.le_of_ble_eq_true rfl) (Nat.le_of_ble_eq_true rfl) (c_X16_powerOf (w := w123) (g1 := (Z9_45 + 1 + 1 + 1 + 1 + 1)) m (m + 276 + 2 * (Z9_45 + 1).toNatClampNeg) (m + 276 + 2 * (Z9_45 + 1 + 1).toNatClampNeg) 2147483647 (m + 276 + 2 * Z9_45.toNatClampNeg) hb192 hb193 ho135_to hXU9 hb195 (by first | omega | decide | assumption | exact zr1_1 | exact zr1_0 | fail "num") (by first | omega | decide | assumption | exact zr1_1 | exact zr1_0 | fail "num") (by first | omega | decide | assumption | exact zr1_1 | exact zr1_0 | fail "num") (by first | omega | decide | assumption | exact zr1_1 | exact zr1_0 | fail "num") (by decide) (by first | omega | decide | assumption | exact zr1_1 | exact zr1_0 | fail "num") (by first | omega | decide | assumption | exact zr1_1 | exact zr1_0 | fail "num") rfl) (by omega) (fun v135 w135 hp135 => ?_)
            obtain ⟨R9_135, hsi135, heq135, hp135_0, hp135_1, rfl⟩ := hp135
            show zP _ _ _ _ [] _ _ _ _ _
            have hpw9 := hp135_1.1
            rw [zPf_e] at hpw9
            have hsl9 := zln_S R9_135 (zlin (- zf 0))
            have hgl9 := zgcd_le2 (p := zaS R9_135 (zlin (- zf 0))) (q := zaOf (fun i => zf (fn1 ((0 : Int32).toNatClampNeg + i))) 25) (by omega)
            have hsp9 := zSp_gcd (f := zaOf (fun i => zf (fn1 ((0 : Int32).toNatClampNeg + i))) 25) (by omega) hpw9
            refine zp_seg (pc' := 145) (lv' := [(7, .ref (m + 276 + 2 * (Z9_45 + 1 + 1 + 1 + 1).toNatClampNeg)), (6, .ref (m + 276 + 2 * (Z9_45 + 1 + 1 + 1).toNatClampNeg)), (5, .ref (m + 276 + 2 * (Z9_45 + 1 + 1).toNatClampNeg)), (4, .ref (m + 276 + 2 * (Z9_45 + 1).toNatClampNeg)), (3, .ref (m + 276 + 2 * Z9_45.toNatClampNeg)), (2, .ref (m + 7486 + 9 * s9.toNatClampNeg)), (0, .ref m), (1, .int s9)]) (st' := [.int 1, .ref (m + 276 + 2 * (Z9_45 + 1 + 1).toNatClampNeg), .ref (m + 276 + 2 * (Z9_45 + 1).toNatClampNeg), .ref (m + 276 + 2 * (Z9_45 + 1).toNatClampNeg)]) [(138, .aload 4), (140, .aload 4), (142, .aload 5), (144, .iconst 1)] (by decide +kernel) rfl ?_
            have ho145_to := zU.o hp135_0
            have hb196 : zU w135 (m + 276 + 2 * (Z9_45 + 1 + 1).toNatClampNeg) 1000 (zlin (- zf 0)) := hXU9.ag (fun x hx1 hx2 => (heq135 x ⟨(zx_X16_roots_203 hx1 hx2 hgzZ9_45_1 hgzZ9_45_2), (zx_X16_roots_204 hx1 hx2 hgzZ9_45_2 hgzZ9_45_5)⟩))
            refine zr_callS (idx := 101) (j := 265) (by decide +kernel) (by decide +kernel) (by decide) (show zMe 265 = some zq_X16_plus from rfl) rfl rfl (Nat.le_of_ble_eq_true rfl) rfl rfl (Nat.le_of_ble_eq_true rfl) (Nat.le_of_ble_eq_true rfl) (c_X16_plusS (w := w135) (m + 276 + 2 * (Z9_45 + 1).toNatClampNeg) (m + 276 + 2 * (Z9_45 + 1).toNatClampNeg) (m + 276 + 2 * (Z9_45 + 1 + 1).toNatClampNeg)  ho145_to hp135_0 hb196 (by first | omega | decide | assumption | exact zr1_1 | exact zr1_0 | fail "num") (by first | omega | decide | assumption | exact zr1_1 | exact zr1_0 | fail "num")) (by omega) (fun v145 w145 hp145 => ?_)
            obtain ⟨hsi145, heq145, hp145_0, rfl⟩ := hp145
            show zP _ _ _ _ [] _ _ _ _ _
            refine zp_seg (pc' := 154) (lv' := [(7, .ref (m + 276 + 2 * (Z9_45 + 1 + 1 + 1 + 1).toNatClampNeg)), (6, .ref (m + 276 + 2 * (Z9_45 + 1 + 1 + 1).toNatClampNeg)), (5, .ref (m + 276 + 2 * (Z9_45 + 1 + 1).toNatClampNeg)), (4, .ref (m + 276 + 2 * (Z9_45 + 1).toNatClampNeg)), (3, .ref (m + 276 + 2 * Z9_45.toNatClampNeg)), (2, .ref (m + 7486 + 9 * s9.toNatClampNeg)), (0, .ref m), (1, .int s9)]) (st' := [.ref (m + 276 + 2 * Z9_45.toNatClampNeg), .ref (m + 276 + 2 * (Z9_45 + 1).toNatClampNeg), .ref (m + 276 + 2 * (Z9_45 + 1).toNatClampNeg), .ref m]) [(148, .aload_n 0), (149, .aload 4), (151, .aload 4), (153, .aload_n 3)] (by decide +kernel) rfl ?_
            have hb197 : w145 m = some (.inl (15, zMo m (zs (zs (zs (zs (zs g 1 (Z9_45 + 1 + 1 + 1 + 1 + 1)) 3 Z9_45) 16 Z9_45) 31 rc0) 63 fc0) r)) := ((heq145 m (zx_X16_roots_205 hgzZ9_45_1)).trans (heq135 m ⟨(zx_X16_roots_205 hgzZ9_45_1), (zx_X16_roots_206 hgzZ9_45_5)⟩)).trans hb192
            have hb198 := hb193.si (hsi135.tr hsi145)
            have ho154_to := zU.o hp145_0
            have hb199 : zU w145 (m + 276 + 2 * Z9_45.toNatClampNeg) 1000 (zaOf (fun i => zf (fn1 ((0 : Int32).toNatClampNeg + i))) 25) := hb195.ag (fun x hx1 hx2 => ((heq145 x (zx_X16_roots_1 hx1 hx2 hgzZ9_45_0 hgzZ9_45_1)).trans (heq135 x ⟨(zx_X16_roots_1 hx1 hx2 hgzZ9_45_0 hgzZ9_45_1), (zx_X16_roots_207 hx1 hx2 hgzZ9_45_0 hgzZ9_45_5)⟩)))
            refine zr_callV (idx := 125) (j := 270) (by decide +kernel) (by decide +kernel) (show zMe 270 = some zq_X16_gcd from rfl) rfl rfl (Nat.le_of_ble_eq_true rfl) rfl rfl hb197 (Nat.le_of_ble_eq_true rfl) (Nat.le_of_ble_eq_true rfl) (c_X16_gcd (w := w145) (g1 := (Z9_45 + 1 + 1 + 1 + 1 + 1)) m (m + 276 + 2 * (Z9_45 + 1).toNatClampNeg) (m + 276 + 2 * (Z9_45 + 1).toNatClampNeg) (m + 276 + 2 * Z9_45.toNatClampNeg) hb197 hb198 ho154_to hp145_0 hb199 (by first | omega | decide | assumption | exact zr1_1 | exact zr1_0 | fail "num") (by first | omega | decide | assumption | exact zr1_1 | exact zr1_0 | fail "num") (by first | omega | decide | assumption | exact zr1_1 | exact zr1_0 | fail "num") (by first | omega | decide | assumption | exact zr1_1 | exact zr1_0 | fail "num") (by first | omega | decide | assumption | exact zr1_1 | exact zr1_0 | fail "num") (by first | omega | decide | assumption | exact zr1_1 | exact zr1_0 | fail "num") (by first | omega | decide | assumption | exact zr1_1 | exact zr1_0 | fail "num") rfl) (by omega) (fun v154 w154 hp154 => ?_)
            obtain ⟨hsi154, heq154, hp154_0, rfl⟩ := hp154
            show zP _ _ _ _ [] _ _ _ _ _
            refine zp_seg (pc' := 161) (lv' := [(7, .ref (m + 276 + 2 * (Z9_45 + 1 + 1 + 1 + 1).toNatClampNeg)), (6, .ref (m + 276 + 2 * (Z9_45 + 1 + 1 + 1).toNatClampNeg)), (5, .ref (m + 276 + 2 * (Z9_45 + 1 + 1).toNatClampNeg)), (4, .ref (m + 276 + 2 * (Z9_45 + 1).toNatClampNeg)), (3, .ref (m + 276 + 2 * Z9_45.toNatClampNeg)), (2, .ref (m + 7486 + 9 * s9.toNatClampNeg)), (0, .ref m), (1, .int s9)]) (st' := [.int 0, .ref (m + 276 + 2 * (Z9_45 + 1).toNatClampNeg), .ref m]) [(157, .aload_n 0), (158, .aload 4), (160, .iconst 0)] (by decide +kernel) rfl ?_
            have hb200 : w154 m = some (.inl (15, zMo m (zs (zs (zs (zs (zs g 1 (Z9_45 + 1 + 1 + 1 + 1 + 1)) 3 Z9_45) 16 Z9_45) 31 rc0) 63 fc0) r)) := (heq154 m ⟨(zx_X16_roots_205 hgzZ9_45_1), (zx_X16_roots_206 hgzZ9_45_5)⟩).trans hb197
            have hb201 := hb198.si hsi154
            obtain ⟨f202, hb203⟩ := hb201.ia_274
            refine zr_callV (idx := 823) (j := 420) (by decide +kernel) (by decide +kernel) (show zMe 420 = some zq_X16_split from rfl) rfl rfl (Nat.le_of_ble_eq_true rfl) rfl rfl hb200 (Nat.le_of_ble_eq_true rfl) (Nat.le_of_ble_eq_true rfl) (c_X16_splitT (w := w154) (g1 := (Z9_45 + 1 + 1 + 1 + 1 + 1)) (g63 := fc0) m (m + 276 + 2 * (Z9_45 + 1).toNatClampNeg) 0 hb200 hb201 hp154_0 hb203 (by first | omega | decide | assumption | exact zr1_1 | exact zr1_0 | fail "num") (by first | omega | decide | assumption | exact zr1_1 | exact zr1_0 | fail "num") (by exact ⟨hsp9, by omega⟩) (by first | omega | decide | assumption | exact zr1_1 | exact zr1_0 | fail "num") (by decide) (by rw [show (0 : Int32).toNatClampNeg = 0 by decide]; exact zAg_0 _ _) (by first | omega | decide | assumption | exact zr1_1 | exact zr1_0 | fail "num") (by exact fun i hi => absurd hi (by omega)) (by first | omega | decide | assumption | exact zr1_1 | exact zr1_0 | fail "num") rfl rfl) (by omega) (fun v161 w161 hp161 => ?_)
            obtain ⟨X9_161, F9_161, hsi161, heq161, hp161_0, hp161_1, hp161_2, rfl⟩ := hp161
            have hM161 : w161 m = some (.inl (15, zMo m (zs (zs (zs (zs (zs g 1 (Z9_45 + 1 + 1 + 1 + 1 + 1)) 3 Z9_45) 16 Z9_45) 31 rc0) 63 X9_161) r)) := hp161_0
            show zP _ _ _ _ [] _ _ _ _ _
            have hb204 : zU w161 (m + 276 + 2 * (Z9_45 + 1).toNatClampNeg) 1000 (zgcd (zaS R9_135 (zlin (- zf 0))) (zaOf (fun i => zf (fn1 ((0 : Int32).toNatClampNeg + i))) 25)) := hp154_0.ag (fun x hx1 hx2 => (heq161 x ⟨(zx_X16_roots_183 hx1 hx2 hgzZ9_45_1), (zx_X16_roots_212 hx1 hx2 hgzZ9_45_1), (zx_X16_roots_213 hx1 hx2 hgzZ9_45_1 hgzZ9_45_5)⟩))
            have hb205 : zU w161 (m + 276 + 2 * (Z9_45 + 1 + 1).toNatClampNeg) 1000 (zlin (- zf 0)) := hb196.ag (fun x hx1 hx2 => ((heq161 x ⟨(zx_X16_roots_161 hx1 hx2 hgzZ9_45_2), (zx_X16_roots_214 hx1 hx2 hgzZ9_45_2), (zx_X16_roots_204 hx1 hx2 hgzZ9_45_2 hgzZ9_45_5)⟩).trans ((heq154 x ⟨(zx_X16_roots_203 hx1 hx2 hgzZ9_45_1 hgzZ9_45_2), (zx_X16_roots_204 hx1 hx2 hgzZ9_45_2 hgzZ9_45_5)⟩).trans (heq145 x (zx_X16_roots_203 hx1 hx2 hgzZ9_45_1 hgzZ9_45_2)))))
            have hb206 : zU w161 (m + 276 + 2 * (Z9_45 + 1 + 1 + 1).toNatClampNeg) 1000 zaZ := hp66_1.ag (fun x hx1 hx2 => ((heq161 x ⟨(zx_X16_roots_189 hx1 hx2 hgzZ9_45_3), (zx_X16_roots_219 hx1 hx2 hgzZ9_45_3), (zx_X16_roots_218 hx1 hx2 hgzZ9_45_3 hgzZ9_45_5)⟩).trans ((heq154 x ⟨(zx_X16_roots_217 hx1 hx2 hgzZ9_45_1 hgzZ9_45_3), (zx_X16_roots_218 hx1 hx2 hgzZ9_45_3 hgzZ9_45_5)⟩).trans ((heq145 x (zx_X16_roots_217 hx1 hx2 hgzZ9_45_1 hgzZ9_45_3)).trans ((heq135 x ⟨(zx_X16_roots_217 hx1 hx2 hgzZ9_45_1 hgzZ9_45_3), (zx_X16_roots_218 hx1 hx2 hgzZ9_45_3 hgzZ9_45_5)⟩).trans ((heq123 x (zx_X16_roots_216 hx1 hx2 hgzZ9_45_2 hgzZ9_45_3)).trans ((heq119 x (zx_X16_roots_215 hx1 hx2 hgzZ9_45_2 hgzZ9_45_3)).trans ((heq111 x (zx_X16_roots_215 hx1 hx2 hgzZ9_45_2 hgzZ9_45_3)).trans ((heq93 x (zx_X16_roots_153 hx1 hx2 hgzZ9_45_3)).trans ((heq88 x (zx_X16_roots_153 hx1 hx2 hgzZ9_45_3)).trans ((heq83 x (zx_X16_roots_155 hx1 hx2 hgzZ9_45_0 hgzZ9_45_3)).trans (heq72 x ⟨(zx_X16_roots_189 hx1 hx2 hgzZ9_45_3), (zx_X16_roots_190 hx1 hx2 hgzZ9_45_3 hgzZ9_45_4)⟩))))))))))))
            have hb207 : zU w161 (m + 276 + 2 * (Z9_45 + 1 + 1 + 1 + 1).toNatClampNeg) 1000 zaZ := hp72_1.ag (fun x hx1 hx2 => ((heq161 x ⟨(zx_X16_roots_224 hx1 hx2 hgzZ9_45_4), (zx_X16_roots_225 hx1 hx2 hgzZ9_45_4), (zx_X16_roots_223 hx1 hx2 hgzZ9_45_4 hgzZ9_45_5)⟩).trans ((heq154 x ⟨(zx_X16_roots_222 hx1 hx2 hgzZ9_45_1 hgzZ9_45_4), (zx_X16_roots_223 hx1 hx2 hgzZ9_45_4 hgzZ9_45_5)⟩).trans ((heq145 x (zx_X16_roots_222 hx1 hx2 hgzZ9_45_1 hgzZ9_45_4)).trans ((heq135 x ⟨(zx_X16_roots_222 hx1 hx2 hgzZ9_45_1 hgzZ9_45_4), (zx_X16_roots_223 hx1 hx2 hgzZ9_45_4 hgzZ9_45_5)⟩).trans ((heq123 x (zx_X16_roots_221 hx1 hx2 hgzZ9_45_2 hgzZ9_45_4)).trans ((heq119 x (zx_X16_roots_220 hx1 hx2 hgzZ9_45_2 hgzZ9_45_4)).trans ((heq111 x (zx_X16_roots_220 hx1 hx2 hgzZ9_45_2 hgzZ9_45_4)).trans ((heq93 x (zx_X16_roots_156 hx1 hx2 hgzZ9_45_4)).trans ((heq88 x (zx_X16_roots_156 hx1 hx2 hgzZ9_45_4)).trans (heq83 x (zx_X16_roots_158 hx1 hx2 hgzZ9_45_0 hgzZ9_45_4))))))))))))
            exact (hJ164 w161 (X9_161) (F9_161) ((((((hsi111.tr hsi119).tr hsi123).tr hsi135).tr hsi145).tr hsi154).tr hsi161) (fun x hx => ((heq161 x ⟨hx.1.1, hx.1.2.1, (zx_X16_roots_211 hx.1.2.2.2 hgzZ9_45_1 hgzZ9_45_5)⟩).trans ((heq154 x ⟨(zx_X16_roots_210 hx.1.2.2.2 hgzZ9_45_1), (zx_X16_roots_211 hx.1.2.2.2 hgzZ9_45_1 hgzZ9_45_5)⟩).trans ((heq145 x (zx_X16_roots_210 hx.1.2.2.2 hgzZ9_45_1)).trans ((heq135 x ⟨(zx_X16_roots_210 hx.1.2.2.2 hgzZ9_45_1), (zx_X16_roots_211 hx.1.2.2.2 hgzZ9_45_1 hgzZ9_45_5)⟩).trans ((heq123 x (zx_X16_roots_209 hx.1.2.2.2 hgzZ9_45_1 hgzZ9_45_2)).trans ((heq119 x (zx_X16_roots_208 hx.1.2.2.2 hgzZ9_45_1 hgzZ9_45_2)).trans (heq111 x (zx_X16_roots_208 hx.1.2.2.2 hgzZ9_45_1 hgzZ9_45_2))))))))) (by
                  exact hM161) hp161_1 (zU.o hb204) (zU.o hb205) (zU.o hb206) (zU.o hb207) (by
                  exact ⟨by omega, by omega, fun _ => by omega⟩) (by
                  first | exact hp161_2.2 | exact fun i hi => absurd hi (by omega))).more (zfa1 rfl (zfa1 rfl (zfa1 rfl (zfa1 rfl (zfa1 rfl (zfa0))))))
        ·
          have f208 := znleI cc38
          rw [show (0 : Int32).toInt = 0 from by decide] at f208
          refine zp_seg (pc' := 43) (lv' := [(2, .ref (m + 7486 + 9 * s9.toNatClampNeg)), (0, .ref m), (1, .int s9)]) (st' := [.int (Int32.ofInt (-3))]) [(41, .bipush (-3))] (by decide +kernel) rfl ?_
          have hoffend : ∀ x, (x < m + 0 ∨ m + 0 + 8322 ≤ x) → w x = w x := fun x hx => rfl
          refine zr_retI (by decide +kernel) rfl ?_
          rw [← hPost]; exact ⟨rfl, _, rfl, zSI.rf, hoffend, ⟨_, _, hm, hR_m, hSl0, hMd0, hPl0, ⟨_, hAf0, hff⟩, hBo0, hBl0, hGa0, hGb0, hBd0, hI12, hI24, hI29, hI31, hIn⟩, _, rfl, trivial⟩
  ·
    replace cc4 := Classical.not_not.mp cc4
    have f211 := zeqI cc4
    rw [show (0 : Int32).toInt = 0 from by decide] at f211
    refine zp_seg (pc' := 8) (lv' := [(0, .ref m), (1, .int s9)]) (st' := [.int (Int32.ofInt (-1))]) [(7, .iconst (-1))] (by decide +kernel) rfl ?_
    have hoffend : ∀ x, (x < m + 0 ∨ m + 0 + 8322 ≤ x) → w x = w x := fun x hx => rfl
    refine zr_retI (by decide +kernel) rfl ?_
    rw [← hPost]; exact ⟨rfl, _, rfl, zSI.rf, hoffend, ⟨_, _, hm, hR_m, hSl0, hMd0, hPl0, ⟨_, hAf0, hff⟩, hBo0, hBl0, hGa0, hGb0, hBd0, hI12, hI24, hI29, hI31, hIn⟩, _, rfl, trivial⟩
