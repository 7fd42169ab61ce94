theorem zx_X16_clear_0 {G1_0 m x : Nat} (h0 : m + 276 + 2 * G1_0 ≤ x) (h1 : x < m + 276 + 2 * G1_0 + 2) (h2 : G1_0 + 7 ≤ 160) : x < m ∨ m + 1 ≤ x := by omega
theorem zx_X16_clear_1 {G1_0 G1_1 m x : Nat} (h0 : m + 276 + 2 * G1_0 ≤ x) (h1 : x < m + 276 + 2 * G1_0 + 2) (h2 : G1_1 = G1_0 + 1) (h3 : G1_0 + 7 ≤ 160) : x < m + 276 + 2 * G1_1 ∨ m + 276 + 2 * G1_1 + 2 ≤ x := by omega
theorem zx_X16_clear_2 {G1_0 G1_2 m x : Nat} (h0 : m + 276 + 2 * G1_0 ≤ x) (h1 : x < m + 276 + 2 * G1_0 + 2) (h2 : G1_2 = G1_0 + 2) (h3 : G1_0 + 7 ≤ 160) : x < m + 276 + 2 * G1_2 ∨ m + 276 + 2 * G1_2 + 2 ≤ x := by omega
theorem zx_X16_clear_3 {G1_0 G1_3 m x : Nat} (h0 : m + 276 + 2 * G1_0 ≤ x) (h1 : x < m + 276 + 2 * G1_0 + 2) (h2 : G1_3 = G1_0 + 3) (h3 : G1_0 + 7 ≤ 160) : x < m + 276 + 2 * G1_3 ∨ m + 276 + 2 * G1_3 + 2 ≤ x := by omega
theorem zx_X16_clear_4 {G1_0 G1_4 m x : Nat} (h0 : m + 276 + 2 * G1_0 ≤ x) (h1 : x < m + 276 + 2 * G1_0 + 2) (h2 : G1_4 = G1_0 + 4) (h3 : G1_0 + 7 ≤ 160) : x < m + 276 + 2 * G1_4 ∨ m + 276 + 2 * G1_4 + 2 ≤ x := by omega
theorem zx_X16_clear_5 {G1_0 m : Nat} (h0 : G1_0 + 7 ≤ 160) : m < m + 276 + 2 * G1_0 ∨ m + 276 + 2 * G1_0 + 2 ≤ m := by omega
theorem zx_X16_clear_6 {G1_0 m x : Nat} (h0 : x < m + 276 + 2 * G1_0 ∨ m + 276 + 2 * G1_0 + (320 - 2 * G1_0) ≤ x) (h1 : G1_0 + 7 ≤ 160) : x < m + 276 + 2 * G1_0 ∨ m + 276 + 2 * G1_0 + 2 ≤ x := by omega
theorem zx_X16_clear_7 {G1_0 G1_1 m x : Nat} (h0 : x < m + 276 + 2 * G1_0 ∨ m + 276 + 2 * G1_0 + (320 - 2 * G1_0) ≤ x) (h1 : G1_1 = G1_0 + 1) (h2 : G1_0 + 7 ≤ 160) : x < m + 276 + 2 * G1_1 ∨ m + 276 + 2 * G1_1 + 2 ≤ x := by omega
theorem zx_X16_clear_8 {G1_0 G1_2 m x : Nat} (h0 : x < m + 276 + 2 * G1_0 ∨ m + 276 + 2 * G1_0 + (320 - 2 * G1_0) ≤ x) (h1 : G1_2 = G1_0 + 2) (h2 : G1_0 + 7 ≤ 160) : x < m + 276 + 2 * G1_2 ∨ m + 276 + 2 * G1_2 + 2 ≤ x := by omega
theorem zx_X16_clear_9 {G1_0 G1_3 m x : Nat} (h0 : x < m + 276 + 2 * G1_0 ∨ m + 276 + 2 * G1_0 + (320 - 2 * G1_0) ≤ x) (h1 : G1_3 = G1_0 + 3) (h2 : G1_0 + 7 ≤ 160) : x < m + 276 + 2 * G1_3 ∨ m + 276 + 2 * G1_3 + 2 ≤ x := by omega
theorem zx_X16_clear_10 {G1_0 G1_4 m x : Nat} (h0 : x < m + 276 + 2 * G1_0 ∨ m + 276 + 2 * G1_0 + (320 - 2 * G1_0) ≤ x) (h1 : G1_4 = G1_0 + 4) (h2 : G1_0 + 7 ≤ 160) : x < m + 276 + 2 * G1_4 ∨ m + 276 + 2 * G1_4 + 2 ≤ x := by omega
theorem zx_X16_clear_11 {m x : Nat} (h0 : x < m ∨ m + 1 ≤ x) : x ≠ m := by omega
theorem zx_X16_clear_12 {m x : Nat} (h0 : m + 149 ≤ x) (h1 : x < m + 149 + 27) : x ≠ m := by omega
theorem zx_X16_clear_13 {G1_0 m x : Nat} (h0 : m + 276 + 2 * G1_0 ≤ x) (h1 : x < m + 276 + 2 * G1_0 + 2) (h2 : G1_0 + 7 ≤ 160) : x ≠ m := by omega
theorem zx_X16_clear_14 {m : Nat}  : (m + 177) ≠ m := by omega
theorem zx_X16_clear_15 {m : Nat}  : (m + 178) ≠ m := by omega
theorem zx_X16_clear_16 {m x : Nat} (h0 : m + 7594 ≤ x) (h1 : x < m + 7594 + 728) : x ≠ m := by omega
theorem zx_X16_clear_17 {m : Nat}  : m ≠ m + 177 := by omega
theorem zx_X16_clear_18 {m : Nat}  : (m + 178) ≠ m + 177 := by omega
theorem zx_X16_clear_19 {m : Nat}  : m ≠ m + 178 := by omega
theorem zx_X16_clear_20 {m x : Nat} (h0 : m + 149 ≤ x) (h1 : x < m + 149 + 27) : x ≠ m + 177 := by omega
theorem zx_X16_clear_21 {m x : Nat} (h0 : m + 149 ≤ x) (h1 : x < m + 149 + 27) : x ≠ m + 178 := by omega
theorem zx_X16_clear_22 {m : Nat}  : m ≠ m + 149 := by omega
theorem zx_X16_clear_23 {m s135 : Nat} (h0 : s135 < 26) : (m + 150 + s135) ≠ m + 149 := by omega
theorem zx_X16_clear_24 {m x : Nat} (h0 : m + 7594 ≤ x) (h1 : x < m + 7594 + 728) : x ≠ m + 177 := by omega
theorem zx_X16_clear_25 {m x : Nat} (h0 : m + 7594 ≤ x) (h1 : x < m + 7594 + 728) : x ≠ m + 178 := by omega
theorem zx_X16_clear_26 {m x : Nat} (h0 : m + 7594 ≤ x) (h1 : x < m + 7594 + 728) : x ≠ m + 149 := by omega
theorem zx_X16_clear_27 {G1_0 G1_4 m : Nat} (h0 : G1_4 = G1_0 + 4) (h1 : G1_0 + 7 ≤ 160) : m < m + 276 + 2 * G1_4 ∨ m + 276 + 2 * G1_4 + 2 ≤ m := by omega
theorem zx_X16_clear_28 {G1_0 m x : Nat} (h0 : m + 276 + 2 * G1_0 ≤ x) (h1 : x < m + 276 + 2 * G1_0 + 2) (h2 : G1_0 + 7 ≤ 160) : x ≠ m + 177 := by omega
theorem zx_X16_clear_29 {G1_0 m x : Nat} (h0 : m + 276 + 2 * G1_0 ≤ x) (h1 : x < m + 276 + 2 * G1_0 + 2) (h2 : G1_0 + 7 ≤ 160) : x ≠ m + 178 := by omega
theorem zx_X16_clear_30 {G1_0 m x : Nat} (h0 : m + 276 + 2 * G1_0 ≤ x) (h1 : x < m + 276 + 2 * G1_0 + 2) (h2 : G1_0 + 7 ≤ 160) : x ≠ m + 149 := by omega
theorem zx_X16_clear_31 {G1_0 G1_1 m x : Nat} (h0 : m + 276 + 2 * G1_0 ≤ x) (h1 : x < m + 276 + 2 * G1_0 + 2) (h2 : G1_1 = G1_0 + 1) (h3 : G1_0 + 7 ≤ 160) : x < m + 276 + 2 * G1_1 ∨ m + 276 + 2 * G1_1 + 6 ≤ x := by omega
theorem zx_X16_clear_32 {G1_0 G1_5 m x : Nat} (h0 : m + 276 + 2 * G1_0 ≤ x) (h1 : x < m + 276 + 2 * G1_0 + 2) (h2 : G1_5 = G1_0 + 5) (h3 : G1_0 + 7 ≤ 160) : x < m + 276 + 2 * G1_5 ∨ m + 276 + 2 * G1_5 + (320 - 2 * G1_5) ≤ x := by omega
theorem zx_X16_clear_33 {G1_0 m x : Nat} (h0 : m + 276 + 2 * G1_0 ≤ x) (h1 : x < m + 276 + 2 * G1_0 + 2) (h2 : G1_0 + 7 ≤ 160) : x < m + 7594 ∨ m + 7594 + 728 ≤ x := by omega
theorem zx_X16_clear_34 {G1_0 G1_1 G1_4 m x : Nat} (h0 : m + 276 + 2 * G1_4 ≤ x) (h1 : x < m + 276 + 2 * G1_4 + 2) (h2 : G1_1 = G1_0 + 1) (h3 : G1_4 = G1_0 + 4) (h4 : G1_0 + 7 ≤ 160) : x < m + 276 + 2 * G1_1 ∨ m + 276 + 2 * G1_1 + 6 ≤ x := by omega
theorem zx_X16_clear_35 {G1_0 G1_4 G1_5 m x : Nat} (h0 : m + 276 + 2 * G1_4 ≤ x) (h1 : x < m + 276 + 2 * G1_4 + 2) (h2 : G1_4 = G1_0 + 4) (h3 : G1_5 = G1_0 + 5) (h4 : G1_0 + 7 ≤ 160) : x < m + 276 + 2 * G1_5 ∨ m + 276 + 2 * G1_5 + (320 - 2 * G1_5) ≤ x := by omega
theorem zx_X16_clear_36 {G1_0 G1_4 m x : Nat} (h0 : m + 276 + 2 * G1_4 ≤ x) (h1 : x < m + 276 + 2 * G1_4 + 2) (h2 : G1_4 = G1_0 + 4) (h3 : G1_0 + 7 ≤ 160) : x < m + 7594 ∨ m + 7594 + 728 ≤ x := by omega
theorem zx_X16_clear_37 {G1_0 G1_4 m x : Nat} (h0 : m + 276 + 2 * G1_4 ≤ x) (h1 : x < m + 276 + 2 * G1_4 + 2) (h2 : G1_4 = G1_0 + 4) (h3 : G1_0 + 7 ≤ 160) : x ≠ m := by omega
theorem zx_X16_clear_38 {G1_0 G1_4 m x : Nat} (h0 : m + 149 ≤ x) (h1 : x < m + 149 + 27) (h2 : G1_4 = G1_0 + 4) (h3 : G1_0 + 7 ≤ 160) : x < m + 276 + 2 * G1_4 ∨ m + 276 + 2 * G1_4 + 2 ≤ x := by omega
theorem zx_X16_clear_39 {G1_0 G1_1 m x : Nat} (h0 : m + 149 ≤ x) (h1 : x < m + 149 + 27) (h2 : G1_1 = G1_0 + 1) (h3 : G1_0 + 7 ≤ 160) : x < m + 276 + 2 * G1_1 ∨ m + 276 + 2 * G1_1 + 6 ≤ x := by omega
theorem zx_X16_clear_40 {G1_0 G1_5 m x : Nat} (h0 : m + 149 ≤ x) (h1 : x < m + 149 + 27) (h2 : G1_5 = G1_0 + 5) (h3 : G1_0 + 7 ≤ 160) : x < m + 276 + 2 * G1_5 ∨ m + 276 + 2 * G1_5 + (320 - 2 * G1_5) ≤ x := by omega
theorem zx_X16_clear_41 {m x : Nat} (h0 : m + 149 ≤ x) (h1 : x < m + 149 + 27) : x < m + 7594 ∨ m + 7594 + 728 ≤ x := by omega
theorem zx_X16_clear_42 {G1_0 m x : Nat} (h0 : m + 149 ≤ x) (h1 : x < m + 149 + 27) (h2 : G1_0 + 7 ≤ 160) : x < m + 276 + 2 * G1_0 ∨ m + 276 + 2 * G1_0 + 2 ≤ x := by omega
theorem zx_X16_clear_43 {G1_0 m x : Nat} (h0 : m + 7594 ≤ x) (h1 : x < m + 7594 + 728) (h2 : G1_0 + 7 ≤ 160) : x < m + 276 + 2 * G1_0 ∨ m + 276 + 2 * G1_0 + 2 ≤ x := by omega
theorem zx_X16_clear_44 {m : Nat}  : (m + 177) ≠ m + 178 := by omega
theorem zx_X16_clear_45 {m : Nat}  : (m + 177) ≠ m + 149 := by omega
theorem zx_X16_clear_46 {G1_0 G1_4 m : Nat} (h0 : G1_4 = G1_0 + 4) (h1 : G1_0 + 7 ≤ 160) : (m + 177) < m + 276 + 2 * G1_4 ∨ m + 276 + 2 * G1_4 + 2 ≤ (m + 177) := by omega
theorem zx_X16_clear_47 {G1_0 G1_1 m : Nat} (h0 : G1_1 = G1_0 + 1) (h1 : G1_0 + 7 ≤ 160) : (m + 177) < m + 276 + 2 * G1_1 ∨ m + 276 + 2 * G1_1 + 6 ≤ (m + 177) := by omega
theorem zx_X16_clear_48 {G1_0 G1_5 m : Nat} (h0 : G1_5 = G1_0 + 5) (h1 : G1_0 + 7 ≤ 160) : (m + 177) < m + 276 + 2 * G1_5 ∨ m + 276 + 2 * G1_5 + (320 - 2 * G1_5) ≤ (m + 177) := by omega
theorem zx_X16_clear_49 {m : Nat}  : (m + 177) < m + 7594 ∨ m + 7594 + 728 ≤ (m + 177) := by omega
theorem zx_X16_clear_50 {G1_0 m : Nat} (h0 : G1_0 + 7 ≤ 160) : (m + 177) < m + 276 + 2 * G1_0 ∨ m + 276 + 2 * G1_0 + 2 ≤ (m + 177) := by omega
theorem zx_X16_clear_51 {m : Nat}  : (m + 178) ≠ m + 149 := by omega
theorem zx_X16_clear_52 {G1_0 G1_4 m : Nat} (h0 : G1_4 = G1_0 + 4) (h1 : G1_0 + 7 ≤ 160) : (m + 178) < m + 276 + 2 * G1_4 ∨ m + 276 + 2 * G1_4 + 2 ≤ (m + 178) := by omega
theorem zx_X16_clear_53 {G1_0 G1_1 m : Nat} (h0 : G1_1 = G1_0 + 1) (h1 : G1_0 + 7 ≤ 160) : (m + 178) < m + 276 + 2 * G1_1 ∨ m + 276 + 2 * G1_1 + 6 ≤ (m + 178) := by omega
theorem zx_X16_clear_54 {G1_0 G1_5 m : Nat} (h0 : G1_5 = G1_0 + 5) (h1 : G1_0 + 7 ≤ 160) : (m + 178) < m + 276 + 2 * G1_5 ∨ m + 276 + 2 * G1_5 + (320 - 2 * G1_5) ≤ (m + 178) := by omega
theorem zx_X16_clear_55 {m : Nat}  : (m + 178) < m + 7594 ∨ m + 7594 + 728 ≤ (m + 178) := by omega
theorem zx_X16_clear_56 {G1_0 m : Nat} (h0 : G1_0 + 7 ≤ 160) : (m + 178) < m + 276 + 2 * G1_0 ∨ m + 276 + 2 * G1_0 + 2 ≤ (m + 178) := by omega
theorem zx_X16_clear_57 {m x : Nat} (h0 : x < m + 177 ∨ m + 177 + 1 ≤ x) : x ≠ m + 177 := by omega
theorem zx_X16_clear_58 {m x : Nat} (h0 : x < m + 178 ∨ m + 178 + 1 ≤ x) : x ≠ m + 178 := by omega
theorem zx_X16_clear_59 {m x : Nat} (h0 : x < m + 149 ∨ m + 149 + 1 ≤ x) : x ≠ m + 149 := by omega
theorem zx_X16_clear_60 {G1_0 G1_1 m x : Nat} (h0 : x < m + 276 + 2 * G1_0 ∨ m + 276 + 2 * G1_0 + (320 - 2 * G1_0) ≤ x) (h1 : G1_1 = G1_0 + 1) (h2 : G1_0 + 7 ≤ 160) : x < m + 276 + 2 * G1_1 ∨ m + 276 + 2 * G1_1 + 6 ≤ x := by omega
theorem zx_X16_clear_61 {G1_0 G1_5 m x : Nat} (h0 : x < m + 276 + 2 * G1_0 ∨ m + 276 + 2 * G1_0 + (320 - 2 * G1_0) ≤ x) (h1 : G1_5 = G1_0 + 5) (h2 : G1_0 + 7 ≤ 160) : x < m + 276 + 2 * G1_5 ∨ m + 276 + 2 * G1_5 + (320 - 2 * G1_5) ≤ x := by omega
theorem zx_X16_clear_62 {G1_0 G1_3 m : Nat} (h0 : G1_3 = G1_0 + 3) (h1 : G1_0 + 7 ≤ 160) : m < m + 276 + 2 * G1_3 ∨ m + 276 + 2 * G1_3 + 2 ≤ m := by omega
theorem zx_X16_clear_63 {G1_0 G1_1 G1_3 G1_5 m x : Nat} (h0 : x < m + 276 + 2 * G1_1 ∨ m + 276 + 2 * G1_1 + 6 ≤ x) (h1 : x < m + 276 + 2 * G1_5 ∨ m + 276 + 2 * G1_5 + (320 - 2 * G1_5) ≤ x) (h2 : G1_1 = G1_0 + 1) (h3 : G1_3 = G1_0 + 3) (h4 : G1_5 = G1_0 + 5) (h5 : G1_0 + 7 ≤ 160) : x < m + 276 + 2 * G1_3 ∨ m + 276 + 2 * G1_3 + 2 ≤ x := by omega
theorem zx_X16_clear_64 {G1_0 G1_1 G1_5 m x : Nat} (h0 : x < m + 276 + 2 * G1_1 ∨ m + 276 + 2 * G1_1 + 6 ≤ x) (h1 : x < m + 276 + 2 * G1_5 ∨ m + 276 + 2 * G1_5 + (320 - 2 * G1_5) ≤ x) (h2 : G1_1 = G1_0 + 1) (h3 : G1_5 = G1_0 + 5) (h4 : G1_0 + 7 ≤ 160) : x < m + 276 + 2 * G1_1 ∨ m + 276 + 2 * G1_1 + 4 ≤ x := by omega
theorem zx_X16_clear_65 {G1_0 G1_3 m x : Nat} (h0 : m + 149 ≤ x) (h1 : x < m + 149 + 27) (h2 : G1_3 = G1_0 + 3) (h3 : G1_0 + 7 ≤ 160) : x < m + 276 + 2 * G1_3 ∨ m + 276 + 2 * G1_3 + 2 ≤ x := by omega
theorem zx_X16_clear_66 {G1_0 G1_1 m x : Nat} (h0 : m + 149 ≤ x) (h1 : x < m + 149 + 27) (h2 : G1_1 = G1_0 + 1) (h3 : G1_0 + 7 ≤ 160) : x < m + 276 + 2 * G1_1 ∨ m + 276 + 2 * G1_1 + 4 ≤ x := by omega
theorem zx_X16_clear_67 {G1_0 G1_3 G1_4 m x : Nat} (h0 : m + 276 + 2 * G1_4 ≤ x) (h1 : x < m + 276 + 2 * G1_4 + 2) (h2 : G1_3 = G1_0 + 3) (h3 : G1_4 = G1_0 + 4) (h4 : G1_0 + 7 ≤ 160) : x < m + 276 + 2 * G1_3 ∨ m + 276 + 2 * G1_3 + 2 ≤ x := by omega
theorem zx_X16_clear_68 {G1_0 G1_1 G1_4 m x : Nat} (h0 : m + 276 + 2 * G1_4 ≤ x) (h1 : x < m + 276 + 2 * G1_4 + 2) (h2 : G1_1 = G1_0 + 1) (h3 : G1_4 = G1_0 + 4) (h4 : G1_0 + 7 ≤ 160) : x < m + 276 + 2 * G1_1 ∨ m + 276 + 2 * G1_1 + 4 ≤ x := by omega
theorem zx_X16_clear_69 {G1_0 G1_1 m : Nat} (h0 : G1_1 = G1_0 + 1) (h1 : G1_0 + 7 ≤ 160) : m < m + 276 + 2 * G1_1 ∨ m + 276 + 2 * G1_1 + 2 ≤ m := by omega
theorem zx_X16_clear_70 {G1_0 G1_1 m x : Nat} (h0 : m + 149 ≤ x) (h1 : x < m + 149 + 27) (h2 : G1_1 = G1_0 + 1) (h3 : G1_0 + 7 ≤ 160) : x < m + 276 + 2 * G1_1 ∨ m + 276 + 2 * G1_1 + 2 ≤ x := by omega
theorem zx_X16_clear_71 {G1_0 G1_1 m s292 t295 x : Nat} (h0 : m + 7594 + 28 * s292 + 2 * t295 ≤ x) (h1 : x < m + 7594 + 28 * s292 + 2 * t295 + 2) (h2 : s292 < 26) (h3 : t295 < 14) (h4 : G1_1 = G1_0 + 1) (h5 : G1_0 + 7 ≤ 160) : x < m + 276 + 2 * G1_1 ∨ m + 276 + 2 * G1_1 + 2 ≤ x := by omega
theorem zx_X16_clear_72 {G1_0 G1_1 G1_3 m x : Nat} (h0 : m + 276 + 2 * G1_3 ≤ x) (h1 : x < m + 276 + 2 * G1_3 + 2) (h2 : G1_1 = G1_0 + 1) (h3 : G1_3 = G1_0 + 3) (h4 : G1_0 + 7 ≤ 160) : x < m + 276 + 2 * G1_1 ∨ m + 276 + 2 * G1_1 + 4 ≤ x := by omega
theorem zx_X16_clear_73 {G1_0 G1_3 G1_5 m x : Nat} (h0 : m + 276 + 2 * G1_3 ≤ x) (h1 : x < m + 276 + 2 * G1_3 + 2) (h2 : G1_3 = G1_0 + 3) (h3 : G1_5 = G1_0 + 5) (h4 : G1_0 + 7 ≤ 160) : x < m + 276 + 2 * G1_5 ∨ m + 276 + 2 * G1_5 + (320 - 2 * G1_5) ≤ x := by omega
theorem zx_X16_clear_74 {G1_0 G1_3 m x : Nat} (h0 : m + 276 + 2 * G1_3 ≤ x) (h1 : x < m + 276 + 2 * G1_3 + 2) (h2 : G1_3 = G1_0 + 3) (h3 : G1_0 + 7 ≤ 160) : x < m + 7594 ∨ m + 7594 + 728 ≤ x := by omega
theorem zx_X16_clear_75 {G1_0 G1_3 m x : Nat} (h0 : m + 276 + 2 * G1_3 ≤ x) (h1 : x < m + 276 + 2 * G1_3 + 2) (h2 : G1_3 = G1_0 + 3) (h3 : G1_0 + 7 ≤ 160) : x ≠ m := by omega
theorem zx_X16_clear_76 {G1_0 G1_1 G1_3 m x : Nat} (h0 : m + 276 + 2 * G1_3 ≤ x) (h1 : x < m + 276 + 2 * G1_3 + 2) (h2 : G1_1 = G1_0 + 1) (h3 : G1_3 = G1_0 + 3) (h4 : G1_0 + 7 ≤ 160) : x < m + 276 + 2 * G1_1 ∨ m + 276 + 2 * G1_1 + 2 ≤ x := by omega
theorem zx_X16_clear_77 {G1_0 G1_1 G1_2 m x : Nat} (h0 : m + 276 + 2 * G1_1 ≤ x) (h1 : x < m + 276 + 2 * G1_1 + 2) (h2 : G1_1 = G1_0 + 1) (h3 : G1_2 = G1_0 + 2) (h4 : G1_0 + 7 ≤ 160) : x < m + 276 + 2 * G1_2 ∨ m + 276 + 2 * G1_2 + 2 ≤ x := by omega
theorem zx_X16_clear_78 {G1_0 G1_2 m : Nat} (h0 : G1_2 = G1_0 + 2) (h1 : G1_0 + 7 ≤ 160) : m < m + 276 + 2 * G1_2 ∨ m + 276 + 2 * G1_2 + 2 ≤ m := by omega
theorem zx_X16_clear_79 {G1_0 G1_2 m x : Nat} (h0 : m + 149 ≤ x) (h1 : x < m + 149 + 27) (h2 : G1_2 = G1_0 + 2) (h3 : G1_0 + 7 ≤ 160) : x < m + 276 + 2 * G1_2 ∨ m + 276 + 2 * G1_2 + 2 ≤ x := by omega
theorem zx_X16_clear_80 {G1_0 G1_1 m s316 t319 x : Nat} (h0 : m + 7594 + 28 * s316 + 2 * t319 ≤ x) (h1 : x < m + 7594 + 28 * s316 + 2 * t319 + 2) (h2 : s316 < 26) (h3 : t319 < 14) (h4 : G1_1 = G1_0 + 1) (h5 : G1_0 + 7 ≤ 160) : x < m + 276 + 2 * G1_1 ∨ m + 276 + 2 * G1_1 + 2 ≤ x := by omega
theorem zx_X16_clear_81 {G1_0 G1_2 m s316 t319 x : Nat} (h0 : m + 7594 + 28 * s316 + 2 * t319 ≤ x) (h1 : x < m + 7594 + 28 * s316 + 2 * t319 + 2) (h2 : s316 < 26) (h3 : t319 < 14) (h4 : G1_2 = G1_0 + 2) (h5 : G1_0 + 7 ≤ 160) : x < m + 276 + 2 * G1_2 ∨ m + 276 + 2 * G1_2 + 2 ≤ x := by omega
theorem zx_X16_clear_82 {G1_0 G1_1 m x : Nat} (h0 : m + 276 + 2 * G1_0 ≤ x) (h1 : x < m + 276 + 2 * G1_0 + 2) (h2 : G1_1 = G1_0 + 1) (h3 : G1_0 + 7 ≤ 160) : x < m + 276 + 2 * G1_1 ∨ m + 276 + 2 * G1_1 + 4 ≤ x := by omega
theorem zx_X16_clear_83 {G1_0 G1_1 G1_5 m x : Nat} (h0 : x < m + 276 + 2 * G1_1 ∨ m + 276 + 2 * G1_1 + 4 ≤ x) (h1 : x < m + 276 + 2 * G1_5 ∨ m + 276 + 2 * G1_5 + (320 - 2 * G1_5) ≤ x) (h2 : G1_1 = G1_0 + 1) (h3 : G1_5 = G1_0 + 5) (h4 : G1_0 + 7 ≤ 160) : x < m + 276 + 2 * G1_1 ∨ m + 276 + 2 * G1_1 + 2 ≤ x := by omega
theorem zx_X16_clear_84 {G1_0 G1_1 G1_2 G1_5 m x : Nat} (h0 : x < m + 276 + 2 * G1_1 ∨ m + 276 + 2 * G1_1 + 4 ≤ x) (h1 : x < m + 276 + 2 * G1_5 ∨ m + 276 + 2 * G1_5 + (320 - 2 * G1_5) ≤ x) (h2 : G1_1 = G1_0 + 1) (h3 : G1_2 = G1_0 + 2) (h4 : G1_5 = G1_0 + 5) (h5 : G1_0 + 7 ≤ 160) : x < m + 276 + 2 * G1_2 ∨ m + 276 + 2 * G1_2 + 2 ≤ x := by omega
theorem zx_X16_clear_85 {m s316 t319 x : Nat} (h0 : x < m + 7594 ∨ m + 7594 + 728 ≤ x) (h1 : s316 < 26) (h2 : t319 < 14) : x < m + 7594 + 28 * s316 + 2 * t319 ∨ m + 7594 + 28 * s316 + 2 * t319 + 2 ≤ x := by omega
theorem zx_X16_clear_86 {m s316 t319 : Nat} (h0 : s316 < 26) (h1 : t319 < 14) : m < m + 7594 + 28 * s316 + 2 * t319 ∨ m + 7594 + 28 * s316 + 2 * t319 + 2 ≤ m := by omega
theorem zx_X16_clear_87 {G1_0 G1_5 m : Nat} (h0 : G1_5 = G1_0 + 5) (h1 : G1_0 + 7 ≤ 160) : m < m + 276 + 2 * G1_5 ∨ m + 276 + 2 * G1_5 + (320 - 2 * G1_5) ≤ m := by omega
theorem zx_X16_clear_88 {m s316 t319 x : Nat} (h0 : m + 149 ≤ x) (h1 : x < m + 149 + 27) (h2 : s316 < 26) (h3 : t319 < 14) : x < m + 7594 + 28 * s316 + 2 * t319 ∨ m + 7594 + 28 * s316 + 2 * t319 + 2 ≤ x := by omega
theorem zx_X16_clear_89 {G1_0 G1_1 G1_3 m : Nat} (h0 : G1_1 = G1_0 + 1) (h1 : G1_3 = G1_0 + 3) (h2 : G1_0 + 7 ≤ 160) : (m + 276 + 2 * G1_3) < m + 276 + 2 * G1_1 ∨ m + 276 + 2 * G1_1 + 4 ≤ (m + 276 + 2 * G1_3) := by omega
theorem zx_X16_clear_90 {G1_0 G1_3 G1_5 m : Nat} (h0 : G1_3 = G1_0 + 3) (h1 : G1_5 = G1_0 + 5) (h2 : G1_0 + 7 ≤ 160) : (m + 276 + 2 * G1_3) < m + 276 + 2 * G1_5 ∨ m + 276 + 2 * G1_5 + (320 - 2 * G1_5) ≤ (m + 276 + 2 * G1_3) := by omega
theorem zx_X16_clear_91 {G1_0 G1_3 m : Nat} (h0 : G1_3 = G1_0 + 3) (h1 : G1_0 + 7 ≤ 160) : (m + 276 + 2 * G1_3) < m + 7594 ∨ m + 7594 + 728 ≤ (m + 276 + 2 * G1_3) := by omega
theorem zx_X16_clear_92 {G1_0 G1_3 m : Nat} (h0 : G1_3 = G1_0 + 3) (h1 : G1_0 + 7 ≤ 160) : (m + 276 + 2 * G1_3) ≠ m := by omega
theorem zx_X16_clear_93 {G1_0 G1_3 m x : Nat} (h0 : m + 7594 ≤ x) (h1 : x < m + 7594 + 728) (h2 : G1_3 = G1_0 + 3) (h3 : G1_0 + 7 ≤ 160) : x < m + 276 + 2 * G1_3 ∨ m + 276 + 2 * G1_3 + 2 ≤ x := by omega
theorem zx_X16_clear_94 {G1_0 G1_4 m x : Nat} (h0 : m + 7594 ≤ x) (h1 : x < m + 7594 + 728) (h2 : G1_4 = G1_0 + 4) (h3 : G1_0 + 7 ≤ 160) : x < m + 276 + 2 * G1_4 ∨ m + 276 + 2 * G1_4 + 2 ≤ x := by omega
theorem zx_X16_clear_95 {m x : Nat} (h0 : m + 149 ≤ x) (h1 : x < m + 149 + 27) : x < m ∨ m + 1 ≤ x := by omega
theorem zx_X16_clear_96 {G1_0 G1_1 m x : Nat} (h0 : m + 276 + 2 * G1_1 ≤ x) (h1 : x < m + 276 + 2 * G1_1 + 2) (h2 : G1_1 = G1_0 + 1) (h3 : G1_0 + 7 ≤ 160) : x < m ∨ m + 1 ≤ x := by omega
theorem zx_X16_clear_97 {G1_0 G1_1 G1_3 m x : Nat} (h0 : m + 276 + 2 * G1_1 ≤ x) (h1 : x < m + 276 + 2 * G1_1 + 2) (h2 : G1_1 = G1_0 + 1) (h3 : G1_3 = G1_0 + 3) (h4 : G1_0 + 7 ≤ 160) : x < m + 276 + 2 * G1_3 ∨ m + 276 + 2 * G1_3 + 2 ≤ x := by omega
theorem zx_X16_clear_98 {G1_0 G1_1 G1_4 m x : Nat} (h0 : m + 276 + 2 * G1_1 ≤ x) (h1 : x < m + 276 + 2 * G1_1 + 2) (h2 : G1_1 = G1_0 + 1) (h3 : G1_4 = G1_0 + 4) (h4 : G1_0 + 7 ≤ 160) : x < m + 276 + 2 * G1_4 ∨ m + 276 + 2 * G1_4 + 2 ≤ x := by omega
theorem zx_X16_clear_99 {G1_0 G1_1 m x : Nat} (h0 : m + 276 + 2 * G1_1 ≤ x) (h1 : x < m + 276 + 2 * G1_1 + 2) (h2 : G1_1 = G1_0 + 1) (h3 : G1_0 + 7 ≤ 160) : x < m + 276 + 2 * G1_0 ∨ m + 276 + 2 * G1_0 + 2 ≤ x := by omega
theorem zx_X16_clear_100 {G1_0 G1_2 m x : Nat} (h0 : m + 276 + 2 * G1_2 ≤ x) (h1 : x < m + 276 + 2 * G1_2 + 2) (h2 : G1_2 = G1_0 + 2) (h3 : G1_0 + 7 ≤ 160) : x < m ∨ m + 1 ≤ x := by omega
theorem zx_X16_clear_101 {G1_0 G1_2 G1_3 m x : Nat} (h0 : m + 276 + 2 * G1_2 ≤ x) (h1 : x < m + 276 + 2 * G1_2 + 2) (h2 : G1_2 = G1_0 + 2) (h3 : G1_3 = G1_0 + 3) (h4 : G1_0 + 7 ≤ 160) : x < m + 276 + 2 * G1_3 ∨ m + 276 + 2 * G1_3 + 2 ≤ x := by omega
theorem zx_X16_clear_102 {G1_0 G1_2 G1_4 m x : Nat} (h0 : m + 276 + 2 * G1_2 ≤ x) (h1 : x < m + 276 + 2 * G1_2 + 2) (h2 : G1_2 = G1_0 + 2) (h3 : G1_4 = G1_0 + 4) (h4 : G1_0 + 7 ≤ 160) : x < m + 276 + 2 * G1_4 ∨ m + 276 + 2 * G1_4 + 2 ≤ x := by omega
theorem zx_X16_clear_103 {G1_0 G1_2 m x : Nat} (h0 : m + 276 + 2 * G1_2 ≤ x) (h1 : x < m + 276 + 2 * G1_2 + 2) (h2 : G1_2 = G1_0 + 2) (h3 : G1_0 + 7 ≤ 160) : x < m + 276 + 2 * G1_0 ∨ m + 276 + 2 * G1_0 + 2 ≤ x := by omega
theorem zx_X16_clear_104 {G1_0 G1_3 m x : Nat} (h0 : m + 276 + 2 * G1_3 ≤ x) (h1 : x < m + 276 + 2 * G1_3 + 2) (h2 : G1_3 = G1_0 + 3) (h3 : G1_0 + 7 ≤ 160) : x < m ∨ m + 1 ≤ x := by omega
theorem zx_X16_clear_105 {G1_0 G1_3 G1_4 m x : Nat} (h0 : m + 276 + 2 * G1_3 ≤ x) (h1 : x < m + 276 + 2 * G1_3 + 2) (h2 : G1_3 = G1_0 + 3) (h3 : G1_4 = G1_0 + 4) (h4 : G1_0 + 7 ≤ 160) : x < m + 276 + 2 * G1_4 ∨ m + 276 + 2 * G1_4 + 2 ≤ x := by omega
theorem zx_X16_clear_106 {G1_0 G1_3 m x : Nat} (h0 : m + 276 + 2 * G1_3 ≤ x) (h1 : x < m + 276 + 2 * G1_3 + 2) (h2 : G1_3 = G1_0 + 3) (h3 : G1_0 + 7 ≤ 160) : x < m + 276 + 2 * G1_0 ∨ m + 276 + 2 * G1_0 + 2 ≤ x := by omega
theorem zx_X16_clear_107 {G1_0 G1_4 m x : Nat} (h0 : m + 276 + 2 * G1_4 ≤ x) (h1 : x < m + 276 + 2 * G1_4 + 2) (h2 : G1_4 = G1_0 + 4) (h3 : G1_0 + 7 ≤ 160) : x < m + 276 + 2 * G1_0 ∨ m + 276 + 2 * G1_0 + 2 ≤ x := by omega
theorem zx_X16_clear_108 {m x : Nat} (h0 : m + 7594 ≤ x) (h1 : x < m + 7594 + 728) : x < m ∨ m + 1 ≤ x := by omega
theorem zx_X16_clear_109 {G1_0 G1_1 m x : Nat} (h0 : m + 7594 ≤ x) (h1 : x < m + 7594 + 728) (h2 : G1_1 = G1_0 + 1) (h3 : G1_0 + 7 ≤ 160) : x < m + 276 + 2 * G1_1 ∨ m + 276 + 2 * G1_1 + 2 ≤ x := by omega
theorem zx_X16_clear_110 {G1_0 G1_2 m x : Nat} (h0 : m + 7594 ≤ x) (h1 : x < m + 7594 + 728) (h2 : G1_2 = G1_0 + 2) (h3 : G1_0 + 7 ≤ 160) : x < m + 276 + 2 * G1_2 ∨ m + 276 + 2 * G1_2 + 2 ≤ x := by omega
set_option maxHeartbeats 8000000 in
set_option maxRecDepth 100000 in
theorem c_X16_clear {w : zM} {g : Nat → Int32} {r : Nat → Value} {sg : Nat → Nat} {B0 : Nat → Nat → zA1} {dg : Nat} {g1 : Int32} {g48 : Int32} (m : Nat) (cols : Int32) (hm : w m = some (.inl (15, zMo m g r))) (hR_m : zR m w) (hBq_m_149 : zBq w m sg) (hut : 0 ≤ g1.toInt ∧ g1.toInt + 7 ≤ 160) (hn : 0 ≤ g48.toInt ∧ g48.toInt ≤ 26) (hcl : 0 ≤ cols.toInt ∧ cols.toInt ≤ 14) (hB0 : zBc w m sg g48.toNatClampNeg cols.toNatClampNeg B0) (hdg : ∀ i k, i < g48.toNatClampNeg → k < cols.toNatClampNeg → zdq (B0 i k) dg) (hR9 : ∀ r9, r9 < g48.toNatClampNeg → r9 < cols.toNatClampNeg → (r9 + 1) * dg ≤ 498) (hg1 : g 1 = g1) (hg48 : g 48 = g48) : zCon 5 zq_X16_clear [.ref m, .int cols] w (fun v9 w9' => ∃ ip : Nat → Int32, ∃ pv : Nat → Int32, ∃ s2 : Nat → Nat, ∃ B2 : Nat → Nat → zA1, ∃ Lp : zA1, ∃ rk : Nat, zSI w w9' ∧ (∀ x, (x < m ∨ m + 1 ≤ x) ∧ (x < m + 149 ∨ m + 149 + 1 ≤ x) ∧ (x < m + 177 ∨ m + 177 + 1 ≤ x) ∧ (x < m + 178 ∨ m + 178 + 1 ≤ x) ∧ (x < m + 7594 ∨ m + 7594 + 728 ≤ x) ∧ (x < m + 276 + 2 * g1.toNatClampNeg ∨ m + 276 + 2 * g1.toNatClampNeg + (320 - 2 * g1.toNatClampNeg) ≤ x) → w9' x = w x) ∧ w9' m = some (.inl (15, zMo m (zs g 1 (g1 + 1)) r)) ∧ zBq w9' m s2 ∧ zU w9' (m + 276 + 2 * g1.toNatClampNeg) 1000 Lp ∧ w9' (m + 177) = some (.inr (2, 14, .inl ip)) ∧ w9' (m + 178) = some (.inr (0, 14, .inl pv)) ∧ zBc w9' m s2 g48.toNatClampNeg cols.toNatClampNeg B2 ∧ (0 < zln Lp ∧ zln Lp ≤ 499 ∧ ∀ i k, i < rk → k < cols.toNatClampNeg → zln (B2 i k) ≤ 499) ∧ (rk ≤ g48.toNatClampNeg ∧ ∀ k, k < cols.toNatClampNeg → ip k = 0 ∨ ip k = 1 ∧ 0 ≤ (pv k).toInt ∧ (pv k).toInt < (rk : Int)) ∧ (∀ c, c ≤ cols.toNatClampNeg → (∀ t, t < c → ip t ≠ 0) → c ≤ rk) ∧ (0 < cols.toNatClampNeg → (∃ i, i < g48.toNatClampNeg ∧ zln (B0 i 0) ≠ 0) → ip 0 ≠ 0) ∧ v9 = some (.ref (m + 276 + 2 * g1.toNatClampNeg))) := by
  subst hg1
  subst hg48
  intro d sz hd
  obtain ⟨d, rfl⟩ : ∃ d9, d = d9 + 1 := ⟨d - 1, by omega⟩
  generalize hPost : (fun (r9' : Option (Option Value)) (w9' : zM) (z9 : Nat) => z9 = sz ∧ ∃ v9, r9' = some v9 ∧ (∃ ip : Nat → Int32, ∃ pv : Nat → Int32, ∃ s2 : Nat → Nat, ∃ B2 : Nat → Nat → zA1, ∃ Lp : zA1, ∃ rk : Nat, zSI w w9' ∧ (∀ x, (x < m ∨ m + 1 ≤ x) ∧ (x < m + 149 ∨ m + 149 + 1 ≤ x) ∧ (x < m + 177 ∨ m + 177 + 1 ≤ x) ∧ (x < m + 178 ∨ m + 178 + 1 ≤ x) ∧ (x < m + 7594 ∨ m + 7594 + 728 ≤ x) ∧ (x < m + 276 + 2 * (g 1).toNatClampNeg ∨ m + 276 + 2 * (g 1).toNatClampNeg + (320 - 2 * (g 1).toNatClampNeg) ≤ x) → w9' x = w x) ∧ w9' m = some (.inl (15, zMo m (zs g 1 ((g 1) + 1)) r)) ∧ zBq w9' m s2 ∧ zU w9' (m + 276 + 2 * (g 1).toNatClampNeg) 1000 Lp ∧ w9' (m + 177) = some (.inr (2, 14, .inl ip)) ∧ w9' (m + 178) = some (.inr (0, 14, .inl pv)) ∧ zBc w9' m s2 (g 48).toNatClampNeg cols.toNatClampNeg B2 ∧ (0 < zln Lp ∧ zln Lp ≤ 499 ∧ ∀ i k, i < rk → k < cols.toNatClampNeg → zln (B2 i k) ≤ 499) ∧ (rk ≤ (g 48).toNatClampNeg ∧ ∀ k, k < cols.toNatClampNeg → ip k = 0 ∨ ip k = 1 ∧ 0 ≤ (pv k).toInt ∧ (pv k).toInt < (rk : Int)) ∧ (∀ c, c ≤ cols.toNatClampNeg → (∀ t, t < c → ip t ≠ 0) → c ≤ rk) ∧ (0 < cols.toNatClampNeg → (∃ i, i < (g 48).toNatClampNeg ∧ zln (B0 i 0) ≠ 0) → ip 0 ≠ 0) ∧ v9 = some (.ref (m + 276 + 2 * (g 1).toNatClampNeg)))) = Post
  show zP (d + 1) zq_X16_clear 0 [(0, .ref m), (1, .int cols)] [] w sz 0 0 Post
  have k1 := zrng cols
  have k2 := zrng (g 1)
  have hz3 : ((g 1).toNatClampNeg : Int) = (g 1).toInt := znat (by first | omega | decide)
  have hgb1 : (g 1).toNatClampNeg + 7 ≤ 160 := by omega
  have k4 := zrng (g 48)
  have hz5 : ((g 48).toNatClampNeg : Int) = (g 48).toInt := znat (by first | omega | decide)
  have hz6 : (cols.toNatClampNeg : Int) = cols.toInt := znat (by first | omega | decide)
  refine zp_seg (pc' := 1) (lv' := [(0, .ref m), (1, .int cols)]) (st' := [.ref m]) [(0, .aload_n 0)] (by decide +kernel) rfl ?_
  refine zr_get (idx := 21) (k := 1) (v := .int (g 1)) (by decide +kernel) (by decide +kernel) hm rfl ?_
  refine zp_seg (pc' := 5) (lv' := [(2, .int (g 1)), (0, .ref m), (1, .int cols)]) (st' := []) [(4, .istore_n 2)] (by decide +kernel) rfl ?_
  have k8 := zaddC (g 1) 1 (n := 1) (by decide) (by omega) (by omega)
  have hz9 : ((g 1 + 1).toNatClampNeg : Int) = (g 1 + 1).toInt := znat (by first | omega | decide)
  have hgn1_1 : (g 1 + 1).toNatClampNeg = (g 1).toNatClampNeg + 1 := by omega
  have k10 := zaddC (g 1 + 1) 1 (n := 1) (by decide) (by omega) (by omega)
  have hz11 : ((g 1 + 1 + 1).toNatClampNeg : Int) = (g 1 + 1 + 1).toInt := znat (by first | omega | decide)
  have hgn1_2 : (g 1 + 1 + 1).toNatClampNeg = (g 1).toNatClampNeg + 2 := by omega
  have k12 := zaddC (g 1 + 1 + 1) 1 (n := 1) (by decide) (by omega) (by omega)
  have hz13 : ((g 1 + 1 + 1 + 1).toNatClampNeg : Int) = (g 1 + 1 + 1 + 1).toInt := znat (by first | omega | decide)
  have hgn1_3 : (g 1 + 1 + 1 + 1).toNatClampNeg = (g 1).toNatClampNeg + 3 := by omega
  have k14 := zaddC (g 1 + 1 + 1 + 1) 1 (n := 1) (by decide) (by omega) (by omega)
  have hz15 : ((g 1 + 1 + 1 + 1 + 1).toNatClampNeg : Int) = (g 1 + 1 + 1 + 1 + 1).toInt := znat (by first | omega | decide)
  have hgn1_4 : (g 1 + 1 + 1 + 1 + 1).toNatClampNeg = (g 1).toNatClampNeg + 4 := by omega
  have k16 := zaddC (g 1 + 1 + 1 + 1 + 1) 1 (n := 1) (by decide) (by omega) (by omega)
  have hz17 : ((g 1 + 1 + 1 + 1 + 1 + 1).toNatClampNeg : Int) = (g 1 + 1 + 1 + 1 + 1 + 1).toInt := znat (by first | omega | decide)
  have hgn1_5 : (g 1 + 1 + 1 + 1 + 1 + 1).toNatClampNeg = (g 1).toNatClampNeg + 5 := by omega
  refine zp_seg (pc' := 6) (lv' := [(2, .int (g 1)), (0, .ref m), (1, .int cols)]) (st' := [.ref m]) [(5, .aload_n 0)] (by decide +kernel) rfl ?_
  refine zr_callV (idx := 74) (j := 263) (by decide +kernel) (by decide +kernel) (show zMe 263 = some zq_X16_newU from rfl) rfl rfl (Nat.le_of_ble_eq_true rfl) rfl rfl hm (Nat.le_of_ble_eq_true rfl) (Nat.le_of_ble_eq_true rfl) (c_X16_newU (w := w) (g1 := (g 1)) m hm hR_m (by first | omega | decide | assumption | exact zr1_1 | exact zr1_0 | fail "num") rfl) (by omega) (fun v6 w6 hp6 => ?_)
  obtain ⟨hsi6, heq6, hp6_0, hp6_1, rfl⟩ := hp6
  have hM6 : w6 m = some (.inl (15, zMo m (zs g 1 (g 1 + 1)) r)) := hp6_0
  show zP _ _ _ _ [.ref (m + 276 + 2 * (g 1).toNatClampNeg)] _ _ _ _ _
  refine zp_seg (pc' := 11) (lv' := [(3, .ref (m + 276 + 2 * (g 1).toNatClampNeg)), (2, .int (g 1)), (0, .ref m), (1, .int cols)]) (st' := [.ref m]) [(9, .astore_n 3), (10, .aload_n 0)] (by decide +kernel) rfl ?_
  have hb18 := hR_m.si hsi6
  refine zr_callV (idx := 74) (j := 263) (by decide +kernel) (by decide +kernel) (show zMe 263 = some zq_X16_newU from rfl) rfl rfl (Nat.le_of_ble_eq_true rfl) rfl rfl hM6 (Nat.le_of_ble_eq_true rfl) (Nat.le_of_ble_eq_true rfl) (c_X16_newU (w := w6) (g1 := (g 1 + 1)) m hM6 hb18 (by first | omega | decide | assumption | exact zr1_1 | exact zr1_0 | fail "num") rfl) (by omega) (fun v11 w11 hp11 => ?_)
  obtain ⟨hsi11, heq11, hp11_0, hp11_1, rfl⟩ := hp11
  have hM11 : w11 m = some (.inl (15, zMo m (zs g 1 (g 1 + 1 + 1)) r)) := hp11_0
  show zP _ _ _ _ [.ref (m + 276 + 2 * (g 1 + 1).toNatClampNeg)] _ _ _ _ _
  refine zp_seg (pc' := 17) (lv' := [(4, .ref (m + 276 + 2 * (g 1 + 1).toNatClampNeg)), (3, .ref (m + 276 + 2 * (g 1).toNatClampNeg)), (2, .int (g 1)), (0, .ref m), (1, .int cols)]) (st' := [.ref m]) [(14, .astore 4), (16, .aload_n 0)] (by decide +kernel) rfl ?_
  have hb19 := hb18.si hsi11
  refine zr_callV (idx := 74) (j := 263) (by decide +kernel) (by decide +kernel) (show zMe 263 = some zq_X16_newU from rfl) rfl rfl (Nat.le_of_ble_eq_true rfl) rfl rfl hM11 (Nat.le_of_ble_eq_true rfl) (Nat.le_of_ble_eq_true rfl) (c_X16_newU (w := w11) (g1 := (g 1 + 1 + 1)) m hM11 hb19 (by first | omega | decide | assumption | exact zr1_1 | exact zr1_0 | fail "num") rfl) (by omega) (fun v17 w17 hp17 => ?_)
  obtain ⟨hsi17, heq17, hp17_0, hp17_1, rfl⟩ := hp17
  have hM17 : w17 m = some (.inl (15, zMo m (zs g 1 (g 1 + 1 + 1 + 1)) r)) := hp17_0
  show zP _ _ _ _ [.ref (m + 276 + 2 * (g 1 + 1 + 1).toNatClampNeg)] _ _ _ _ _
  refine zp_seg (pc' := 23) (lv' := [(5, .ref (m + 276 + 2 * (g 1 + 1 + 1).toNatClampNeg)), (4, .ref (m + 276 + 2 * (g 1 + 1).toNatClampNeg)), (3, .ref (m + 276 + 2 * (g 1).toNatClampNeg)), (2, .int (g 1)), (0, .ref m), (1, .int cols)]) (st' := [.ref m]) [(20, .astore 5), (22, .aload_n 0)] (by decide +kernel) rfl ?_
  have hb20 := hb19.si hsi17
  refine zr_callV (idx := 74) (j := 263) (by decide +kernel) (by decide +kernel) (show zMe 263 = some zq_X16_newU from rfl) rfl rfl (Nat.le_of_ble_eq_true rfl) rfl rfl hM17 (Nat.le_of_ble_eq_true rfl) (Nat.le_of_ble_eq_true rfl) (c_X16_newU (w := w17) (g1 := (g 1 + 1 + 1 + 1)) m hM17 hb20 (by first | omega | decide | assumption | exact zr1_1 | exact zr1_0 | fail "num") rfl) (by omega) (fun v23 w23 hp23 => ?_)
  obtain ⟨hsi23, heq23, hp23_0, hp23_1, rfl⟩ := hp23
  have hM23 : w23 m = some (.inl (15, zMo m (zs g 1 (g 1 + 1 + 1 + 1 + 1)) r)) := hp23_0
  show zP _ _ _ _ [.ref (m + 276 + 2 * (g 1 + 1 + 1 + 1).toNatClampNeg)] _ _ _ _ _
  refine zp_seg (pc' := 29) (lv' := [(6, .ref (m + 276 + 2 * (g 1 + 1 + 1 + 1).toNatClampNeg)), (5, .ref (m + 276 + 2 * (g 1 + 1 + 1).toNatClampNeg)), (4, .ref (m + 276 + 2 * (g 1 + 1).toNatClampNeg)), (3, .ref (m + 276 + 2 * (g 1).toNatClampNeg)), (2, .int (g 1)), (0, .ref m), (1, .int cols)]) (st' := [.ref m]) [(26, .astore 6), (28, .aload_n 0)] (by decide +kernel) rfl ?_
  have hb21 := hb20.si hsi23
  refine zr_callV (idx := 74) (j := 263) (by decide +kernel) (by decide +kernel) (show zMe 263 = some zq_X16_newU from rfl) rfl rfl (Nat.le_of_ble_eq_true rfl) rfl rfl hM23 (Nat.le_of_ble_eq_true rfl) (Nat.le_of_ble_eq_true rfl) (c_X16_newU (w := w23) (g1 := (g 1 + 1 + 1 + 1 + 1)) m hM23 hb21 (by first | omega | decide | assumption | exact zr1_1 | exact zr1_0 | fail "num") rfl) (by omega) (fun v29 w29 hp29 => ?_)
  obtain ⟨hsi29, heq29, hp29_0, hp29_1, rfl⟩ := hp29
  have hM29 : w29 m = some (.inl (15, zMo m (zs g 1 (g 1 + 1 + 1 + 1 + 1 + 1)) r)) := hp29_0
  show zP _ _ _ _ [.ref (m + 276 + 2 * (g 1 + 1 + 1 + 1 + 1).toNatClampNeg)] _ _ _ _ _
  refine zp_seg (pc' := 36) (lv' := [(7, .ref (m + 276 + 2 * (g 1 + 1 + 1 + 1 + 1).toNatClampNeg)), (6, .ref (m + 276 + 2 * (g 1 + 1 + 1 + 1).toNatClampNeg)), (5, .ref (m + 276 + 2 * (g 1 + 1 + 1).toNatClampNeg)), (4, .ref (m + 276 + 2 * (g 1 + 1).toNatClampNeg)), (3, .ref (m + 276 + 2 * (g 1).toNatClampNeg)), (2, .int (g 1)), (0, .ref m), (1, .int cols)]) (st' := [.int 1, .ref (m + 276 + 2 * (g 1).toNatClampNeg)]) [(32, .astore 7), (34, .aload_n 3), (35, .iconst 1)] (by decide +kernel) rfl ?_
  have hb22 : zU w29 (m + 276 + 2 * (g 1).toNatClampNeg) 1000 zaZ := hp6_1.ag (fun x hx1 hx2 => ((heq29 x ⟨(zx_X16_clear_0 hx1 hx2 hgb1), (zx_X16_clear_4 hx1 hx2 hgn1_4 hgb1)⟩).trans ((heq23 x ⟨(zx_X16_clear_0 hx1 hx2 hgb1), (zx_X16_clear_3 hx1 hx2 hgn1_3 hgb1)⟩).trans ((heq17 x ⟨(zx_X16_clear_0 hx1 hx2 hgb1), (zx_X16_clear_2 hx1 hx2 hgn1_2 hgb1)⟩).trans (heq11 x ⟨(zx_X16_clear_0 hx1 hx2 hgb1), (zx_X16_clear_1 hx1 hx2 hgn1_1 hgb1)⟩)))))
  have ho36_u := zU.o hb22
  obtain ⟨n23, f24, hu25, hu26, hu27, hu28, hu29⟩ := id hb22
  have kn23 := zrng n23
  refine zr_callV (idx := 147) (j := 252) (by decide +kernel) (by decide +kernel) (show zMe 252 = some zq_X15_number from rfl) rfl rfl (Nat.le_of_ble_eq_true rfl) rfl rfl hu25 (Nat.le_of_ble_eq_true rfl) (Nat.le_of_ble_eq_true rfl) (c_X15_number (w := w29) (m + 276 + 2 * (g 1).toNatClampNeg) 1 ho36_u (by first | omega | decide | assumption | exact zr1_1 | exact zr1_0 | fail "num") (by first | omega | decide | assumption | exact zr1_1 | exact zr1_0 | fail "num")) (by omega) (fun v36 w36 hp36 => ?_)
  obtain ⟨hsi36, heq36, hp36_0, rfl⟩ := hp36
  show zP _ _ _ _ [] _ _ _ _ _
  have hLO : zaC (zf 1) = zaO := by rw [zf_1]; exact zaC_1
  have hULO : zU w36 (m + 276 + 2 * (g 1).toNatClampNeg) 1000 zaO := by rw [← hLO]; exact hp36_0
  refine zp_seg (pc' := 45) (lv' := [(9, .int 0), (8, .int 0), (7, .ref (m + 276 + 2 * (g 1 + 1 + 1 + 1 + 1).toNatClampNeg)), (6, .ref (m + 276 + 2 * (g 1 + 1 + 1 + 1).toNatClampNeg)), (5, .ref (m + 276 + 2 * (g 1 + 1 + 1).toNatClampNeg)), (4, .ref (m + 276 + 2 * (g 1 + 1).toNatClampNeg)), (3, .ref (m + 276 + 2 * (g 1).toNatClampNeg)), (2, .int (g 1)), (0, .ref m), (1, .int cols)]) (st' := []) [(39, .iconst 0), (40, .istore 8), (42, .iconst 0), (43, .istore 9)] (by decide +kernel) rfl ?_
  have hb30 : w36 m = some (.inl (15, zMo m (zs g 1 (g 1 + 1 + 1 + 1 + 1 + 1)) r)) := (heq36 m (zx_X16_clear_5 hgb1)).trans hM29
  have hL45 : ∀ (mm45 : Nat) (wL45 : zM) (y8_45 : Int32) (y9_45 : Int32) (sg9 : Nat → Nat) (A9 : Nat → Nat → zA1) (B9 : Nat → Nat → zA1) (L9 : zA1) (c9 : Nat → Nat) (ip9 : Nat → Int32) (pv9 : Nat → Int32), (zSI w36 wL45) → (∀ x, ((x < m + 149 ∨ m + 149 + 1 ≤ x) ∧ (x < m + 177 ∨ m + 177 + 1 ≤ x) ∧ (x < m + 178 ∨ m + 178 + 1 ≤ x) ∧ (x < m + 276 + 2 * (g 1).toNatClampNeg ∨ m + 276 + 2 * (g 1).toNatClampNeg + (320 - 2 * (g 1).toNatClampNeg) ≤ x) ∧ (x < m + 7594 ∨ m + 7594 + 728 ≤ x)) ∧ x ≠ m → wL45 x = w36 x) → (0 ≤ y8_45.toInt) → (y8_45.toInt ≤ y9_45.toInt) → (y9_45.toInt ≤ cols.toInt) → (y8_45.toInt ≤ (g 48).toInt) → (zBq wL45 m sg9) → (zU wL45 (m + 276 + 2 * (g 1).toNatClampNeg) 1000 L9) → (zUo wL45 (m + 276 + 2 * (g 1 + 1).toNatClampNeg) 1000) → (zUo wL45 (m + 276 + 2 * (g 1 + 1 + 1).toNatClampNeg) 1000) → (zUo wL45 (m + 276 + 2 * (g 1 + 1 + 1 + 1).toNatClampNeg) 1000) → (zUo wL45 (m + 276 + 2 * (g 1 + 1 + 1 + 1 + 1).toNatClampNeg) 1000) → (wL45 (m + 177) = some (.inr (2, 14, .inl ip9))) → (wL45 (m + 178) = some (.inr (0, 14, .inl pv9))) → (wL45 m = some (.inl (15, zMo m (zs g 1 (g 1 + 1 + 1 + 1 + 1 + 1)) r))) → (@zBI zA1 zA1R A9 c9 (g 48).toNatClampNeg cols.toNatClampNeg y8_45.toNatClampNeg L9 B9) → (∀ i k, i < (g 48).toNatClampNeg → k < cols.toNatClampNeg → zdq (A9 i k) dg) → (zBc wL45 m sg9 (g 48).toNatClampNeg cols.toNatClampNeg B9) → (∀ t, t < y9_45.toNatClampNeg → ip9 t = 0 ∨ ip9 t = 1 ∧ 0 ≤ (pv9 t).toInt ∧ (pv9 t).toInt < y8_45.toInt) → (∀ c, c ≤ y9_45.toNatClampNeg → (∀ t, t < c → ip9 t ≠ 0) → c ≤ y8_45.toNatClampNeg) → (0 < y9_45.toNatClampNeg → (∃ i, i < (g 48).toNatClampNeg ∧ zln (B0 i 0) ≠ 0) → ip9 0 ≠ 0) → (y9_45.toNatClampNeg = 0 → B9 = B0) → (20 - y9_45.toInt).toNat < mm45 → zP (d + 1) zq_X16_clear 45 [(0, .ref m), (1, .int cols), (2, .int (g 1)), (3, .ref (m + 276 + 2 * (g 1).toNatClampNeg)), (4, .ref (m + 276 + 2 * (g 1 + 1).toNatClampNeg)), (5, .ref (m + 276 + 2 * (g 1 + 1 + 1).toNatClampNeg)), (6, .ref (m + 276 + 2 * (g 1 + 1 + 1 + 1).toNatClampNeg)), (7, .ref (m + 276 + 2 * (g 1 + 1 + 1 + 1 + 1).toNatClampNeg)), (8, .int y8_45), (9, .int y9_45)] [] wL45 sz 0 0 Post := by
    intro mm45
    induction mm45 with
    | zero => intros; omega
    | succ mm45 ih45 =>
    intro wL45 y8_45 y9_45 sg9 A9 B9 L9 c9 ip9 pv9 hsiL45 heqL45 hi45_0 hi45_1 hi45_2 hi45_3 hBq9 hUL9 hUo1 hUo2 hUo3 hUo4 hAi9 hAp9 hmL45 hBI9 hA9 hBc9 hip9 hal9 hz9 hB9 hmu45
    have ky8_45 := zrng y8_45
    have ky9_45 := zrng y9_45
    have hz31 : (y8_45.toNatClampNeg : Int) = y8_45.toInt := znat (by first | omega | decide)
    have hz32 : (y9_45.toNatClampNeg : Int) = y9_45.toInt := znat (by first | omega | decide)
    refine zp_seg (pc' := 48) (lv' := [(0, .ref m), (1, .int cols), (2, .int (g 1)), (3, .ref (m + 276 + 2 * (g 1).toNatClampNeg)), (4, .ref (m + 276 + 2 * (g 1 + 1).toNatClampNeg)), (5, .ref (m + 276 + 2 * (g 1 + 1 + 1).toNatClampNeg)), (6, .ref (m + 276 + 2 * (g 1 + 1 + 1 + 1).toNatClampNeg)), (7, .ref (m + 276 + 2 * (g 1 + 1 + 1 + 1 + 1).toNatClampNeg)), (8, .int y8_45), (9, .int y9_45)]) (st' := [.int cols, .int y9_45]) [(45, .iload 9), (47, .iload_n 1)] (by decide +kernel) rfl ?_
    refine zp_if (i := .if_icmp .ge 305) (c := cols ≤ y9_45) (t := 353) (e := 51) (lv' := [(0, .ref m), (1, .int cols), (2, .int (g 1)), (3, .ref (m + 276 + 2 * (g 1).toNatClampNeg)), (4, .ref (m + 276 + 2 * (g 1 + 1).toNatClampNeg)), (5, .ref (m + 276 + 2 * (g 1 + 1 + 1).toNatClampNeg)), (6, .ref (m + 276 + 2 * (g 1 + 1 + 1 + 1).toNatClampNeg)), (7, .ref (m + 276 + 2 * (g 1 + 1 + 1 + 1 + 1).toNatClampNeg)), (8, .int y8_45), (9, .int y9_45)]) (st' := []) (by decide +kernel) rfl (fun cc48 => ?_) (fun cc48 => ?_)
    ·
      have f33 := zleI cc48
      have hend9 := zdq_end hBI9 hA9 (by omega) hR9
      refine zp_seg (pc' := 357) (lv' := [(0, .ref m), (1, .int cols), (2, .int (g 1)), (3, .ref (m + 276 + 2 * (g 1).toNatClampNeg)), (4, .ref (m + 276 + 2 * (g 1 + 1).toNatClampNeg)), (5, .ref (m + 276 + 2 * (g 1 + 1 + 1).toNatClampNeg)), (6, .ref (m + 276 + 2 * (g 1 + 1 + 1 + 1).toNatClampNeg)), (7, .ref (m + 276 + 2 * (g 1 + 1 + 1 + 1 + 1).toNatClampNeg)), (8, .int y8_45), (9, .int y9_45)]) (st' := [.int ((g 1) + 1), .ref m]) [(353, .aload_n 0), (354, .iload_n 2), (355, .iconst 1), (356, .iadd)] (by decide +kernel) rfl ?_
      refine zr_put2 (idx := 21) (k := 1) (fs2 := zMo m (zs g 1 ((g 1) + 1)) r) (by decide +kernel) (by decide +kernel) hmL45 (Nat.le_of_ble_eq_true rfl) rfl rfl rfl ?_
      show zP (d + 1) zq_X16_clear 360 [(0, .ref m), (1, .int cols), (2, .int (g 1)), (3, .ref (m + 276 + 2 * (g 1).toNatClampNeg)), (4, .ref (m + 276 + 2 * (g 1 + 1).toNatClampNeg)), (5, .ref (m + 276 + 2 * (g 1 + 1 + 1).toNatClampNeg)), (6, .ref (m + 276 + 2 * (g 1 + 1 + 1 + 1).toNatClampNeg)), (7, .ref (m + 276 + 2 * (g 1 + 1 + 1 + 1 + 1).toNatClampNeg)), (8, .int y8_45), (9, .int y9_45)] [] (zup wL45 m (.inl (15, zMo m (zs g 1 ((g 1) + 1)) r))) sz 0 0 Post
      obtain ⟨w357, ew357⟩ : ∃ wz9, wz9 = zup wL45 m (.inl (15, zMo m (zs g 1 ((g 1) + 1)) r)) := ⟨_, rfl⟩
      have hsi357 : zSI wL45 w357 := by rw [ew357]; exact zSI.setG hmL45 _ _
      have heq357 : ∀ x, x ≠ m → w357 x = wL45 x := fun x hx => by rw [ew357]; exact zup_n hx
      have hc357 : w357 m = some (.inl (15, zMo m (zs g 1 ((g 1) + 1)) r)) := by rw [ew357]; exact zup_s
      rw [← ew357]
      clear ew357
      refine zp_seg (pc' := 361) (lv' := [(0, .ref m), (1, .int cols), (2, .int (g 1)), (3, .ref (m + 276 + 2 * (g 1).toNatClampNeg)), (4, .ref (m + 276 + 2 * (g 1 + 1).toNatClampNeg)), (5, .ref (m + 276 + 2 * (g 1 + 1 + 1).toNatClampNeg)), (6, .ref (m + 276 + 2 * (g 1 + 1 + 1 + 1).toNatClampNeg)), (7, .ref (m + 276 + 2 * (g 1 + 1 + 1 + 1 + 1).toNatClampNeg)), (8, .int y8_45), (9, .int y9_45)]) (st' := [.ref (m + 276 + 2 * (g 1).toNatClampNeg)]) [(360, .aload_n 3)] (by decide +kernel) rfl ?_
      have hoffend : ∀ x, (x < m ∨ m + 1 ≤ x) ∧ (x < m + 149 ∨ m + 149 + 1 ≤ x) ∧ (x < m + 177 ∨ m + 177 + 1 ≤ x) ∧ (x < m + 178 ∨ m + 178 + 1 ≤ x) ∧ (x < m + 7594 ∨ m + 7594 + 728 ≤ x) ∧ (x < m + 276 + 2 * (g 1).toNatClampNeg ∨ m + 276 + 2 * (g 1).toNatClampNeg + (320 - 2 * (g 1).toNatClampNeg) ≤ x) → w357 x = w x := fun x hx => ((heq357 x (zx_X16_clear_11 hx.1)).trans ((heqL45 x ⟨⟨hx.2.1, hx.2.2.1, hx.2.2.2.1, hx.2.2.2.2.2, hx.2.2.2.2.1⟩, (zx_X16_clear_11 hx.1)⟩).trans ((heq36 x (zx_X16_clear_6 hx.2.2.2.2.2 hgb1)).trans ((heq29 x ⟨hx.1, (zx_X16_clear_10 hx.2.2.2.2.2 hgn1_4 hgb1)⟩).trans ((heq23 x ⟨hx.1, (zx_X16_clear_9 hx.2.2.2.2.2 hgn1_3 hgb1)⟩).trans ((heq17 x ⟨hx.1, (zx_X16_clear_8 hx.2.2.2.2.2 hgn1_2 hgb1)⟩).trans ((heq11 x ⟨hx.1, (zx_X16_clear_7 hx.2.2.2.2.2 hgn1_1 hgb1)⟩).trans (heq6 x ⟨hx.1, (zx_X16_clear_6 hx.2.2.2.2.2 hgb1)⟩))))))))
      have hb34 : zBq w357 m sg9 := hBq9.ag (fun x hx1 hx2 => (heq357 x (zx_X16_clear_12 hx1 hx2)))
      have hb35 : zU w357 (m + 276 + 2 * (g 1).toNatClampNeg) 1000 L9 := hUL9.ag (fun x hx1 hx2 => (heq357 x (zx_X16_clear_13 hx1 hx2 hgb1)))
      have hb36 : w357 (m + 177) = some (.inr (2, 14, .inl ip9)) := (heq357 (m + 177) (zx_X16_clear_14)).trans hAi9
      have hb37 : w357 (m + 178) = some (.inr (0, 14, .inl pv9)) := (heq357 (m + 178) (zx_X16_clear_15)).trans hAp9
      refine zr_retA (by decide +kernel) rfl ?_
      rw [← hPost]; exact ⟨rfl, _, rfl, ip9, pv9, sg9, B9, L9, y8_45.toNatClampNeg, (((((((hsi6.tr hsi11).tr hsi17).tr hsi23).tr hsi29).tr hsi36).tr hsiL45).tr hsi357), hoffend, hc357, (by first | exact hb34 | (have z9 := hb34; simpa using z9)), (by first | exact hb35 | (have z9 := hb35; simpa using z9)), hb36, hb37, (by
            exact zBc.ag hBc9 (by omega) (by omega) (hb34).lt (fun x g1 g2 => (heq357 x (zx_X16_clear_16 g1 g2)))), (by
            exact ⟨hend9.1, hend9.2.1, hend9.2.2⟩), (by
            refine ⟨by omega, fun k hk => ?_⟩
            rcases hip9 k (by omega) with h9 | ⟨h9, h8, h7⟩
            · exact Or.inl h9
            · exact Or.inr ⟨h9, h8, by omega⟩), (by
            exact fun c hc => hal9 c (by omega)), (by
            exact fun h9 => hz9 (by omega)), rfl⟩
    ·
      have f38 := znleI cc48
      refine zp_seg (pc' := 55) (lv' := [(10, .int y8_45), (0, .ref m), (1, .int cols), (2, .int (g 1)), (3, .ref (m + 276 + 2 * (g 1).toNatClampNeg)), (4, .ref (m + 276 + 2 * (g 1 + 1).toNatClampNeg)), (5, .ref (m + 276 + 2 * (g 1 + 1 + 1).toNatClampNeg)), (6, .ref (m + 276 + 2 * (g 1 + 1 + 1 + 1).toNatClampNeg)), (7, .ref (m + 276 + 2 * (g 1 + 1 + 1 + 1 + 1).toNatClampNeg)), (8, .int y8_45), (9, .int y9_45)]) (st' := []) [(51, .iload 8), (53, .istore 10)] (by decide +kernel) rfl ?_
      have hL55 : ∀ (mm55 : Nat) (y10_55 : Int32), (y8_45.toInt ≤ y10_55.toInt) → (y10_55.toInt ≤ (g 48).toInt) → (∀ i, y8_45.toNatClampNeg ≤ i → i < y10_55.toNatClampNeg → zln (B9 i y9_45.toNatClampNeg) = 0) → (40 - y10_55.toInt).toNat < mm55 → zP (d + 1) zq_X16_clear 55 [(0, .ref m), (1, .int cols), (2, .int (g 1)), (3, .ref (m + 276 + 2 * (g 1).toNatClampNeg)), (4, .ref (m + 276 + 2 * (g 1 + 1).toNatClampNeg)), (5, .ref (m + 276 + 2 * (g 1 + 1 + 1).toNatClampNeg)), (6, .ref (m + 276 + 2 * (g 1 + 1 + 1 + 1).toNatClampNeg)), (7, .ref (m + 276 + 2 * (g 1 + 1 + 1 + 1 + 1).toNatClampNeg)), (8, .int y8_45), (9, .int y9_45), (10, .int y10_55)] [] wL45 sz 0 0 Post := by
        intro mm55
        induction mm55 with
        | zero => intros; omega
        | succ mm55 ih55 =>
        intro y10_55 hi55_0 hi55_1 hzr9 hmu55
        have ky10_55 := zrng y10_55
        have hz39 : (y10_55.toNatClampNeg : Int) = y10_55.toInt := znat (by first | omega | decide)
        refine zp_seg (pc' := 58) (lv' := [(0, .ref m), (1, .int cols), (2, .int (g 1)), (3, .ref (m + 276 + 2 * (g 1).toNatClampNeg)), (4, .ref (m + 276 + 2 * (g 1 + 1).toNatClampNeg)), (5, .ref (m + 276 + 2 * (g 1 + 1 + 1).toNatClampNeg)), (6, .ref (m + 276 + 2 * (g 1 + 1 + 1 + 1).toNatClampNeg)), (7, .ref (m + 276 + 2 * (g 1 + 1 + 1 + 1 + 1).toNatClampNeg)), (8, .int y8_45), (9, .int y9_45), (10, .int y10_55)]) (st' := [.ref m, .int y10_55]) [(55, .iload 10), (57, .aload_n 0)] (by decide +kernel) rfl ?_
        refine zr_get (idx := 721) (k := 48) (v := .int (g 48)) (by decide +kernel) (by decide +kernel) hmL45 rfl ?_
        have hJ86 : ∀ (_ : True), (y8_45.toInt ≤ y10_55.toInt) → (y10_55.toInt ≤ (g 48).toInt) → (∀ i, y8_45.toNatClampNeg ≤ i → i < y10_55.toNatClampNeg → zln (B9 i y9_45.toNatClampNeg) = 0) → (y10_55.toInt < (g 48).toInt → zln (B9 y10_55.toNatClampNeg y9_45.toNatClampNeg) ≠ 0) → zP (d + 1) zq_X16_clear 86 [(0, .ref m), (1, .int cols), (2, .int (g 1)), (3, .ref (m + 276 + 2 * (g 1).toNatClampNeg)), (4, .ref (m + 276 + 2 * (g 1 + 1).toNatClampNeg)), (5, .ref (m + 276 + 2 * (g 1 + 1 + 1).toNatClampNeg)), (6, .ref (m + 276 + 2 * (g 1 + 1 + 1 + 1).toNatClampNeg)), (7, .ref (m + 276 + 2 * (g 1 + 1 + 1 + 1 + 1).toNatClampNeg)), (8, .int y8_45), (9, .int y9_45), (10, .int y10_55)] [] wL45 sz 0 0 Post := by
          intro _ hi86_0 hi86_1 hzr8 hrw9
          refine zp_seg (pc' := 87) (lv' := [(0, .ref m), (1, .int cols), (2, .int (g 1)), (3, .ref (m + 276 + 2 * (g 1).toNatClampNeg)), (4, .ref (m + 276 + 2 * (g 1 + 1).toNatClampNeg)), (5, .ref (m + 276 + 2 * (g 1 + 1 + 1).toNatClampNeg)), (6, .ref (m + 276 + 2 * (g 1 + 1 + 1 + 1).toNatClampNeg)), (7, .ref (m + 276 + 2 * (g 1 + 1 + 1 + 1 + 1).toNatClampNeg)), (8, .int y8_45), (9, .int y9_45), (10, .int y10_55)]) (st' := [.ref m]) [(86, .aload_n 0)] (by decide +kernel) rfl ?_
          refine zr_get (idx := 493) (k := 46) (v := .ref (m + 177)) (by decide +kernel) (by decide +kernel) hmL45 rfl ?_
          refine zp_seg (pc' := 95) (lv' := [(0, .ref m), (1, .int cols), (2, .int (g 1)), (3, .ref (m + 276 + 2 * (g 1).toNatClampNeg)), (4, .ref (m + 276 + 2 * (g 1 + 1).toNatClampNeg)), (5, .ref (m + 276 + 2 * (g 1 + 1 + 1).toNatClampNeg)), (6, .ref (m + 276 + 2 * (g 1 + 1 + 1 + 1).toNatClampNeg)), (7, .ref (m + 276 + 2 * (g 1 + 1 + 1 + 1 + 1).toNatClampNeg)), (8, .int y8_45), (9, .int y9_45), (10, .int y10_55)]) (st' := [.ref m, .int y10_55, .int y9_45, .ref (m + 177)]) [(90, .iload 9), (92, .iload 10), (94, .aload_n 0)] (by decide +kernel) rfl ?_
          refine zr_get (idx := 721) (k := 48) (v := .int (g 48)) (by decide +kernel) (by decide +kernel) hmL45 rfl ?_
          have hJ106 : ∀ (z0_106 : Int32), ((z0_106 = 0 ∨ z0_106 = 1)) → ((z0_106 = 1 → y10_55.toInt < (g 48).toInt) ∧ (z0_106 = 0 → (g 48).toInt ≤ y10_55.toInt)) → zP (d + 1) zq_X16_clear 106 [(0, .ref m), (1, .int cols), (2, .int (g 1)), (3, .ref (m + 276 + 2 * (g 1).toNatClampNeg)), (4, .ref (m + 276 + 2 * (g 1 + 1).toNatClampNeg)), (5, .ref (m + 276 + 2 * (g 1 + 1 + 1).toNatClampNeg)), (6, .ref (m + 276 + 2 * (g 1 + 1 + 1 + 1).toNatClampNeg)), (7, .ref (m + 276 + 2 * (g 1 + 1 + 1 + 1 + 1).toNatClampNeg)), (8, .int y8_45), (9, .int y9_45), (10, .int y10_55)] [.int z0_106, .int y9_45, .ref (m + 177)] wL45 sz 0 0 Post := by
            intro z0_106 hi106_0 hrow9
            have kz0_106 := zrng z0_106
            refine zr_zast (by decide +kernel) hAi9 (zin (by first | omega | decide) (by first | omega | decide)) ?_
            show zP (d + 1) zq_X16_clear 107 [(0, .ref m), (1, .int cols), (2, .int (g 1)), (3, .ref (m + 276 + 2 * (g 1).toNatClampNeg)), (4, .ref (m + 276 + 2 * (g 1 + 1).toNatClampNeg)), (5, .ref (m + 276 + 2 * (g 1 + 1 + 1).toNatClampNeg)), (6, .ref (m + 276 + 2 * (g 1 + 1 + 1 + 1).toNatClampNeg)), (7, .ref (m + 276 + 2 * (g 1 + 1 + 1 + 1 + 1).toNatClampNeg)), (8, .int y8_45), (9, .int y9_45), (10, .int y10_55)] [] (zup wL45 (m + 177) (.inr (2, 14, .inl (upd ip9 (y9_45.toNatClampNeg) (vp_nar .boolean z0_106))))) sz 0 0 Post
            obtain ⟨w106, ew106⟩ : ∃ wz9, wz9 = zup wL45 (m + 177) (.inr (2, 14, .inl (upd ip9 (y9_45.toNatClampNeg) (vp_nar .boolean z0_106)))) := ⟨_, rfl⟩
            have hsi106 : zSI wL45 w106 := by rw [ew106]; exact zSI.arr _ hAi9
            have heq106 : ∀ x, x ≠ m + 177 → w106 x = wL45 x := fun x hx => by rw [ew106]; exact zup_n hx
            have hc106 : w106 (m + 177) = some (.inr (2, 14, .inl (upd ip9 (y9_45.toNatClampNeg) (vp_nar .boolean z0_106)))) := by rw [ew106]; exact zup_s
            rw [← ew106]
            clear ew106
            refine zp_seg (pc' := 108) (lv' := [(0, .ref m), (1, .int cols), (2, .int (g 1)), (3, .ref (m + 276 + 2 * (g 1).toNatClampNeg)), (4, .ref (m + 276 + 2 * (g 1 + 1).toNatClampNeg)), (5, .ref (m + 276 + 2 * (g 1 + 1 + 1).toNatClampNeg)), (6, .ref (m + 276 + 2 * (g 1 + 1 + 1 + 1).toNatClampNeg)), (7, .ref (m + 276 + 2 * (g 1 + 1 + 1 + 1 + 1).toNatClampNeg)), (8, .int y8_45), (9, .int y9_45), (10, .int y10_55)]) (st' := [.ref m]) [(107, .aload_n 0)] (by decide +kernel) rfl ?_
            have hb40 : w106 m = some (.inl (15, zMo m (zs g 1 (g 1 + 1 + 1 + 1 + 1 + 1)) r)) := (heq106 m (zx_X16_clear_17)).trans hmL45
            refine zr_get (idx := 493) (k := 46) (v := .ref (m + 177)) (by decide +kernel) (by decide +kernel) hb40 rfl ?_
            refine zp_seg (pc' := 113) (lv' := [(0, .ref m), (1, .int cols), (2, .int (g 1)), (3, .ref (m + 276 + 2 * (g 1).toNatClampNeg)), (4, .ref (m + 276 + 2 * (g 1 + 1).toNatClampNeg)), (5, .ref (m + 276 + 2 * (g 1 + 1 + 1).toNatClampNeg)), (6, .ref (m + 276 + 2 * (g 1 + 1 + 1 + 1).toNatClampNeg)), (7, .ref (m + 276 + 2 * (g 1 + 1 + 1 + 1 + 1).toNatClampNeg)), (8, .int y8_45), (9, .int y9_45), (10, .int y10_55)]) (st' := [.int y9_45, .ref (m + 177)]) [(111, .iload 9)] (by decide +kernel) rfl ?_
            refine zr_bald (by decide +kernel) hc106 (by decide) (zin (by first | omega | decide) (by first | omega | decide)) ?_
            obtain ⟨x113, ex113⟩ : ∃ x9, x9 = (upd ip9 (y9_45.toNatClampNeg) (vp_nar .boolean z0_106)) (y9_45.toNatClampNeg) := ⟨_, rfl⟩
            rw [← ex113]
            have kx113 := zrng x113
            have hx9 : x113 = z0_106 := by rw [ex113, zupd_s]; exact zvbn hi106_0
            refine zp_if (i := .ifCond .ne 6) (c := ¬ x113 = 0) (t := 120) (e := 117) (lv' := [(0, .ref m), (1, .int cols), (2, .int (g 1)), (3, .ref (m + 276 + 2 * (g 1).toNatClampNeg)), (4, .ref (m + 276 + 2 * (g 1 + 1).toNatClampNeg)), (5, .ref (m + 276 + 2 * (g 1 + 1 + 1).toNatClampNeg)), (6, .ref (m + 276 + 2 * (g 1 + 1 + 1 + 1).toNatClampNeg)), (7, .ref (m + 276 + 2 * (g 1 + 1 + 1 + 1 + 1).toNatClampNeg)), (8, .int y8_45), (9, .int y9_45), (10, .int y10_55)]) (st' := []) (by decide +kernel) rfl (fun cc114 => ?_) (fun cc114 => ?_)
            ·
              have f42 := zneI cc114
              rw [show (0 : Int32).toInt = 0 from by decide] at f42
              have hpv9 : z0_106 = 1 := by
                rcases hi106_0 with e | e
                · exact absurd (hx9.trans e) cc114
                · exact e
              have hrn9 := hrow9.1 hpv9
              have hSn9 := hrw9 hrn9
              have hR8 := hR9 y8_45.toNatClampNeg (by omega) (by omega)
              refine zp_seg (pc' := 121) (lv' := [(0, .ref m), (1, .int cols), (2, .int (g 1)), (3, .ref (m + 276 + 2 * (g 1).toNatClampNeg)), (4, .ref (m + 276 + 2 * (g 1 + 1).toNatClampNeg)), (5, .ref (m + 276 + 2 * (g 1 + 1 + 1).toNatClampNeg)), (6, .ref (m + 276 + 2 * (g 1 + 1 + 1 + 1).toNatClampNeg)), (7, .ref (m + 276 + 2 * (g 1 + 1 + 1 + 1 + 1).toNatClampNeg)), (8, .int y8_45), (9, .int y9_45), (10, .int y10_55)]) (st' := [.ref m]) [(120, .aload_n 0)] (by decide +kernel) rfl ?_
              refine zr_get (idx := 496) (k := 47) (v := .ref (m + 178)) (by decide +kernel) (by decide +kernel) hb40 rfl ?_
              refine zp_seg (pc' := 128) (lv' := [(0, .ref m), (1, .int cols), (2, .int (g 1)), (3, .ref (m + 276 + 2 * (g 1).toNatClampNeg)), (4, .ref (m + 276 + 2 * (g 1 + 1).toNatClampNeg)), (5, .ref (m + 276 + 2 * (g 1 + 1 + 1).toNatClampNeg)), (6, .ref (m + 276 + 2 * (g 1 + 1 + 1 + 1).toNatClampNeg)), (7, .ref (m + 276 + 2 * (g 1 + 1 + 1 + 1 + 1).toNatClampNeg)), (8, .int y8_45), (9, .int y9_45), (10, .int y10_55)]) (st' := [.int y8_45, .int y9_45, .ref (m + 178)]) [(124, .iload 9), (126, .iload 8)] (by decide +kernel) rfl ?_
              have hb43 : w106 (m + 178) = some (.inr (0, 14, .inl pv9)) := (heq106 (m + 178) (zx_X16_clear_18)).trans hAp9
              refine zr_iast (by decide +kernel) hb43 (zin (by first | omega | decide) (by first | omega | decide)) ?_
              show zP (d + 1) zq_X16_clear 129 [(0, .ref m), (1, .int cols), (2, .int (g 1)), (3, .ref (m + 276 + 2 * (g 1).toNatClampNeg)), (4, .ref (m + 276 + 2 * (g 1 + 1).toNatClampNeg)), (5, .ref (m + 276 + 2 * (g 1 + 1 + 1).toNatClampNeg)), (6, .ref (m + 276 + 2 * (g 1 + 1 + 1 + 1).toNatClampNeg)), (7, .ref (m + 276 + 2 * (g 1 + 1 + 1 + 1 + 1).toNatClampNeg)), (8, .int y8_45), (9, .int y9_45), (10, .int y10_55)] [] (zup w106 (m + 178) (.inr (0, 14, .inl (upd pv9 (y9_45.toNatClampNeg) y8_45)))) sz 0 0 Post
              obtain ⟨w128, ew128⟩ : ∃ wz9, wz9 = zup w106 (m + 178) (.inr (0, 14, .inl (upd pv9 (y9_45.toNatClampNeg) y8_45))) := ⟨_, rfl⟩
              have hsi128 : zSI w106 w128 := by rw [ew128]; exact zSI.arr _ hb43
              have heq128 : ∀ x, x ≠ m + 178 → w128 x = w106 x := fun x hx => by rw [ew128]; exact zup_n hx
              have hc128 : w128 (m + 178) = some (.inr (0, 14, .inl (upd pv9 (y9_45.toNatClampNeg) y8_45))) := by rw [ew128]; exact zup_s
              rw [← ew128]
              clear ew128
              refine zp_seg (pc' := 130) (lv' := [(0, .ref m), (1, .int cols), (2, .int (g 1)), (3, .ref (m + 276 + 2 * (g 1).toNatClampNeg)), (4, .ref (m + 276 + 2 * (g 1 + 1).toNatClampNeg)), (5, .ref (m + 276 + 2 * (g 1 + 1 + 1).toNatClampNeg)), (6, .ref (m + 276 + 2 * (g 1 + 1 + 1 + 1).toNatClampNeg)), (7, .ref (m + 276 + 2 * (g 1 + 1 + 1 + 1 + 1).toNatClampNeg)), (8, .int y8_45), (9, .int y9_45), (10, .int y10_55)]) (st' := [.ref m]) [(129, .aload_n 0)] (by decide +kernel) rfl ?_
              have hb44 : w128 m = some (.inl (15, zMo m (zs g 1 (g 1 + 1 + 1 + 1 + 1 + 1)) r)) := (heq128 m (zx_X16_clear_19)).trans hb40
              refine zr_get (idx := 487) (k := 44) (v := .ref (m + 149)) (by decide +kernel) (by decide +kernel) hb44 rfl ?_
              refine zp_seg (pc' := 135) (lv' := [(0, .ref m), (1, .int cols), (2, .int (g 1)), (3, .ref (m + 276 + 2 * (g 1).toNatClampNeg)), (4, .ref (m + 276 + 2 * (g 1 + 1).toNatClampNeg)), (5, .ref (m + 276 + 2 * (g 1 + 1 + 1).toNatClampNeg)), (6, .ref (m + 276 + 2 * (g 1 + 1 + 1 + 1).toNatClampNeg)), (7, .ref (m + 276 + 2 * (g 1 + 1 + 1 + 1 + 1).toNatClampNeg)), (8, .int y8_45), (9, .int y9_45), (10, .int y10_55)]) (st' := [.int y10_55, .ref (m + 149)]) [(133, .iload 10)] (by decide +kernel) rfl ?_
              have hb45 : zBq w128 m sg9 := hBq9.ag (fun x hx1 hx2 => ((heq128 x (zx_X16_clear_21 hx1 hx2)).trans (heq106 x (zx_X16_clear_20 hx1 hx2))))
              obtain ⟨⟨f46, hg47, hg48⟩, -⟩ := id hb45
              obtain ⟨s135, hs135⟩ : ∃ s9, s9 = sg9 (y10_55.toNatClampNeg) := ⟨_, rfl⟩
              have hls135 : s135 < 26 := by rw [hs135]; exact hb45.lt _ (by omega)
              refine zr_aald (v := .ref (m + 150 + s135)) (by decide +kernel) hg47 (by decide) (zin (by first | omega | decide) (by first | omega | decide)) (by rw [hg48 _ (by omega), hs135]; rfl) ?_
              have hrw49 := hb45.row s135 hls135
              refine zp_seg (pc' := 139) (lv' := [(11, .ref (m + 150 + s135)), (0, .ref m), (1, .int cols), (2, .int (g 1)), (3, .ref (m + 276 + 2 * (g 1).toNatClampNeg)), (4, .ref (m + 276 + 2 * (g 1 + 1).toNatClampNeg)), (5, .ref (m + 276 + 2 * (g 1 + 1 + 1).toNatClampNeg)), (6, .ref (m + 276 + 2 * (g 1 + 1 + 1 + 1).toNatClampNeg)), (7, .ref (m + 276 + 2 * (g 1 + 1 + 1 + 1 + 1).toNatClampNeg)), (8, .int y8_45), (9, .int y9_45), (10, .int y10_55)]) (st' := [.ref m]) [(136, .astore 11), (138, .aload_n 0)] (by decide +kernel) rfl ?_
              refine zr_get (idx := 487) (k := 44) (v := .ref (m + 149)) (by decide +kernel) (by decide +kernel) hb44 rfl ?_
              refine zp_seg (pc' := 145) (lv' := [(11, .ref (m + 150 + s135)), (0, .ref m), (1, .int cols), (2, .int (g 1)), (3, .ref (m + 276 + 2 * (g 1).toNatClampNeg)), (4, .ref (m + 276 + 2 * (g 1 + 1).toNatClampNeg)), (5, .ref (m + 276 + 2 * (g 1 + 1 + 1).toNatClampNeg)), (6, .ref (m + 276 + 2 * (g 1 + 1 + 1 + 1).toNatClampNeg)), (7, .ref (m + 276 + 2 * (g 1 + 1 + 1 + 1 + 1).toNatClampNeg)), (8, .int y8_45), (9, .int y9_45), (10, .int y10_55)]) (st' := [.ref m, .int y10_55, .ref (m + 149)]) [(142, .iload 10), (144, .aload_n 0)] (by decide +kernel) rfl ?_
              refine zr_get (idx := 487) (k := 44) (v := .ref (m + 149)) (by decide +kernel) (by decide +kernel) hb44 rfl ?_
              refine zp_seg (pc' := 150) (lv' := [(11, .ref (m + 150 + s135)), (0, .ref m), (1, .int cols), (2, .int (g 1)), (3, .ref (m + 276 + 2 * (g 1).toNatClampNeg)), (4, .ref (m + 276 + 2 * (g 1 + 1).toNatClampNeg)), (5, .ref (m + 276 + 2 * (g 1 + 1 + 1).toNatClampNeg)), (6, .ref (m + 276 + 2 * (g 1 + 1 + 1 + 1).toNatClampNeg)), (7, .ref (m + 276 + 2 * (g 1 + 1 + 1 + 1 + 1).toNatClampNeg)), (8, .int y8_45), (9, .int y9_45), (10, .int y10_55)]) (st' := [.int y8_45, .ref (m + 149), .int y10_55, .ref (m + 149)]) [(148, .iload 8)] (by decide +kernel) rfl ?_
              obtain ⟨⟨f50, hg51, hg52⟩, -⟩ := id hb45
              obtain ⟨s150, hs150⟩ : ∃ s9, s9 = sg9 (y8_45.toNatClampNeg) := ⟨_, rfl⟩
              have hls150 : s150 < 26 := by rw [hs150]; exact hb45.lt _ (by omega)
              refine zr_aald (v := .ref (m + 150 + s150)) (by decide +kernel) hg51 (by decide) (zin (by first | omega | decide) (by first | omega | decide)) (by rw [hg52 _ (by omega), hs150]; rfl) ?_
              have hrw53 := hb45.row s150 hls150
              have hBqB := hb45
              have hVB := hg51
              refine zr_aastA (by decide +kernel) hg51 hrw53 (Or.inr ⟨rfl, rfl⟩) (zin (by first | omega | decide) (by first | omega | decide)) ?_
              show zP (d + 1) zq_X16_clear 152 [(11, .ref (m + 150 + s135)), (0, .ref m), (1, .int cols), (2, .int (g 1)), (3, .ref (m + 276 + 2 * (g 1).toNatClampNeg)), (4, .ref (m + 276 + 2 * (g 1 + 1).toNatClampNeg)), (5, .ref (m + 276 + 2 * (g 1 + 1 + 1).toNatClampNeg)), (6, .ref (m + 276 + 2 * (g 1 + 1 + 1 + 1).toNatClampNeg)), (7, .ref (m + 276 + 2 * (g 1 + 1 + 1 + 1 + 1).toNatClampNeg)), (8, .int y8_45), (9, .int y9_45), (10, .int y10_55)] [] (zup w128 (m + 149) (.inr (8, 26, .inr (va_up f50 (y10_55.toNatClampNeg) (some (m + 150 + s150)))))) sz 0 0 Post
              obtain ⟨w151, ew151⟩ : ∃ wz9, wz9 = zup w128 (m + 149) (.inr (8, 26, .inr (va_up f50 (y10_55.toNatClampNeg) (some (m + 150 + s150))))) := ⟨_, rfl⟩
              have hsi151 : zSI w128 w151 := by rw [ew151]; exact zSI.refs _ hg51 (by decide)
              have heq151 : ∀ x, x ≠ m + 149 → w151 x = w128 x := fun x hx => by rw [ew151]; exact zup_n hx
              have hc151 : w151 (m + 149) = some (.inr (8, 26, .inr (va_up f50 (y10_55.toNatClampNeg) (some (m + 150 + s150))))) := by rw [ew151]; exact zup_s
              rw [← ew151]
              clear ew151
              refine zp_seg (pc' := 153) (lv' := [(11, .ref (m + 150 + s135)), (0, .ref m), (1, .int cols), (2, .int (g 1)), (3, .ref (m + 276 + 2 * (g 1).toNatClampNeg)), (4, .ref (m + 276 + 2 * (g 1 + 1).toNatClampNeg)), (5, .ref (m + 276 + 2 * (g 1 + 1 + 1).toNatClampNeg)), (6, .ref (m + 276 + 2 * (g 1 + 1 + 1 + 1).toNatClampNeg)), (7, .ref (m + 276 + 2 * (g 1 + 1 + 1 + 1 + 1).toNatClampNeg)), (8, .int y8_45), (9, .int y9_45), (10, .int y10_55)]) (st' := [.ref m]) [(152, .aload_n 0)] (by decide +kernel) rfl ?_
              have hb54 : w151 m = some (.inl (15, zMo m (zs g 1 (g 1 + 1 + 1 + 1 + 1 + 1)) r)) := (heq151 m (zx_X16_clear_22)).trans hb44
              refine zr_get (idx := 487) (k := 44) (v := .ref (m + 149)) (by decide +kernel) (by decide +kernel) hb54 rfl ?_
              refine zp_seg (pc' := 160) (lv' := [(11, .ref (m + 150 + s135)), (0, .ref m), (1, .int cols), (2, .int (g 1)), (3, .ref (m + 276 + 2 * (g 1).toNatClampNeg)), (4, .ref (m + 276 + 2 * (g 1 + 1).toNatClampNeg)), (5, .ref (m + 276 + 2 * (g 1 + 1 + 1).toNatClampNeg)), (6, .ref (m + 276 + 2 * (g 1 + 1 + 1 + 1).toNatClampNeg)), (7, .ref (m + 276 + 2 * (g 1 + 1 + 1 + 1 + 1).toNatClampNeg)), (8, .int y8_45), (9, .int y9_45), (10, .int y10_55)]) (st' := [.ref (m + 150 + s135), .int y8_45, .ref (m + 149)]) [(156, .iload 8), (158, .aload 11)] (by decide +kernel) rfl ?_
              have hb55 : w151 (m + 150 + s135) = some (.inr (4, 14, .inr ((fun i => if i < 14 then some (m + 7594 + 28 * s135 + 2 * i) else none)))) := (heq151 (m + 150 + s135) (zx_X16_clear_23 hls135)).trans hrw49
              refine zr_aastA (by decide +kernel) hc151 hb55 (Or.inr ⟨rfl, rfl⟩) (zin (by first | omega | decide) (by first | omega | decide)) ?_
              show zP (d + 1) zq_X16_clear 161 [(11, .ref (m + 150 + s135)), (0, .ref m), (1, .int cols), (2, .int (g 1)), (3, .ref (m + 276 + 2 * (g 1).toNatClampNeg)), (4, .ref (m + 276 + 2 * (g 1 + 1).toNatClampNeg)), (5, .ref (m + 276 + 2 * (g 1 + 1 + 1).toNatClampNeg)), (6, .ref (m + 276 + 2 * (g 1 + 1 + 1 + 1).toNatClampNeg)), (7, .ref (m + 276 + 2 * (g 1 + 1 + 1 + 1 + 1).toNatClampNeg)), (8, .int y8_45), (9, .int y9_45), (10, .int y10_55)] [] (zup w151 (m + 149) (.inr (8, 26, .inr (va_up (va_up f50 (y10_55.toNatClampNeg) (some (m + 150 + s150))) (y8_45.toNatClampNeg) (some (m + 150 + s135)))))) sz 0 0 Post
              obtain ⟨w160, ew160⟩ : ∃ wz9, wz9 = zup w151 (m + 149) (.inr (8, 26, .inr (va_up (va_up f50 (y10_55.toNatClampNeg) (some (m + 150 + s150))) (y8_45.toNatClampNeg) (some (m + 150 + s135))))) := ⟨_, rfl⟩
              have hsi160 : zSI w151 w160 := by rw [ew160]; exact zSI.refs _ hc151 (by decide)
              have heq160 : ∀ x, x ≠ m + 149 → w160 x = w151 x := fun x hx => by rw [ew160]; exact zup_n hx
              have hc160 : w160 (m + 149) = some (.inr (8, 26, .inr (va_up (va_up f50 (y10_55.toNatClampNeg) (some (m + 150 + s150))) (y8_45.toNatClampNeg) (some (m + 150 + s135))))) := by rw [ew160]; exact zup_s
              rw [← ew160]
              clear ew160
              have hVC := hc160
              rw [hs150, hs135] at hVC
              have hBqS : zBq w160 m (fun i => sg9 (zwp y8_45.toNatClampNeg y10_55.toNatClampNeg i)) := zBq.sw hBqB hVB (by omega) (by omega) (fun x hx => (heq160 x hx).trans (heq151 x hx)) hVC
              have hBcS : zBc w160 m (fun i => sg9 (zwp y8_45.toNatClampNeg y10_55.toNatClampNeg i)) (g 48).toNatClampNeg cols.toNatClampNeg (fun i => B9 (zwp y8_45.toNatClampNeg y10_55.toNatClampNeg i)) := zBc.ag (zBc.sw hBc9 (by omega) (by omega)) (by omega) (by omega) hBqS.lt (fun x g1 g2 => ((heq160 x (zx_X16_clear_26 g1 g2)).trans ((heq151 x (zx_X16_clear_26 g1 g2)).trans ((heq128 x (zx_X16_clear_25 g1 g2)).trans (heq106 x (zx_X16_clear_24 g1 g2))))))
              have hBIS := @zBI_p zA1 zA1R _ _ _ _ _ _ _ hBI9 (zwp y8_45.toNatClampNeg y10_55.toNatClampNeg) (fun i hi => zwp_lo (Nat.le_refl _) (by omega) hi) (fun i h1 h2 => ⟨zwp_ge (Nat.le_refl _) (by omega) h1, zwp_lt (by omega) (by omega) h2⟩)
              have hAS : ∀ i k, i < (g 48).toNatClampNeg → k < cols.toNatClampNeg → zdq ((fun i => A9 (zwp y8_45.toNatClampNeg y10_55.toNatClampNeg i)) i k) dg := fun i k hi hk => hA9 _ k (zwp_lt (by omega) (by omega) hi) hk
              have hSS : zln ((fun i => B9 (zwp y8_45.toNatClampNeg y10_55.toNatClampNeg i)) y8_45.toNatClampNeg y9_45.toNatClampNeg) ≠ 0 := by
                show zln (B9 (zwp y8_45.toNatClampNeg y10_55.toNatClampNeg y8_45.toNatClampNeg) y9_45.toNatClampNeg) ≠ 0
                rw [zwp_a]; exact hSn9
              generalize (fun i => sg9 (zwp y8_45.toNatClampNeg y10_55.toNatClampNeg i)) = sg1 at hBqS hBcS
              generalize (fun i => B9 (zwp y8_45.toNatClampNeg y10_55.toNatClampNeg i)) = B1 at hBcS hBIS hSS
              generalize (fun i => A9 (zwp y8_45.toNatClampNeg y10_55.toNatClampNeg i)) = A1 at hBIS hAS
              have hdq1 := zdq_BI2 hBIS hAS hR8
              have hL01 : 0 < zln L9 := zln_nz hBIS.2.2.1
              refine zp_seg (pc' := 164) (lv' := [(11, .ref (m + 150 + s135)), (0, .ref m), (1, .int cols), (2, .int (g 1)), (3, .ref (m + 276 + 2 * (g 1).toNatClampNeg)), (4, .ref (m + 276 + 2 * (g 1 + 1).toNatClampNeg)), (5, .ref (m + 276 + 2 * (g 1 + 1 + 1).toNatClampNeg)), (6, .ref (m + 276 + 2 * (g 1 + 1 + 1 + 1).toNatClampNeg)), (7, .ref (m + 276 + 2 * (g 1 + 1 + 1 + 1 + 1).toNatClampNeg)), (8, .int y8_45), (9, .int y9_45), (10, .int y10_55)]) (st' := [.ref m, .ref (m + 276 + 2 * (g 1 + 1 + 1 + 1 + 1).toNatClampNeg)]) [(161, .aload 7), (163, .aload_n 0)] (by decide +kernel) rfl ?_
              have hb56 : w160 m = some (.inl (15, zMo m (zs g 1 (g 1 + 1 + 1 + 1 + 1 + 1)) r)) := (heq160 m (zx_X16_clear_22)).trans hb54
              refine zr_get (idx := 487) (k := 44) (v := .ref (m + 149)) (by decide +kernel) (by decide +kernel) hb56 rfl ?_
              refine zp_seg (pc' := 169) (lv' := [(11, .ref (m + 150 + s135)), (0, .ref m), (1, .int cols), (2, .int (g 1)), (3, .ref (m + 276 + 2 * (g 1).toNatClampNeg)), (4, .ref (m + 276 + 2 * (g 1 + 1).toNatClampNeg)), (5, .ref (m + 276 + 2 * (g 1 + 1 + 1).toNatClampNeg)), (6, .ref (m + 276 + 2 * (g 1 + 1 + 1 + 1).toNatClampNeg)), (7, .ref (m + 276 + 2 * (g 1 + 1 + 1 + 1 + 1).toNatClampNeg)), (8, .int y8_45), (9, .int y9_45), (10, .int y10_55)]) (st' := [.int y8_45, .ref (m + 149), .ref (m + 276 + 2 * (g 1 + 1 + 1 + 1 + 1).toNatClampNeg)]) [(167, .iload 8)] (by decide +kernel) rfl ?_
              obtain ⟨⟨f57, hg58, hg59⟩, -⟩ := id hBqS
              obtain ⟨s169, hs169⟩ : ∃ s9, s9 = sg1 (y8_45.toNatClampNeg) := ⟨_, rfl⟩
              have hls169 : s169 < 26 := by rw [hs169]; exact hBqS.lt _ (by omega)
              refine zr_aald (v := .ref (m + 150 + s169)) (by decide +kernel) hg58 (by decide) (zin (by first | omega | decide) (by first | omega | decide)) (by rw [hg59 _ (by omega), hs169]; rfl) ?_
              have hrw60 := hBqS.row s169 hls169
              refine zp_seg (pc' := 172) (lv' := [(11, .ref (m + 150 + s135)), (0, .ref m), (1, .int cols), (2, .int (g 1)), (3, .ref (m + 276 + 2 * (g 1).toNatClampNeg)), (4, .ref (m + 276 + 2 * (g 1 + 1).toNatClampNeg)), (5, .ref (m + 276 + 2 * (g 1 + 1 + 1).toNatClampNeg)), (6, .ref (m + 276 + 2 * (g 1 + 1 + 1 + 1).toNatClampNeg)), (7, .ref (m + 276 + 2 * (g 1 + 1 + 1 + 1 + 1).toNatClampNeg)), (8, .int y8_45), (9, .int y9_45), (10, .int y10_55)]) (st' := [.int y9_45, .ref (m + 150 + s169), .ref (m + 276 + 2 * (g 1 + 1 + 1 + 1 + 1).toNatClampNeg)]) [(170, .iload 9)] (by decide +kernel) rfl ?_
              obtain ⟨t172, ht172⟩ : ∃ t9, t9 = (y9_45.toNatClampNeg) := ⟨_, rfl⟩
              have hlt172 : t172 < 14 := by rw [ht172]; omega
              refine zr_aald (v := .ref (m + 7594 + 28 * s169 + 2 * t172)) (by decide +kernel) hrw60 (by decide) (zin (by first | omega | decide) (by first | omega | decide)) (by rw [ht172]; exact zbq_at ⟨by omega, by omega⟩) ?_
              have hu173 : zU w160 (m + 7594 + 28 * s169 + 2 * t172) 1000 (B1 y8_45.toNatClampNeg y9_45.toNatClampNeg) := by rw [hs169, ht172]; exact hBcS y8_45.toNatClampNeg y9_45.toNatClampNeg (by omega) (by omega)
              replace hu173 := hu173.ag (w' := w160) (fun x g1 g2 => rfl)
              have hS7 := hdq1.2 y8_45.toNatClampNeg y9_45.toNatClampNeg (by omega) (by omega)
              have hb61 := hUo4.si (((hsi106.tr hsi128).tr hsi151).tr hsi160)
              refine zr_callS (idx := 62) (j := 264) (by decide +kernel) (by decide +kernel) (by decide) (show zMe 264 = some zq_X16_set from rfl) rfl rfl (Nat.le_of_ble_eq_true rfl) rfl rfl (Nat.le_of_ble_eq_true rfl) (Nat.le_of_ble_eq_true rfl) (c_X16_set (w := w160) (m + 276 + 2 * (g 1 + 1 + 1 + 1 + 1).toNatClampNeg) (m + 7594 + 28 * s169 + 2 * t172) hb61 hu173 (by first | omega | decide | assumption | exact zr1_1 | exact zr1_0 | fail "num") (by first | omega | decide | assumption | exact zr1_1 | exact zr1_0 | fail "num")) (by omega) (fun v173 w173 hp173 => ?_)
              obtain ⟨hsi173, heq173, hp173_0, rfl⟩ := hp173
              show zP _ _ _ _ [] _ _ _ _ _
              refine zp_seg (pc' := 179) (lv' := [(12, .int 0), (11, .ref (m + 150 + s135)), (0, .ref m), (1, .int cols), (2, .int (g 1)), (3, .ref (m + 276 + 2 * (g 1).toNatClampNeg)), (4, .ref (m + 276 + 2 * (g 1 + 1).toNatClampNeg)), (5, .ref (m + 276 + 2 * (g 1 + 1 + 1).toNatClampNeg)), (6, .ref (m + 276 + 2 * (g 1 + 1 + 1 + 1).toNatClampNeg)), (7, .ref (m + 276 + 2 * (g 1 + 1 + 1 + 1 + 1).toNatClampNeg)), (8, .int y8_45), (9, .int y9_45), (10, .int y10_55)]) (st' := []) [(176, .iconst 0), (177, .istore 12)] (by decide +kernel) rfl ?_
              have hb62 : w173 m = some (.inl (15, zMo m (zs g 1 (g 1 + 1 + 1 + 1 + 1 + 1)) r)) := (heq173 m (zx_X16_clear_27 hgn1_4 hgb1)).trans hb56
              have hL179 : ∀ (mm179 : Nat) (wL179 : zM) (y12_179 : Int32) (B2 : Nat → Nat → zA1), (zSI w173 wL179) → (∀ x, ((x < m + 276 + 2 * (g 1 + 1).toNatClampNeg ∨ m + 276 + 2 * (g 1 + 1).toNatClampNeg + 6 ≤ x) ∧ (x < m + 276 + 2 * (g 1 + 1 + 1 + 1 + 1 + 1).toNatClampNeg ∨ m + 276 + 2 * (g 1 + 1 + 1 + 1 + 1 + 1).toNatClampNeg + (320 - 2 * (g 1 + 1 + 1 + 1 + 1 + 1).toNatClampNeg) ≤ x) ∧ (x < m + 7594 ∨ m + 7594 + 728 ≤ x)) ∧ x ≠ m → wL179 x = w173 x) → (0 ≤ y12_179.toInt) → (y12_179.toInt ≤ (g 48).toInt) → (zUo wL179 (m + 276 + 2 * (g 1 + 1).toNatClampNeg) 1000) → (zUo wL179 (m + 276 + 2 * (g 1 + 1 + 1).toNatClampNeg) 1000) → (zUo wL179 (m + 276 + 2 * (g 1 + 1 + 1 + 1).toNatClampNeg) 1000) → (wL179 m = some (.inl (15, zMo m (zs g 1 (g 1 + 1 + 1 + 1 + 1 + 1)) r))) → (zBc wL179 m sg1 (g 48).toNatClampNeg cols.toNatClampNeg B2) → ((∀ k, k < cols.toNatClampNeg → B2 y8_45.toNatClampNeg k = B1 y8_45.toNatClampNeg k) ∧ ∀ i k, i < (g 48).toNatClampNeg → i ≠ y8_45.toNatClampNeg → k < cols.toNatClampNeg → (i < y12_179.toNatClampNeg → zaM L9 (B2 i k) = zaS (zaM (B1 y8_45.toNatClampNeg y9_45.toNatClampNeg) (B1 i k)) (zaM (B1 i y9_45.toNatClampNeg) (B1 y8_45.toNatClampNeg k))) ∧ (y12_179.toNatClampNeg ≤ i → B2 i k = B1 i k)) → (40 - y12_179.toInt).toNat < mm179 → zP (d + 1) zq_X16_clear 179 [(0, .ref m), (1, .int cols), (2, .int (g 1)), (3, .ref (m + 276 + 2 * (g 1).toNatClampNeg)), (4, .ref (m + 276 + 2 * (g 1 + 1).toNatClampNeg)), (5, .ref (m + 276 + 2 * (g 1 + 1 + 1).toNatClampNeg)), (6, .ref (m + 276 + 2 * (g 1 + 1 + 1 + 1).toNatClampNeg)), (7, .ref (m + 276 + 2 * (g 1 + 1 + 1 + 1 + 1).toNatClampNeg)), (8, .int y8_45), (9, .int y9_45), (12, .int y12_179)] [] wL179 sz 0 0 Post := by
                intro mm179
                induction mm179 with
                | zero => intros; omega
                | succ mm179 ih179 =>
                intro wL179 y12_179 B2 hsiL179 heqL179 hi179_0 hi179_1 hVo1 hVo2 hVo3 hmL179 hBc2 hB2 hmu179
                have ky12_179 := zrng y12_179
                have hz63 : (y12_179.toNatClampNeg : Int) = y12_179.toInt := znat (by first | omega | decide)
                refine zp_seg (pc' := 182) (lv' := [(0, .ref m), (1, .int cols), (2, .int (g 1)), (3, .ref (m + 276 + 2 * (g 1).toNatClampNeg)), (4, .ref (m + 276 + 2 * (g 1 + 1).toNatClampNeg)), (5, .ref (m + 276 + 2 * (g 1 + 1 + 1).toNatClampNeg)), (6, .ref (m + 276 + 2 * (g 1 + 1 + 1 + 1).toNatClampNeg)), (7, .ref (m + 276 + 2 * (g 1 + 1 + 1 + 1 + 1).toNatClampNeg)), (8, .int y8_45), (9, .int y9_45), (12, .int y12_179)]) (st' := [.ref m, .int y12_179]) [(179, .iload 12), (181, .aload_n 0)] (by decide +kernel) rfl ?_
                refine zr_get (idx := 721) (k := 48) (v := .int (g 48)) (by decide +kernel) (by decide +kernel) hmL179 rfl ?_
                refine zp_if (i := .if_icmp .ge 153) (c := (g 48) ≤ y12_179) (t := 338) (e := 188) (lv' := [(0, .ref m), (1, .int cols), (2, .int (g 1)), (3, .ref (m + 276 + 2 * (g 1).toNatClampNeg)), (4, .ref (m + 276 + 2 * (g 1 + 1).toNatClampNeg)), (5, .ref (m + 276 + 2 * (g 1 + 1 + 1).toNatClampNeg)), (6, .ref (m + 276 + 2 * (g 1 + 1 + 1 + 1).toNatClampNeg)), (7, .ref (m + 276 + 2 * (g 1 + 1 + 1 + 1 + 1).toNatClampNeg)), (8, .int y8_45), (9, .int y9_45), (12, .int y12_179)]) (st' := []) (by decide +kernel) rfl (fun cc185 => ?_) (fun cc185 => ?_)
                ·
                  have f64 := zleI cc185
                  refine zp_seg (pc' := 341) (lv' := [(0, .ref m), (1, .int cols), (2, .int (g 1)), (3, .ref (m + 276 + 2 * (g 1).toNatClampNeg)), (4, .ref (m + 276 + 2 * (g 1 + 1).toNatClampNeg)), (5, .ref (m + 276 + 2 * (g 1 + 1 + 1).toNatClampNeg)), (6, .ref (m + 276 + 2 * (g 1 + 1 + 1 + 1).toNatClampNeg)), (7, .ref (m + 276 + 2 * (g 1 + 1 + 1 + 1 + 1).toNatClampNeg)), (8, .int y8_45), (9, .int y9_45), (12, .int y12_179)]) (st' := [.ref (m + 276 + 2 * (g 1 + 1 + 1 + 1 + 1).toNatClampNeg), .ref (m + 276 + 2 * (g 1).toNatClampNeg)]) [(338, .aload_n 3), (339, .aload 7)] (by decide +kernel) rfl ?_
                  have hb65 : zU wL179 (m + 276 + 2 * (g 1).toNatClampNeg) 1000 L9 := hUL9.ag (fun x hx1 hx2 => ((heqL179 x ⟨⟨(zx_X16_clear_31 hx1 hx2 hgn1_1 hgb1), (zx_X16_clear_32 hx1 hx2 hgn1_5 hgb1), (zx_X16_clear_33 hx1 hx2 hgb1)⟩, (zx_X16_clear_13 hx1 hx2 hgb1)⟩).trans ((heq173 x (zx_X16_clear_4 hx1 hx2 hgn1_4 hgb1)).trans ((heq160 x (zx_X16_clear_30 hx1 hx2 hgb1)).trans ((heq151 x (zx_X16_clear_30 hx1 hx2 hgb1)).trans ((heq128 x (zx_X16_clear_29 hx1 hx2 hgb1)).trans (heq106 x (zx_X16_clear_28 hx1 hx2 hgb1))))))))
                  have ho341_to := zU.o hb65
                  have hb66 : zU wL179 (m + 276 + 2 * (g 1 + 1 + 1 + 1 + 1).toNatClampNeg) 1000 ((B1 y8_45.toNatClampNeg y9_45.toNatClampNeg)) := hp173_0.ag (fun x hx1 hx2 => (heqL179 x ⟨⟨(zx_X16_clear_34 hx1 hx2 hgn1_1 hgn1_4 hgb1), (zx_X16_clear_35 hx1 hx2 hgn1_4 hgn1_5 hgb1), (zx_X16_clear_36 hx1 hx2 hgn1_4 hgb1)⟩, (zx_X16_clear_37 hx1 hx2 hgn1_4 hgb1)⟩))
                  refine zr_callS (idx := 62) (j := 264) (by decide +kernel) (by decide +kernel) (by decide) (show zMe 264 = some zq_X16_set from rfl) rfl rfl (Nat.le_of_ble_eq_true rfl) rfl rfl (Nat.le_of_ble_eq_true rfl) (Nat.le_of_ble_eq_true rfl) (c_X16_set (w := wL179) (m + 276 + 2 * (g 1).toNatClampNeg) (m + 276 + 2 * (g 1 + 1 + 1 + 1 + 1).toNatClampNeg) ho341_to hb66 (by first | omega | decide | assumption | exact zr1_1 | exact zr1_0 | fail "num") (by first | omega | decide | assumption | exact zr1_1 | exact zr1_0 | fail "num")) (by omega) (fun v341 w341 hp341 => ?_)
                  obtain ⟨hsi341, heq341, hp341_0, rfl⟩ := hp341
                  show zP _ _ _ _ [] _ _ _ _ _
                  refine zp_seg (pc' := 347) (lv' := [(8, .int (y8_45 + 1)), (0, .ref m), (1, .int cols), (2, .int (g 1)), (3, .ref (m + 276 + 2 * (g 1).toNatClampNeg)), (4, .ref (m + 276 + 2 * (g 1 + 1).toNatClampNeg)), (5, .ref (m + 276 + 2 * (g 1 + 1 + 1).toNatClampNeg)), (6, .ref (m + 276 + 2 * (g 1 + 1 + 1 + 1).toNatClampNeg)), (7, .ref (m + 276 + 2 * (g 1 + 1 + 1 + 1 + 1).toNatClampNeg)), (9, .int y9_45), (12, .int y12_179)]) (st' := []) [(344, .iinc 8 1)] (by decide +kernel) rfl ?_
                  have k67 := zaddC y8_45 1 (n := 1) (by decide) (by omega) (by omega)
                  generalize ev347 : (y8_45 + 1 : Int32) = v347 at k67 ⊢
                  have kv347 := zrng v347
                  have hz68 : (v347.toNatClampNeg : Int) = v347.toInt := znat (by first | omega | decide)
                  have hb69 : zBq w341 m sg1 := hBqS.ag (fun x hx1 hx2 => ((heq341 x (zx_X16_clear_42 hx1 hx2 hgb1)).trans ((heqL179 x ⟨⟨(zx_X16_clear_39 hx1 hx2 hgn1_1 hgb1), (zx_X16_clear_40 hx1 hx2 hgn1_5 hgb1), (zx_X16_clear_41 hx1 hx2)⟩, (zx_X16_clear_12 hx1 hx2)⟩).trans (heq173 x (zx_X16_clear_38 hx1 hx2 hgn1_4 hgb1)))))
                  have hb70 : w341 (m + 177) = some (.inr (2, 14, .inl (upd ip9 (y9_45.toNatClampNeg) (vp_nar .boolean z0_106)))) := ((heq341 (m + 177) (zx_X16_clear_50 hgb1)).trans ((heqL179 (m + 177) ⟨⟨(zx_X16_clear_47 hgn1_1 hgb1), (zx_X16_clear_48 hgn1_5 hgb1), (zx_X16_clear_49)⟩, (zx_X16_clear_14)⟩).trans ((heq173 (m + 177) (zx_X16_clear_46 hgn1_4 hgb1)).trans ((heq160 (m + 177) (zx_X16_clear_45)).trans ((heq151 (m + 177) (zx_X16_clear_45)).trans (heq128 (m + 177) (zx_X16_clear_44))))))).trans hc106
                  have hb71 : w341 (m + 178) = some (.inr (0, 14, .inl (upd pv9 (y9_45.toNatClampNeg) y8_45))) := ((heq341 (m + 178) (zx_X16_clear_56 hgb1)).trans ((heqL179 (m + 178) ⟨⟨(zx_X16_clear_53 hgn1_1 hgb1), (zx_X16_clear_54 hgn1_5 hgb1), (zx_X16_clear_55)⟩, (zx_X16_clear_15)⟩).trans ((heq173 (m + 178) (zx_X16_clear_52 hgn1_4 hgb1)).trans ((heq160 (m + 178) (zx_X16_clear_51)).trans (heq151 (m + 178) (zx_X16_clear_51)))))).trans hc128
                  obtain ⟨sgN, AN, BN, LN, cN, hBIN, hAN, hBcN, hBqN, hULN⟩ : ∃ (sN : Nat → Nat) (AN BN : Nat → Nat → zA1) (LN : zA1) (cN : Nat → Nat), @zBI zA1 zA1R AN cN (g 48).toNatClampNeg cols.toNatClampNeg v347.toNatClampNeg LN BN ∧ (∀ i k, i < (g 48).toNatClampNeg → k < cols.toNatClampNeg → zdq (AN i k) dg) ∧ zBc w341 m sN (g 48).toNatClampNeg cols.toNatClampNeg BN ∧ zBq w341 m sN ∧ zU w341 (m + 276 + 2 * (g 1).toNatClampNeg) 1000 LN := by
                    refine ⟨sg1, A1, B2, B1 y8_45.toNatClampNeg y9_45.toNatClampNeg, fun j => if j = y8_45.toNatClampNeg then y9_45.toNatClampNeg else c9 j, ?_, hAS, zBc.ag hBc2 (by omega) (by omega) (hb69).lt (fun x g1 g2 => (heq341 x (zx_X16_clear_43 g1 g2 hgb1))), hb69, hp341_0⟩
                    rw [show v347.toNatClampNeg = y8_45.toNatClampNeg + 1 by omega]
                    exact @zBI_s zA1 zA1R zA1_dom _ _ _ _ _ _ _ hBIS (by omega) y9_45.toNatClampNeg (by omega) (fun e => hSS (zln_0.mpr e)) B2 hB2.1 (fun i k hi hir hk => (hB2.2 i k hi hir hk).1 (by omega))
                  have hipN : ∀ t, t < y9_45.toNatClampNeg + 1 → ((upd ip9 (y9_45.toNatClampNeg) (vp_nar .boolean z0_106))) t = 0 ∨ ((upd ip9 (y9_45.toNatClampNeg) (vp_nar .boolean z0_106))) t = 1 ∧ 0 ≤ (((upd pv9 (y9_45.toNatClampNeg) y8_45)) t).toInt ∧ (((upd pv9 (y9_45.toNatClampNeg) y8_45)) t).toInt < v347.toInt := by
                    intro t ht
                    by_cases e : t = y9_45.toNatClampNeg
                    · right
                      rw [e, zupd_s, zupd_s, hpv9, zvb1]
                      exact ⟨rfl, by omega, by omega⟩
                    · rw [zupd_n _ _ e, zupd_n _ _ e]
                      rcases hip9 t (by omega) with h9 | ⟨h9, h8, h7⟩
                      · exact Or.inl h9
                      · exact Or.inr ⟨h9, h8, by omega⟩
                  have halN : ∀ c, c ≤ y9_45.toNatClampNeg + 1 → (∀ t, t < c → ((upd ip9 (y9_45.toNatClampNeg) (vp_nar .boolean z0_106))) t ≠ 0) → c ≤ v347.toNatClampNeg := by
                    intro c hc h9
                    by_cases e : c = 0
                    · omega
                    · have h8 := hal9 (c - 1) (by omega) (fun t ht => by
                        have h7 := h9 t (by omega)
                        rw [zupd_n _ _ (by omega)] at h7
                        exact h7)
                      omega
                  have hzN : (∃ i, i < (g 48).toNatClampNeg ∧ zln (B0 i 0) ≠ 0) → ((upd ip9 (y9_45.toNatClampNeg) (vp_nar .boolean z0_106))) 0 ≠ 0 := by
                    intro h9
                    by_cases e : y9_45.toNatClampNeg = 0
                    · rw [← e, zupd_s, hpv9, zvb1]; decide
                    · rw [zupd_n _ _ (fun e9 => e e9.symm)]; exact hz9 (by omega) h9
                  have hwN := hBcN
                  refine zp_seg (pc' := 350) (lv' := [(9, .int (y9_45 + 1)), (8, .int v347), (0, .ref m), (1, .int cols), (2, .int (g 1)), (3, .ref (m + 276 + 2 * (g 1).toNatClampNeg)), (4, .ref (m + 276 + 2 * (g 1 + 1).toNatClampNeg)), (5, .ref (m + 276 + 2 * (g 1 + 1 + 1).toNatClampNeg)), (6, .ref (m + 276 + 2 * (g 1 + 1 + 1 + 1).toNatClampNeg)), (7, .ref (m + 276 + 2 * (g 1 + 1 + 1 + 1 + 1).toNatClampNeg)), (12, .int y12_179)]) (st' := []) [(347, .iinc 9 1)] (by decide +kernel) rfl ?_
                  have k72 := zaddC y9_45 1 (n := 1) (by decide) (by omega) (by omega)
                  generalize ev350 : (y9_45 + 1 : Int32) = v350 at k72 ⊢
                  have kv350 := zrng v350
                  refine zp_seg (pc' := 45) (lv' := [(9, .int v350), (8, .int v347), (0, .ref m), (1, .int cols), (2, .int (g 1)), (3, .ref (m + 276 + 2 * (g 1).toNatClampNeg)), (4, .ref (m + 276 + 2 * (g 1 + 1).toNatClampNeg)), (5, .ref (m + 276 + 2 * (g 1 + 1 + 1).toNatClampNeg)), (6, .ref (m + 276 + 2 * (g 1 + 1 + 1 + 1).toNatClampNeg)), (7, .ref (m + 276 + 2 * (g 1 + 1 + 1 + 1 + 1).toNatClampNeg)), (12, .int y12_179)]) (st' := []) [(350, .goto (-305))] (by decide +kernel) rfl ?_
                  have hz73 : (v350.toNatClampNeg : Int) = v350.toInt := znat (by first | omega | decide)
                  have hb74 := hVo1.si hsi341
                  have hb75 := hVo2.si hsi341
                  have hb76 := hVo3.si hsi341
                  have hb77 := hb61.si ((hsi173.tr hsiL179).tr hsi341)
                  have hb78 : w341 m = some (.inl (15, zMo m (zs g 1 (g 1 + 1 + 1 + 1 + 1 + 1)) r)) := (heq341 m (zx_X16_clear_5 hgb1)).trans hmL179
                  exact (ih45 w341 v347 v350 (sgN) (AN) (BN) (LN) (cN) ((upd ip9 (y9_45.toNatClampNeg) (vp_nar .boolean z0_106))) ((upd pv9 (y9_45.toNatClampNeg) y8_45)) (((((((hsiL45.tr hsi106).tr hsi128).tr hsi151).tr hsi160).tr hsi173).tr hsiL179).tr hsi341) (fun x hx => ((heq341 x (zx_X16_clear_6 hx.1.2.2.2.1 hgb1)).trans ((heqL179 x ⟨⟨(zx_X16_clear_60 hx.1.2.2.2.1 hgn1_1 hgb1), (zx_X16_clear_61 hx.1.2.2.2.1 hgn1_5 hgb1), hx.1.2.2.2.2⟩, hx.2⟩).trans ((heq173 x (zx_X16_clear_10 hx.1.2.2.2.1 hgn1_4 hgb1)).trans ((heq160 x (zx_X16_clear_59 hx.1.1)).trans ((heq151 x (zx_X16_clear_59 hx.1.1)).trans ((heq128 x (zx_X16_clear_58 hx.1.2.2.1)).trans ((heq106 x (zx_X16_clear_57 hx.1.2.1)).trans (heqL45 x ⟨⟨hx.1.1, hx.1.2.1, hx.1.2.2.1, hx.1.2.2.2.1, hx.1.2.2.2.2⟩, hx.2⟩))))))))) (by first | assumption | omega | decide) (by first | assumption | omega | decide) (by first | assumption | omega | decide) (by first | assumption | omega | decide) hBqN hULN hb74 hb75 hb76 hb77 hb70 hb71 hb78 (by
                        exact hBIN) (by
                        exact hAN) (by
                        exact hBcN) (by
                        exact fun t ht => by
                          rcases hipN t (by omega) with h9 | ⟨h9, h8, h7⟩
                          · exact Or.inl h9
                          · exact Or.inr ⟨h9, h8, by omega⟩) (by
                        exact fun c hc => halN c (by omega)) (by
                        exact fun _ => hzN) (by
                        exact fun h9 => absurd h9 (by omega)) (by omega)).more (zfa1 rfl (zfa1 rfl (zfa1 rfl (zfa1 rfl (zfa1 rfl (zfa1 rfl (zfa1 rfl (zfa1 rfl (zfa1 rfl (zfa1 rfl (zfa0)))))))))))
                ·
                  have f79 := znleI cc185
                  refine zp_seg (pc' := 192) (lv' := [(0, .ref m), (1, .int cols), (2, .int (g 1)), (3, .ref (m + 276 + 2 * (g 1).toNatClampNeg)), (4, .ref (m + 276 + 2 * (g 1 + 1).toNatClampNeg)), (5, .ref (m + 276 + 2 * (g 1 + 1 + 1).toNatClampNeg)), (6, .ref (m + 276 + 2 * (g 1 + 1 + 1 + 1).toNatClampNeg)), (7, .ref (m + 276 + 2 * (g 1 + 1 + 1 + 1 + 1).toNatClampNeg)), (8, .int y8_45), (9, .int y9_45), (12, .int y12_179)]) (st' := [.int y8_45, .int y12_179]) [(188, .iload 12), (190, .iload 8)] (by decide +kernel) rfl ?_
                  refine zp_if (i := .if_icmp .ne 6) (c := ¬ y12_179 = y8_45) (t := 198) (e := 195) (lv' := [(0, .ref m), (1, .int cols), (2, .int (g 1)), (3, .ref (m + 276 + 2 * (g 1).toNatClampNeg)), (4, .ref (m + 276 + 2 * (g 1 + 1).toNatClampNeg)), (5, .ref (m + 276 + 2 * (g 1 + 1 + 1).toNatClampNeg)), (6, .ref (m + 276 + 2 * (g 1 + 1 + 1 + 1).toNatClampNeg)), (7, .ref (m + 276 + 2 * (g 1 + 1 + 1 + 1 + 1).toNatClampNeg)), (8, .int y8_45), (9, .int y9_45), (12, .int y12_179)]) (st' := []) (by decide +kernel) rfl (fun cc192 => ?_) (fun cc192 => ?_)
                  ·
                    have f80 := zneI cc192
                    refine zp_seg (pc' := 201) (lv' := [(0, .ref m), (1, .int cols), (2, .int (g 1)), (3, .ref (m + 276 + 2 * (g 1).toNatClampNeg)), (4, .ref (m + 276 + 2 * (g 1 + 1).toNatClampNeg)), (5, .ref (m + 276 + 2 * (g 1 + 1 + 1).toNatClampNeg)), (6, .ref (m + 276 + 2 * (g 1 + 1 + 1 + 1).toNatClampNeg)), (7, .ref (m + 276 + 2 * (g 1 + 1 + 1 + 1 + 1).toNatClampNeg)), (8, .int y8_45), (9, .int y9_45), (12, .int y12_179)]) (st' := [.ref m, .ref (m + 276 + 2 * (g 1 + 1 + 1 + 1).toNatClampNeg)]) [(198, .aload 6), (200, .aload_n 0)] (by decide +kernel) rfl ?_
                    refine zr_get (idx := 487) (k := 44) (v := .ref (m + 149)) (by decide +kernel) (by decide +kernel) hmL179 rfl ?_
                    refine zp_seg (pc' := 206) (lv' := [(0, .ref m), (1, .int cols), (2, .int (g 1)), (3, .ref (m + 276 + 2 * (g 1).toNatClampNeg)), (4, .ref (m + 276 + 2 * (g 1 + 1).toNatClampNeg)), (5, .ref (m + 276 + 2 * (g 1 + 1 + 1).toNatClampNeg)), (6, .ref (m + 276 + 2 * (g 1 + 1 + 1 + 1).toNatClampNeg)), (7, .ref (m + 276 + 2 * (g 1 + 1 + 1 + 1 + 1).toNatClampNeg)), (8, .int y8_45), (9, .int y9_45), (12, .int y12_179)]) (st' := [.int y12_179, .ref (m + 149), .ref (m + 276 + 2 * (g 1 + 1 + 1 + 1).toNatClampNeg)]) [(204, .iload 12)] (by decide +kernel) rfl ?_
                    have hb81 : zBq wL179 m sg1 := hBqS.ag (fun x hx1 hx2 => ((heqL179 x ⟨⟨(zx_X16_clear_39 hx1 hx2 hgn1_1 hgb1), (zx_X16_clear_40 hx1 hx2 hgn1_5 hgb1), (zx_X16_clear_41 hx1 hx2)⟩, (zx_X16_clear_12 hx1 hx2)⟩).trans (heq173 x (zx_X16_clear_38 hx1 hx2 hgn1_4 hgb1))))
                    obtain ⟨⟨f82, hg83, hg84⟩, -⟩ := id hb81
                    obtain ⟨s206, hs206⟩ : ∃ s9, s9 = sg1 (y12_179.toNatClampNeg) := ⟨_, rfl⟩
                    have hls206 : s206 < 26 := by rw [hs206]; exact hb81.lt _ (by omega)
                    refine zr_aald (v := .ref (m + 150 + s206)) (by decide +kernel) hg83 (by decide) (zin (by first | omega | decide) (by first | omega | decide)) (by rw [hg84 _ (by omega), hs206]; rfl) ?_
                    have hrw85 := hb81.row s206 hls206
                    refine zp_seg (pc' := 209) (lv' := [(0, .ref m), (1, .int cols), (2, .int (g 1)), (3, .ref (m + 276 + 2 * (g 1).toNatClampNeg)), (4, .ref (m + 276 + 2 * (g 1 + 1).toNatClampNeg)), (5, .ref (m + 276 + 2 * (g 1 + 1 + 1).toNatClampNeg)), (6, .ref (m + 276 + 2 * (g 1 + 1 + 1 + 1).toNatClampNeg)), (7, .ref (m + 276 + 2 * (g 1 + 1 + 1 + 1 + 1).toNatClampNeg)), (8, .int y8_45), (9, .int y9_45), (12, .int y12_179)]) (st' := [.int y9_45, .ref (m + 150 + s206), .ref (m + 276 + 2 * (g 1 + 1 + 1 + 1).toNatClampNeg)]) [(207, .iload 9)] (by decide +kernel) rfl ?_
                    obtain ⟨t209, ht209⟩ : ∃ t9, t9 = (y9_45.toNatClampNeg) := ⟨_, rfl⟩
                    have hlt209 : t209 < 14 := by rw [ht209]; omega
                    refine zr_aald (v := .ref (m + 7594 + 28 * s206 + 2 * t209)) (by decide +kernel) hrw85 (by decide) (zin (by first | omega | decide) (by first | omega | decide)) (by rw [ht209]; exact zbq_at ⟨by omega, by omega⟩) ?_
                    have hu210 : zU wL179 (m + 7594 + 28 * s206 + 2 * t209) 1000 (B2 y12_179.toNatClampNeg y9_45.toNatClampNeg) := by rw [hs206, ht209]; exact hBc2 y12_179.toNatClampNeg y9_45.toNatClampNeg (by omega) (by omega)
                    replace hu210 := hu210.ag (w' := wL179) (fun x g1 g2 => rfl)
                    have hb29 := hB2.2 y12_179.toNatClampNeg y9_45.toNatClampNeg (by omega) (fun e => cc192 (by first | exact e | (apply Int32.toInt_inj.mp; omega))) (by omega)
                    have hb28 := hb29.2 (Nat.le_refl _)
                    have hS8 := hdq1.2 y12_179.toNatClampNeg y9_45.toNatClampNeg (by omega) (by omega)
                    rw [← hb28] at hS8
                    refine zr_callS (idx := 62) (j := 264) (by decide +kernel) (by decide +kernel) (by decide) (show zMe 264 = some zq_X16_set from rfl) rfl rfl (Nat.le_of_ble_eq_true rfl) rfl rfl (Nat.le_of_ble_eq_true rfl) (Nat.le_of_ble_eq_true rfl) (c_X16_set (w := wL179) (m + 276 + 2 * (g 1 + 1 + 1 + 1).toNatClampNeg) (m + 7594 + 28 * s206 + 2 * t209) hVo3 hu210 (by first | omega | decide | assumption | exact zr1_1 | exact zr1_0 | fail "num") (by first | omega | decide | assumption | exact zr1_1 | exact zr1_0 | fail "num")) (by omega) (fun v210 w210 hp210 => ?_)
                    obtain ⟨hsi210, heq210, hp210_0, rfl⟩ := hp210
                    show zP _ _ _ _ [] _ _ _ _ _
                    refine zp_seg (pc' := 216) (lv' := [(13, .int 0), (0, .ref m), (1, .int cols), (2, .int (g 1)), (3, .ref (m + 276 + 2 * (g 1).toNatClampNeg)), (4, .ref (m + 276 + 2 * (g 1 + 1).toNatClampNeg)), (5, .ref (m + 276 + 2 * (g 1 + 1 + 1).toNatClampNeg)), (6, .ref (m + 276 + 2 * (g 1 + 1 + 1 + 1).toNatClampNeg)), (7, .ref (m + 276 + 2 * (g 1 + 1 + 1 + 1 + 1).toNatClampNeg)), (8, .int y8_45), (9, .int y9_45), (12, .int y12_179)]) (st' := []) [(213, .iconst 0), (214, .istore 13)] (by decide +kernel) rfl ?_
                    have hb86 : w210 m = some (.inl (15, zMo m (zs g 1 (g 1 + 1 + 1 + 1 + 1 + 1)) r)) := (heq210 m (zx_X16_clear_62 hgn1_3 hgb1)).trans hmL179
                    have hL216 : ∀ (mm216 : Nat) (wL216 : zM) (y13_216 : Int32) (B3 : Nat → Nat → zA1), (zSI w210 wL216) → (∀ x, ((x < m + 276 + 2 * (g 1 + 1).toNatClampNeg ∨ m + 276 + 2 * (g 1 + 1).toNatClampNeg + 4 ≤ x) ∧ (x < m + 276 + 2 * (g 1 + 1 + 1 + 1 + 1 + 1).toNatClampNeg ∨ m + 276 + 2 * (g 1 + 1 + 1 + 1 + 1 + 1).toNatClampNeg + (320 - 2 * (g 1 + 1 + 1 + 1 + 1 + 1).toNatClampNeg) ≤ x) ∧ (x < m + 7594 ∨ m + 7594 + 728 ≤ x)) ∧ x ≠ m → wL216 x = w210 x) → (0 ≤ y13_216.toInt) → (y13_216.toInt ≤ cols.toInt) → (zUo wL216 (m + 276 + 2 * (g 1 + 1).toNatClampNeg) 1000) → (zUo wL216 (m + 276 + 2 * (g 1 + 1 + 1).toNatClampNeg) 1000) → (wL216 m = some (.inl (15, zMo m (zs g 1 (g 1 + 1 + 1 + 1 + 1 + 1)) r))) → (zBc wL216 m sg1 (g 48).toNatClampNeg cols.toNatClampNeg B3) → ((∀ i k, i ≠ y12_179.toNatClampNeg → B3 i k = B2 i k) ∧ ∀ k, k < cols.toNatClampNeg → (k < y13_216.toNatClampNeg → zaM L9 (B3 y12_179.toNatClampNeg k) = zaS (zaM (B1 y8_45.toNatClampNeg y9_45.toNatClampNeg) (B2 y12_179.toNatClampNeg k)) (zaM (B2 y12_179.toNatClampNeg y9_45.toNatClampNeg) (B2 y8_45.toNatClampNeg k))) ∧ (y13_216.toNatClampNeg ≤ k → B3 y12_179.toNatClampNeg k = B2 y12_179.toNatClampNeg k)) → (zBq wL216 m sg1) → (40 - y13_216.toInt).toNat < mm216 → zP (d + 1) zq_X16_clear 216 [(0, .ref m), (1, .int cols), (2, .int (g 1)), (3, .ref (m + 276 + 2 * (g 1).toNatClampNeg)), (4, .ref (m + 276 + 2 * (g 1 + 1).toNatClampNeg)), (5, .ref (m + 276 + 2 * (g 1 + 1 + 1).toNatClampNeg)), (6, .ref (m + 276 + 2 * (g 1 + 1 + 1 + 1).toNatClampNeg)), (7, .ref (m + 276 + 2 * (g 1 + 1 + 1 + 1 + 1).toNatClampNeg)), (8, .int y8_45), (9, .int y9_45), (12, .int y12_179), (13, .int y13_216)] [] wL216 sz 0 0 Post := by
                      intro mm216
                      induction mm216 with
                      | zero => intros; omega
                      | succ mm216 ih216 =>
                      intro wL216 y13_216 B3 hsiL216 heqL216 hi216_0 hi216_1 hWo1 hWo2 hmL216 hBc3 hB3 hBq3 hmu216
                      have ky13_216 := zrng y13_216
                      have hz87 : (y13_216.toNatClampNeg : Int) = y13_216.toInt := znat (by first | omega | decide)
                      refine zp_seg (pc' := 219) (lv' := [(0, .ref m), (1, .int cols), (2, .int (g 1)), (3, .ref (m + 276 + 2 * (g 1).toNatClampNeg)), (4, .ref (m + 276 + 2 * (g 1 + 1).toNatClampNeg)), (5, .ref (m + 276 + 2 * (g 1 + 1 + 1).toNatClampNeg)), (6, .ref (m + 276 + 2 * (g 1 + 1 + 1 + 1).toNatClampNeg)), (7, .ref (m + 276 + 2 * (g 1 + 1 + 1 + 1 + 1).toNatClampNeg)), (8, .int y8_45), (9, .int y9_45), (12, .int y12_179), (13, .int y13_216)]) (st' := [.int cols, .int y13_216]) [(216, .iload 13), (218, .iload_n 1)] (by decide +kernel) rfl ?_
                      refine zp_if (i := .if_icmp .ge 113) (c := cols ≤ y13_216) (t := 332) (e := 222) (lv' := [(0, .ref m), (1, .int cols), (2, .int (g 1)), (3, .ref (m + 276 + 2 * (g 1).toNatClampNeg)), (4, .ref (m + 276 + 2 * (g 1 + 1).toNatClampNeg)), (5, .ref (m + 276 + 2 * (g 1 + 1 + 1).toNatClampNeg)), (6, .ref (m + 276 + 2 * (g 1 + 1 + 1 + 1).toNatClampNeg)), (7, .ref (m + 276 + 2 * (g 1 + 1 + 1 + 1 + 1).toNatClampNeg)), (8, .int y8_45), (9, .int y9_45), (12, .int y12_179), (13, .int y13_216)]) (st' := []) (by decide +kernel) rfl (fun cc219 => ?_) (fun cc219 => ?_)
                      ·
                        have f88 := zleI cc219
                        obtain ⟨B5, hBc5, hB5⟩ : ∃ B5, zBc wL216 m sg1 (g 48).toNatClampNeg cols.toNatClampNeg B5 ∧ (∀ k, k < cols.toNatClampNeg → B5 y8_45.toNatClampNeg k = B1 y8_45.toNatClampNeg k) ∧ ∀ i k, i < (g 48).toNatClampNeg → i ≠ y8_45.toNatClampNeg → k < cols.toNatClampNeg → (i < y12_179.toNatClampNeg + 1 → zaM L9 (B5 i k) = zaS (zaM (B1 y8_45.toNatClampNeg y9_45.toNatClampNeg) (B1 i k)) (zaM (B1 i y9_45.toNatClampNeg) (B1 y8_45.toNatClampNeg k))) ∧ (y12_179.toNatClampNeg + 1 ≤ i → B5 i k = B1 i k) := by
                          have hne8 : y12_179.toNatClampNeg ≠ y8_45.toNatClampNeg := fun e => cc192 (by apply Int32.toInt_inj.mp; omega)
                          refine ⟨B3, hBc3, fun k hk => (hB3.1 _ k (fun e => hne8 e.symm)).trans (hB2.1 k hk), fun i k hi hir hk => ⟨fun h9 => ?_, fun h9 => ?_⟩⟩
                          · by_cases e : i = y12_179.toNatClampNeg
                            · have h8 := (hB3.2 k hk).1 (by omega)
                              rw [e, h8, hb28, hB2.1 k hk, ((hB2.2 _ k (by omega) hne8 hk).2 (Nat.le_refl _))]
                            · rw [hB3.1 i k e]; exact (hB2.2 i k hi hir hk).1 (by omega)
                          · rw [hB3.1 i k (by omega)]; exact (hB2.2 i k hi hir hk).2 (by omega)
                        refine zp_seg (pc' := 335) (lv' := [(12, .int (y12_179 + 1)), (0, .ref m), (1, .int cols), (2, .int (g 1)), (3, .ref (m + 276 + 2 * (g 1).toNatClampNeg)), (4, .ref (m + 276 + 2 * (g 1 + 1).toNatClampNeg)), (5, .ref (m + 276 + 2 * (g 1 + 1 + 1).toNatClampNeg)), (6, .ref (m + 276 + 2 * (g 1 + 1 + 1 + 1).toNatClampNeg)), (7, .ref (m + 276 + 2 * (g 1 + 1 + 1 + 1 + 1).toNatClampNeg)), (8, .int y8_45), (9, .int y9_45), (13, .int y13_216)]) (st' := []) [(332, .iinc 12 1)] (by decide +kernel) rfl ?_
                        have k89 := zaddC y12_179 1 (n := 1) (by decide) (by omega) (by omega)
                        generalize ev335 : (y12_179 + 1 : Int32) = v335 at k89 ⊢
                        have kv335 := zrng v335
                        refine zp_seg (pc' := 179) (lv' := [(12, .int v335), (0, .ref m), (1, .int cols), (2, .int (g 1)), (3, .ref (m + 276 + 2 * (g 1).toNatClampNeg)), (4, .ref (m + 276 + 2 * (g 1 + 1).toNatClampNeg)), (5, .ref (m + 276 + 2 * (g 1 + 1 + 1).toNatClampNeg)), (6, .ref (m + 276 + 2 * (g 1 + 1 + 1 + 1).toNatClampNeg)), (7, .ref (m + 276 + 2 * (g 1 + 1 + 1 + 1 + 1).toNatClampNeg)), (8, .int y8_45), (9, .int y9_45), (13, .int y13_216)]) (st' := []) [(335, .goto (-156))] (by decide +kernel) rfl ?_
                        have hz90 : (v335.toNatClampNeg : Int) = v335.toInt := znat (by first | omega | decide)
                        have hb91 := hVo3.si (hsi210.tr hsiL216)
                        exact (ih179 wL216 v335 (B5) ((hsiL179.tr hsi210).tr hsiL216) (fun x hx => ((heqL216 x ⟨⟨(zx_X16_clear_64 hx.1.1 hx.1.2.1 hgn1_1 hgn1_5 hgb1), hx.1.2.1, hx.1.2.2⟩, hx.2⟩).trans ((heq210 x (zx_X16_clear_63 hx.1.1 hx.1.2.1 hgn1_1 hgn1_3 hgn1_5 hgb1)).trans (heqL179 x ⟨⟨hx.1.1, hx.1.2.1, hx.1.2.2⟩, hx.2⟩)))) (by first | assumption | omega | decide) (by first | assumption | omega | decide) hWo1 hWo2 hb91 hmL216 (by
                              exact hBc5) (by
                              exact ⟨hB5.1, fun i k hi hir hk => ⟨fun h9 => (hB5.2 i k hi hir hk).1 (by omega), fun h9 => (hB5.2 i k hi hir hk).2 (by omega)⟩⟩) (by omega)).more (zfa1 rfl (zfa1 rfl (zfa1 rfl (zfa1 rfl (zfa1 rfl (zfa1 rfl (zfa1 rfl (zfa1 rfl (zfa1 rfl (zfa1 rfl (zfa1 rfl (zfa0))))))))))))
                      ·
                        have f92 := znleI cc219
                        refine zp_seg (pc' := 223) (lv' := [(0, .ref m), (1, .int cols), (2, .int (g 1)), (3, .ref (m + 276 + 2 * (g 1).toNatClampNeg)), (4, .ref (m + 276 + 2 * (g 1 + 1).toNatClampNeg)), (5, .ref (m + 276 + 2 * (g 1 + 1 + 1).toNatClampNeg)), (6, .ref (m + 276 + 2 * (g 1 + 1 + 1 + 1).toNatClampNeg)), (7, .ref (m + 276 + 2 * (g 1 + 1 + 1 + 1 + 1).toNatClampNeg)), (8, .int y8_45), (9, .int y9_45), (12, .int y12_179), (13, .int y13_216)]) (st' := [.ref m]) [(222, .aload_n 0)] (by decide +kernel) rfl ?_
                        refine zr_get (idx := 487) (k := 44) (v := .ref (m + 149)) (by decide +kernel) (by decide +kernel) hmL216 rfl ?_
                        refine zp_seg (pc' := 228) (lv' := [(0, .ref m), (1, .int cols), (2, .int (g 1)), (3, .ref (m + 276 + 2 * (g 1).toNatClampNeg)), (4, .ref (m + 276 + 2 * (g 1 + 1).toNatClampNeg)), (5, .ref (m + 276 + 2 * (g 1 + 1 + 1).toNatClampNeg)), (6, .ref (m + 276 + 2 * (g 1 + 1 + 1 + 1).toNatClampNeg)), (7, .ref (m + 276 + 2 * (g 1 + 1 + 1 + 1 + 1).toNatClampNeg)), (8, .int y8_45), (9, .int y9_45), (12, .int y12_179), (13, .int y13_216)]) (st' := [.int y12_179, .ref (m + 149)]) [(226, .iload 12)] (by decide +kernel) rfl ?_
                        have hb93 : zBq wL216 m sg1 := hb81.ag (fun x hx1 hx2 => ((heqL216 x ⟨⟨(zx_X16_clear_66 hx1 hx2 hgn1_1 hgb1), (zx_X16_clear_40 hx1 hx2 hgn1_5 hgb1), (zx_X16_clear_41 hx1 hx2)⟩, (zx_X16_clear_12 hx1 hx2)⟩).trans (heq210 x (zx_X16_clear_65 hx1 hx2 hgn1_3 hgb1))))
                        obtain ⟨⟨f94, hg95, hg96⟩, -⟩ := id hb93
                        obtain ⟨s228, hs228⟩ : ∃ s9, s9 = sg1 (y12_179.toNatClampNeg) := ⟨_, rfl⟩
                        have hls228 : s228 < 26 := by rw [hs228]; exact hb93.lt _ (by omega)
                        refine zr_aald (v := .ref (m + 150 + s228)) (by decide +kernel) hg95 (by decide) (zin (by first | omega | decide) (by first | omega | decide)) (by rw [hg96 _ (by omega), hs228]; rfl) ?_
                        have hrw97 := hb93.row s228 hls228
                        refine zp_seg (pc' := 231) (lv' := [(0, .ref m), (1, .int cols), (2, .int (g 1)), (3, .ref (m + 276 + 2 * (g 1).toNatClampNeg)), (4, .ref (m + 276 + 2 * (g 1 + 1).toNatClampNeg)), (5, .ref (m + 276 + 2 * (g 1 + 1 + 1).toNatClampNeg)), (6, .ref (m + 276 + 2 * (g 1 + 1 + 1 + 1).toNatClampNeg)), (7, .ref (m + 276 + 2 * (g 1 + 1 + 1 + 1 + 1).toNatClampNeg)), (8, .int y8_45), (9, .int y9_45), (12, .int y12_179), (13, .int y13_216)]) (st' := [.int y13_216, .ref (m + 150 + s228)]) [(229, .iload 13)] (by decide +kernel) rfl ?_
                        obtain ⟨t231, ht231⟩ : ∃ t9, t9 = (y13_216.toNatClampNeg) := ⟨_, rfl⟩
                        have hlt231 : t231 < 14 := by rw [ht231]; omega
                        refine zr_aald (v := .ref (m + 7594 + 28 * s228 + 2 * t231)) (by decide +kernel) hrw97 (by decide) (zin (by first | omega | decide) (by first | omega | decide)) (by rw [ht231]; exact zbq_at ⟨by omega, by omega⟩) ?_
                        have hu232 : zU wL216 (m + 7594 + 28 * s228 + 2 * t231) 1000 (B3 y12_179.toNatClampNeg y13_216.toNatClampNeg) := by rw [hs228, ht231]; exact hBc3 y12_179.toNatClampNeg y13_216.toNatClampNeg (by omega) (by omega)
                        replace hu232 := hu232.ag (w' := wL216) (fun x g1 g2 => rfl)
                        obtain ⟨n98, f99, hu100, hu101, hu102, hu103, hu104⟩ := id hu232
                        have kn98 := zrng n98
                        refine zr_get (idx := 25) (k := 1) (v := .int n98) (by decide +kernel) (by decide +kernel) hu100 rfl ?_
                        have hJ265 : ∀ (_ : True), zP (d + 1) zq_X16_clear 265 [(0, .ref m), (1, .int cols), (2, .int (g 1)), (3, .ref (m + 276 + 2 * (g 1).toNatClampNeg)), (4, .ref (m + 276 + 2 * (g 1 + 1).toNatClampNeg)), (5, .ref (m + 276 + 2 * (g 1 + 1 + 1).toNatClampNeg)), (6, .ref (m + 276 + 2 * (g 1 + 1 + 1 + 1).toNatClampNeg)), (7, .ref (m + 276 + 2 * (g 1 + 1 + 1 + 1 + 1).toNatClampNeg)), (8, .int y8_45), (9, .int y9_45), (12, .int y12_179), (13, .int y13_216)] [] wL216 sz 0 0 Post := by
                          intro _
                          have hne8 : y12_179.toNatClampNeg ≠ y8_45.toNatClampNeg := fun e => cc192 (by apply Int32.toInt_inj.mp; omega)
                          have hb3a := (hB3.2 y13_216.toNatClampNeg (by omega)).2 (Nat.le_refl _)
                          have hb2a := (hB2.2 y12_179.toNatClampNeg y13_216.toNatClampNeg (by omega) hne8 (by omega)).2 (Nat.le_refl _)
                          have hb3b := hB3.1 y8_45.toNatClampNeg y13_216.toNatClampNeg (fun e => hne8 e.symm)
                          have hb2b := hB2.1 y13_216.toNatClampNeg (by omega)
                          have hS5 := hdq1.2 y12_179.toNatClampNeg y13_216.toNatClampNeg (by omega) (by omega)
                          have hS6 := hdq1.2 y8_45.toNatClampNeg y13_216.toNatClampNeg (by omega) (by omega)
                          rw [← hb2a, ← hb3a] at hS5
                          rw [← hb2b, ← hb3b] at hS6
                          refine zp_seg (pc' := 270) (lv' := [(0, .ref m), (1, .int cols), (2, .int (g 1)), (3, .ref (m + 276 + 2 * (g 1).toNatClampNeg)), (4, .ref (m + 276 + 2 * (g 1 + 1).toNatClampNeg)), (5, .ref (m + 276 + 2 * (g 1 + 1 + 1).toNatClampNeg)), (6, .ref (m + 276 + 2 * (g 1 + 1 + 1 + 1).toNatClampNeg)), (7, .ref (m + 276 + 2 * (g 1 + 1 + 1 + 1 + 1).toNatClampNeg)), (8, .int y8_45), (9, .int y9_45), (12, .int y12_179), (13, .int y13_216)]) (st' := [.ref m, .ref (m + 276 + 2 * (g 1 + 1 + 1 + 1 + 1).toNatClampNeg), .ref (m + 276 + 2 * (g 1 + 1).toNatClampNeg)]) [(265, .aload 4), (267, .aload 7), (269, .aload_n 0)] (by decide +kernel) rfl ?_
                          refine zr_get (idx := 487) (k := 44) (v := .ref (m + 149)) (by decide +kernel) (by decide +kernel) hmL216 rfl ?_
                          refine zp_seg (pc' := 275) (lv' := [(0, .ref m), (1, .int cols), (2, .int (g 1)), (3, .ref (m + 276 + 2 * (g 1).toNatClampNeg)), (4, .ref (m + 276 + 2 * (g 1 + 1).toNatClampNeg)), (5, .ref (m + 276 + 2 * (g 1 + 1 + 1).toNatClampNeg)), (6, .ref (m + 276 + 2 * (g 1 + 1 + 1 + 1).toNatClampNeg)), (7, .ref (m + 276 + 2 * (g 1 + 1 + 1 + 1 + 1).toNatClampNeg)), (8, .int y8_45), (9, .int y9_45), (12, .int y12_179), (13, .int y13_216)]) (st' := [.int y12_179, .ref (m + 149), .ref (m + 276 + 2 * (g 1 + 1 + 1 + 1 + 1).toNatClampNeg), .ref (m + 276 + 2 * (g 1 + 1).toNatClampNeg)]) [(273, .iload 12)] (by decide +kernel) rfl ?_
                          obtain ⟨⟨f105, hg106, hg107⟩, -⟩ := id hb93
                          obtain ⟨s275, hs275⟩ : ∃ s9, s9 = sg1 (y12_179.toNatClampNeg) := ⟨_, rfl⟩
                          have hls275 : s275 < 26 := by rw [hs275]; exact hb93.lt _ (by omega)
                          refine zr_aald (v := .ref (m + 150 + s275)) (by decide +kernel) hg106 (by decide) (zin (by first | omega | decide) (by first | omega | decide)) (by rw [hg107 _ (by omega), hs275]; rfl) ?_
                          have hrw108 := hb93.row s275 hls275
                          refine zp_seg (pc' := 278) (lv' := [(0, .ref m), (1, .int cols), (2, .int (g 1)), (3, .ref (m + 276 + 2 * (g 1).toNatClampNeg)), (4, .ref (m + 276 + 2 * (g 1 + 1).toNatClampNeg)), (5, .ref (m + 276 + 2 * (g 1 + 1 + 1).toNatClampNeg)), (6, .ref (m + 276 + 2 * (g 1 + 1 + 1 + 1).toNatClampNeg)), (7, .ref (m + 276 + 2 * (g 1 + 1 + 1 + 1 + 1).toNatClampNeg)), (8, .int y8_45), (9, .int y9_45), (12, .int y12_179), (13, .int y13_216)]) (st' := [.int y13_216, .ref (m + 150 + s275), .ref (m + 276 + 2 * (g 1 + 1 + 1 + 1 + 1).toNatClampNeg), .ref (m + 276 + 2 * (g 1 + 1).toNatClampNeg)]) [(276, .iload 13)] (by decide +kernel) rfl ?_
                          obtain ⟨t278, ht278⟩ : ∃ t9, t9 = (y13_216.toNatClampNeg) := ⟨_, rfl⟩
                          have hlt278 : t278 < 14 := by rw [ht278]; omega
                          refine zr_aald (v := .ref (m + 7594 + 28 * s275 + 2 * t278)) (by decide +kernel) hrw108 (by decide) (zin (by first | omega | decide) (by first | omega | decide)) (by rw [ht278]; exact zbq_at ⟨by omega, by omega⟩) ?_
                          have hu279 : zU wL216 (m + 7594 + 28 * s275 + 2 * t278) 1000 (B3 y12_179.toNatClampNeg y13_216.toNatClampNeg) := by rw [hs275, ht278]; exact hBc3 y12_179.toNatClampNeg y13_216.toNatClampNeg (by omega) (by omega)
                          replace hu279 := hu279.ag (w' := wL216) (fun x g1 g2 => rfl)
                          have hb109 : zU wL216 (m + 276 + 2 * (g 1 + 1 + 1 + 1 + 1).toNatClampNeg) 1000 ((B1 y8_45.toNatClampNeg y9_45.toNatClampNeg)) := hp173_0.ag (fun x hx1 hx2 => ((heqL216 x ⟨⟨(zx_X16_clear_68 hx1 hx2 hgn1_1 hgn1_4 hgb1), (zx_X16_clear_35 hx1 hx2 hgn1_4 hgn1_5 hgb1), (zx_X16_clear_36 hx1 hx2 hgn1_4 hgb1)⟩, (zx_X16_clear_37 hx1 hx2 hgn1_4 hgb1)⟩).trans ((heq210 x (zx_X16_clear_67 hx1 hx2 hgn1_3 hgn1_4 hgb1)).trans (heqL179 x ⟨⟨(zx_X16_clear_34 hx1 hx2 hgn1_1 hgn1_4 hgb1), (zx_X16_clear_35 hx1 hx2 hgn1_4 hgn1_5 hgb1), (zx_X16_clear_36 hx1 hx2 hgn1_4 hgb1)⟩, (zx_X16_clear_37 hx1 hx2 hgn1_4 hgb1)⟩))))
                          refine zr_callS (idx := 106) (j := 267) (by decide +kernel) (by decide +kernel) (by decide) (show zMe 267 = some zq_X16_times from rfl) rfl rfl (Nat.le_of_ble_eq_true rfl) rfl rfl (Nat.le_of_ble_eq_true rfl) (Nat.le_of_ble_eq_true rfl) (c_X16_times (w := wL216) (m + 276 + 2 * (g 1 + 1).toNatClampNeg) (m + 276 + 2 * (g 1 + 1 + 1 + 1 + 1).toNatClampNeg) (m + 7594 + 28 * s275 + 2 * t278) hWo1 hb109 hu279 (by first | omega | decide | assumption | exact zr1_1 | exact zr1_0 | fail "num") (by first | omega | decide | assumption | exact zr1_1 | exact zr1_0 | fail "num") (by first | omega | decide | assumption | exact zr1_1 | exact zr1_0 | fail "num") (by first | omega | decide | assumption | exact zr1_1 | exact zr1_0 | fail "num")) (by omega) (fun v279 w279 hp279 => ?_)
                          obtain ⟨hsi279, heq279, hp279_0, rfl⟩ := hp279
                          show zP _ _ _ _ [] _ _ _ _ _
                          refine zp_seg (pc' := 287) (lv' := [(0, .ref m), (1, .int cols), (2, .int (g 1)), (3, .ref (m + 276 + 2 * (g 1).toNatClampNeg)), (4, .ref (m + 276 + 2 * (g 1 + 1).toNatClampNeg)), (5, .ref (m + 276 + 2 * (g 1 + 1 + 1).toNatClampNeg)), (6, .ref (m + 276 + 2 * (g 1 + 1 + 1 + 1).toNatClampNeg)), (7, .ref (m + 276 + 2 * (g 1 + 1 + 1 + 1 + 1).toNatClampNeg)), (8, .int y8_45), (9, .int y9_45), (12, .int y12_179), (13, .int y13_216)]) (st' := [.ref m, .ref (m + 276 + 2 * (g 1 + 1 + 1 + 1).toNatClampNeg), .ref (m + 276 + 2 * (g 1 + 1 + 1).toNatClampNeg)]) [(282, .aload 5), (284, .aload 6), (286, .aload_n 0)] (by decide +kernel) rfl ?_
                          have hb110 : w279 m = some (.inl (15, zMo m (zs g 1 (g 1 + 1 + 1 + 1 + 1 + 1)) r)) := (heq279 m (zx_X16_clear_69 hgn1_1 hgb1)).trans hmL216
                          refine zr_get (idx := 487) (k := 44) (v := .ref (m + 149)) (by decide +kernel) (by decide +kernel) hb110 rfl ?_
                          refine zp_seg (pc' := 292) (lv' := [(0, .ref m), (1, .int cols), (2, .int (g 1)), (3, .ref (m + 276 + 2 * (g 1).toNatClampNeg)), (4, .ref (m + 276 + 2 * (g 1 + 1).toNatClampNeg)), (5, .ref (m + 276 + 2 * (g 1 + 1 + 1).toNatClampNeg)), (6, .ref (m + 276 + 2 * (g 1 + 1 + 1 + 1).toNatClampNeg)), (7, .ref (m + 276 + 2 * (g 1 + 1 + 1 + 1 + 1).toNatClampNeg)), (8, .int y8_45), (9, .int y9_45), (12, .int y12_179), (13, .int y13_216)]) (st' := [.int y8_45, .ref (m + 149), .ref (m + 276 + 2 * (g 1 + 1 + 1 + 1).toNatClampNeg), .ref (m + 276 + 2 * (g 1 + 1 + 1).toNatClampNeg)]) [(290, .iload 8)] (by decide +kernel) rfl ?_
                          have hb111 : zBq w279 m sg1 := hb93.ag (fun x hx1 hx2 => (heq279 x (zx_X16_clear_70 hx1 hx2 hgn1_1 hgb1)))
                          obtain ⟨⟨f112, hg113, hg114⟩, -⟩ := id hb111
                          obtain ⟨s292, hs292⟩ : ∃ s9, s9 = sg1 (y8_45.toNatClampNeg) := ⟨_, rfl⟩
                          have hls292 : s292 < 26 := by rw [hs292]; exact hb111.lt _ (by omega)
                          refine zr_aald (v := .ref (m + 150 + s292)) (by decide +kernel) hg113 (by decide) (zin (by first | omega | decide) (by first | omega | decide)) (by rw [hg114 _ (by omega), hs292]; rfl) ?_
                          have hrw115 := hb111.row s292 hls292
                          refine zp_seg (pc' := 295) (lv' := [(0, .ref m), (1, .int cols), (2, .int (g 1)), (3, .ref (m + 276 + 2 * (g 1).toNatClampNeg)), (4, .ref (m + 276 + 2 * (g 1 + 1).toNatClampNeg)), (5, .ref (m + 276 + 2 * (g 1 + 1 + 1).toNatClampNeg)), (6, .ref (m + 276 + 2 * (g 1 + 1 + 1 + 1).toNatClampNeg)), (7, .ref (m + 276 + 2 * (g 1 + 1 + 1 + 1 + 1).toNatClampNeg)), (8, .int y8_45), (9, .int y9_45), (12, .int y12_179), (13, .int y13_216)]) (st' := [.int y13_216, .ref (m + 150 + s292), .ref (m + 276 + 2 * (g 1 + 1 + 1 + 1).toNatClampNeg), .ref (m + 276 + 2 * (g 1 + 1 + 1).toNatClampNeg)]) [(293, .iload 13)] (by decide +kernel) rfl ?_
                          obtain ⟨t295, ht295⟩ : ∃ t9, t9 = (y13_216.toNatClampNeg) := ⟨_, rfl⟩
                          have hlt295 : t295 < 14 := by rw [ht295]; omega
                          refine zr_aald (v := .ref (m + 7594 + 28 * s292 + 2 * t295)) (by decide +kernel) hrw115 (by decide) (zin (by first | omega | decide) (by first | omega | decide)) (by rw [ht295]; exact zbq_at ⟨by omega, by omega⟩) ?_
                          have hu296 : zU wL216 (m + 7594 + 28 * s292 + 2 * t295) 1000 (B3 y8_45.toNatClampNeg y13_216.toNatClampNeg) := by rw [hs292, ht295]; exact hBc3 y8_45.toNatClampNeg y13_216.toNatClampNeg (by omega) (by omega)
                          replace hu296 := hu296.ag (w' := w279) (fun x g1 g2 => (heq279 x (zx_X16_clear_71 g1 g2 hls292 hlt295 hgn1_1 hgb1)))
                          have hb116 := hWo2.si hsi279
                          have hb117 : zU w279 (m + 276 + 2 * (g 1 + 1 + 1 + 1).toNatClampNeg) 1000 ((B2 y12_179.toNatClampNeg y9_45.toNatClampNeg)) := hp210_0.ag (fun x hx1 hx2 => ((heq279 x (zx_X16_clear_76 hx1 hx2 hgn1_1 hgn1_3 hgb1)).trans (heqL216 x ⟨⟨(zx_X16_clear_72 hx1 hx2 hgn1_1 hgn1_3 hgb1), (zx_X16_clear_73 hx1 hx2 hgn1_3 hgn1_5 hgb1), (zx_X16_clear_74 hx1 hx2 hgn1_3 hgb1)⟩, (zx_X16_clear_75 hx1 hx2 hgn1_3 hgb1)⟩)))
                          refine zr_callS (idx := 106) (j := 267) (by decide +kernel) (by decide +kernel) (by decide) (show zMe 267 = some zq_X16_times from rfl) rfl rfl (Nat.le_of_ble_eq_true rfl) rfl rfl (Nat.le_of_ble_eq_true rfl) (Nat.le_of_ble_eq_true rfl) (c_X16_times (w := w279) (m + 276 + 2 * (g 1 + 1 + 1).toNatClampNeg) (m + 276 + 2 * (g 1 + 1 + 1 + 1).toNatClampNeg) (m + 7594 + 28 * s292 + 2 * t295) hb116 hb117 hu296 (by first | omega | decide | assumption | exact zr1_1 | exact zr1_0 | fail "num") (by first | omega | decide | assumption | exact zr1_1 | exact zr1_0 | fail "num") (by first | omega | decide | assumption | exact zr1_1 | exact zr1_0 | fail "num") (by first | omega | decide | assumption | exact zr1_1 | exact zr1_0 | fail "num")) (by omega) (fun v296 w296 hp296 => ?_)
                          obtain ⟨hsi296, heq296, hp296_0, rfl⟩ := hp296
                          show zP _ _ _ _ [] _ _ _ _ _
                          have hpl1 := zln_Mle (B1 y8_45.toNatClampNeg y9_45.toNatClampNeg) (B3 y12_179.toNatClampNeg y13_216.toNatClampNeg)
                          have hpl2 := zln_Mle (B2 y12_179.toNatClampNeg y9_45.toNatClampNeg) (B3 y8_45.toNatClampNeg y13_216.toNatClampNeg)
                          refine zp_seg (pc' := 306) (lv' := [(0, .ref m), (1, .int cols), (2, .int (g 1)), (3, .ref (m + 276 + 2 * (g 1).toNatClampNeg)), (4, .ref (m + 276 + 2 * (g 1 + 1).toNatClampNeg)), (5, .ref (m + 276 + 2 * (g 1 + 1 + 1).toNatClampNeg)), (6, .ref (m + 276 + 2 * (g 1 + 1 + 1 + 1).toNatClampNeg)), (7, .ref (m + 276 + 2 * (g 1 + 1 + 1 + 1 + 1).toNatClampNeg)), (8, .int y8_45), (9, .int y9_45), (12, .int y12_179), (13, .int y13_216)]) (st' := [.int 1, .ref (m + 276 + 2 * (g 1 + 1 + 1).toNatClampNeg), .ref (m + 276 + 2 * (g 1 + 1).toNatClampNeg), .ref (m + 276 + 2 * (g 1 + 1).toNatClampNeg)]) [(299, .aload 4), (301, .aload 4), (303, .aload 5), (305, .iconst 1)] (by decide +kernel) rfl ?_
                          have hb118 : zU w296 (m + 276 + 2 * (g 1 + 1).toNatClampNeg) 1000 (zaM (B1 y8_45.toNatClampNeg y9_45.toNatClampNeg) (B3 y12_179.toNatClampNeg y13_216.toNatClampNeg)) := hp279_0.ag (fun x hx1 hx2 => (heq296 x (zx_X16_clear_77 hx1 hx2 hgn1_1 hgn1_2 hgb1)))
                          have ho306_to := zU.o hb118
                          refine zr_callS (idx := 101) (j := 265) (by decide +kernel) (by decide +kernel) (by decide) (show zMe 265 = some zq_X16_plus from rfl) rfl rfl (Nat.le_of_ble_eq_true rfl) rfl rfl (Nat.le_of_ble_eq_true rfl) (Nat.le_of_ble_eq_true rfl) (c_X16_plusS (w := w296) (m + 276 + 2 * (g 1 + 1).toNatClampNeg) (m + 276 + 2 * (g 1 + 1).toNatClampNeg) (m + 276 + 2 * (g 1 + 1 + 1).toNatClampNeg)  ho306_to hb118 hp296_0 (by first | omega | decide | assumption | exact zr1_1 | exact zr1_0 | fail "num") (by first | omega | decide | assumption | exact zr1_1 | exact zr1_0 | fail "num")) (by omega) (fun v306 w306 hp306 => ?_)
                          obtain ⟨hsi306, heq306, hp306_0, rfl⟩ := hp306
                          show zP _ _ _ _ [] _ _ _ _ _
                          have hpl3 := zln_S (zaM (B1 y8_45.toNatClampNeg y9_45.toNatClampNeg) (B3 y12_179.toNatClampNeg y13_216.toNatClampNeg)) (zaM (B2 y12_179.toNatClampNeg y9_45.toNatClampNeg) (B3 y8_45.toNatClampNeg y13_216.toNatClampNeg))
                          refine zp_seg (pc' := 311) (lv' := [(0, .ref m), (1, .int cols), (2, .int (g 1)), (3, .ref (m + 276 + 2 * (g 1).toNatClampNeg)), (4, .ref (m + 276 + 2 * (g 1 + 1).toNatClampNeg)), (5, .ref (m + 276 + 2 * (g 1 + 1 + 1).toNatClampNeg)), (6, .ref (m + 276 + 2 * (g 1 + 1 + 1 + 1).toNatClampNeg)), (7, .ref (m + 276 + 2 * (g 1 + 1 + 1 + 1 + 1).toNatClampNeg)), (8, .int y8_45), (9, .int y9_45), (12, .int y12_179), (13, .int y13_216)]) (st' := [.ref m, .ref m]) [(309, .aload_n 0), (310, .aload_n 0)] (by decide +kernel) rfl ?_
                          have hb119 : w306 m = some (.inl (15, zMo m (zs g 1 (g 1 + 1 + 1 + 1 + 1 + 1)) r)) := ((heq306 m (zx_X16_clear_69 hgn1_1 hgb1)).trans (heq296 m (zx_X16_clear_78 hgn1_2 hgb1))).trans hb110
                          refine zr_get (idx := 487) (k := 44) (v := .ref (m + 149)) (by decide +kernel) (by decide +kernel) hb119 rfl ?_
                          refine zp_seg (pc' := 316) (lv' := [(0, .ref m), (1, .int cols), (2, .int (g 1)), (3, .ref (m + 276 + 2 * (g 1).toNatClampNeg)), (4, .ref (m + 276 + 2 * (g 1 + 1).toNatClampNeg)), (5, .ref (m + 276 + 2 * (g 1 + 1 + 1).toNatClampNeg)), (6, .ref (m + 276 + 2 * (g 1 + 1 + 1 + 1).toNatClampNeg)), (7, .ref (m + 276 + 2 * (g 1 + 1 + 1 + 1 + 1).toNatClampNeg)), (8, .int y8_45), (9, .int y9_45), (12, .int y12_179), (13, .int y13_216)]) (st' := [.int y12_179, .ref (m + 149), .ref m]) [(314, .iload 12)] (by decide +kernel) rfl ?_
                          have hb120 : zBq w306 m sg1 := hb111.ag (fun x hx1 hx2 => ((heq306 x (zx_X16_clear_70 hx1 hx2 hgn1_1 hgb1)).trans (heq296 x (zx_X16_clear_79 hx1 hx2 hgn1_2 hgb1))))
                          obtain ⟨⟨f121, hg122, hg123⟩, -⟩ := id hb120
                          obtain ⟨s316, hs316⟩ : ∃ s9, s9 = sg1 (y12_179.toNatClampNeg) := ⟨_, rfl⟩
                          have hls316 : s316 < 26 := by rw [hs316]; exact hb120.lt _ (by omega)
                          refine zr_aald (v := .ref (m + 150 + s316)) (by decide +kernel) hg122 (by decide) (zin (by first | omega | decide) (by first | omega | decide)) (by rw [hg123 _ (by omega), hs316]; rfl) ?_
                          have hrw124 := hb120.row s316 hls316
                          refine zp_seg (pc' := 319) (lv' := [(0, .ref m), (1, .int cols), (2, .int (g 1)), (3, .ref (m + 276 + 2 * (g 1).toNatClampNeg)), (4, .ref (m + 276 + 2 * (g 1 + 1).toNatClampNeg)), (5, .ref (m + 276 + 2 * (g 1 + 1 + 1).toNatClampNeg)), (6, .ref (m + 276 + 2 * (g 1 + 1 + 1 + 1).toNatClampNeg)), (7, .ref (m + 276 + 2 * (g 1 + 1 + 1 + 1 + 1).toNatClampNeg)), (8, .int y8_45), (9, .int y9_45), (12, .int y12_179), (13, .int y13_216)]) (st' := [.int y13_216, .ref (m + 150 + s316), .ref m]) [(317, .iload 13)] (by decide +kernel) rfl ?_
                          obtain ⟨t319, ht319⟩ : ∃ t9, t9 = (y13_216.toNatClampNeg) := ⟨_, rfl⟩
                          have hlt319 : t319 < 14 := by rw [ht319]; omega
                          refine zr_aald (v := .ref (m + 7594 + 28 * s316 + 2 * t319)) (by decide +kernel) hrw124 (by decide) (zin (by first | omega | decide) (by first | omega | decide)) (by rw [ht319]; exact zbq_at ⟨by omega, by omega⟩) ?_
                          have hu320 : zU wL216 (m + 7594 + 28 * s316 + 2 * t319) 1000 (B3 y12_179.toNatClampNeg y13_216.toNatClampNeg) := by rw [hs316, ht319]; exact hBc3 y12_179.toNatClampNeg y13_216.toNatClampNeg (by omega) (by omega)
                          replace hu320 := hu320.ag (w' := w306) (fun x g1 g2 => ((heq306 x (zx_X16_clear_80 g1 g2 hls316 hlt319 hgn1_1 hgb1)).trans ((heq296 x (zx_X16_clear_81 g1 g2 hls316 hlt319 hgn1_2 hgb1)).trans (heq279 x (zx_X16_clear_80 g1 g2 hls316 hlt319 hgn1_1 hgb1)))))
                          refine zp_seg (pc' := 323) (lv' := [(0, .ref m), (1, .int cols), (2, .int (g 1)), (3, .ref (m + 276 + 2 * (g 1).toNatClampNeg)), (4, .ref (m + 276 + 2 * (g 1 + 1).toNatClampNeg)), (5, .ref (m + 276 + 2 * (g 1 + 1 + 1).toNatClampNeg)), (6, .ref (m + 276 + 2 * (g 1 + 1 + 1 + 1).toNatClampNeg)), (7, .ref (m + 276 + 2 * (g 1 + 1 + 1 + 1 + 1).toNatClampNeg)), (8, .int y8_45), (9, .int y9_45), (12, .int y12_179), (13, .int y13_216)]) (st' := [.ref (m + 276 + 2 * (g 1).toNatClampNeg), .ref (m + 276 + 2 * (g 1 + 1).toNatClampNeg), .ref (m + 7594 + 28 * s316 + 2 * t319), .ref m]) [(320, .aload 4), (322, .aload_n 3)] (by decide +kernel) rfl ?_
                          have hb125 := hb21.si (((((((((((((hsi29.tr hsi36).tr hsiL45).tr hsi106).tr hsi128).tr hsi151).tr hsi160).tr hsi173).tr hsiL179).tr hsi210).tr hsiL216).tr hsi279).tr hsi296).tr hsi306)
                          have ho323_to := zU.o hu320
                          have hb126 : zU w306 (m + 276 + 2 * (g 1).toNatClampNeg) 1000 L9 := hUL9.ag (fun x hx1 hx2 => ((heq306 x (zx_X16_clear_1 hx1 hx2 hgn1_1 hgb1)).trans ((heq296 x (zx_X16_clear_2 hx1 hx2 hgn1_2 hgb1)).trans ((heq279 x (zx_X16_clear_1 hx1 hx2 hgn1_1 hgb1)).trans ((heqL216 x ⟨⟨(zx_X16_clear_82 hx1 hx2 hgn1_1 hgb1), (zx_X16_clear_32 hx1 hx2 hgn1_5 hgb1), (zx_X16_clear_33 hx1 hx2 hgb1)⟩, (zx_X16_clear_13 hx1 hx2 hgb1)⟩).trans ((heq210 x (zx_X16_clear_3 hx1 hx2 hgn1_3 hgb1)).trans ((heqL179 x ⟨⟨(zx_X16_clear_31 hx1 hx2 hgn1_1 hgb1), (zx_X16_clear_32 hx1 hx2 hgn1_5 hgb1), (zx_X16_clear_33 hx1 hx2 hgb1)⟩, (zx_X16_clear_13 hx1 hx2 hgb1)⟩).trans ((heq173 x (zx_X16_clear_4 hx1 hx2 hgn1_4 hgb1)).trans ((heq160 x (zx_X16_clear_30 hx1 hx2 hgb1)).trans ((heq151 x (zx_X16_clear_30 hx1 hx2 hgb1)).trans ((heq128 x (zx_X16_clear_29 hx1 hx2 hgb1)).trans (heq106 x (zx_X16_clear_28 hx1 hx2 hgb1)))))))))))))
                          refine zr_callV (idx := 110) (j := 271) (by decide +kernel) (by decide +kernel) (show zMe 271 = some zq_X16_exact from rfl) rfl rfl (Nat.le_of_ble_eq_true rfl) rfl rfl hb119 (Nat.le_of_ble_eq_true rfl) (Nat.le_of_ble_eq_true rfl) (c_X16_exact (w := w306) (g1 := (g 1 + 1 + 1 + 1 + 1 + 1)) m (m + 7594 + 28 * s316 + 2 * t319) (m + 276 + 2 * (g 1 + 1).toNatClampNeg) (m + 276 + 2 * (g 1).toNatClampNeg) hb119 hb125 ho323_to hp306_0 hb126 (by first | omega | decide | assumption | exact zr1_1 | exact zr1_0 | fail "num") (by first | omega | decide | assumption | exact zr1_1 | exact zr1_0 | fail "num") (by first | omega | decide | assumption | exact zr1_1 | exact zr1_0 | fail "num") (by first | omega | decide | assumption | exact zr1_1 | exact zr1_0 | fail "num") (by first | omega | decide | assumption | exact zr1_1 | exact zr1_0 | fail "num") (by first | omega | decide | assumption | exact zr1_1 | exact zr1_0 | fail "num") (by first | omega | decide | assumption | exact zr1_1 | exact zr1_0 | fail "num") (by first | omega | decide | assumption | exact zr1_1 | exact zr1_0 | fail "num") rfl) (by omega) (fun v323 w323 hp323 => ?_)
                          obtain ⟨hsi323, heq323, hp323_0, rfl⟩ := hp323
                          show zP _ _ _ _ [] _ _ _ _ _
                          have hex9 : zaM L9 (zquo (zaS (zaM (B1 y8_45.toNatClampNeg y9_45.toNatClampNeg) (B3 y12_179.toNatClampNeg y13_216.toNatClampNeg)) (zaM (B2 y12_179.toNatClampNeg y9_45.toNatClampNeg) (B3 y8_45.toNatClampNeg y13_216.toNatClampNeg))) L9) = zaS (zaM (B1 y8_45.toNatClampNeg y9_45.toNatClampNeg) (B3 y12_179.toNatClampNeg y13_216.toNatClampNeg)) (zaM (B2 y12_179.toNatClampNeg y9_45.toNatClampNeg) (B3 y8_45.toNatClampNeg y13_216.toNatClampNeg)) := by
                            obtain ⟨q9, hq9⟩ := @zBI_q zA1 zA1R zA1_dom _ _ _ _ _ _ _ hBIS (by omega) y9_45.toNatClampNeg (by omega) (fun e => hSS (zln_0.mpr e)) y12_179.toNatClampNeg y13_216.toNatClampNeg (by omega) hne8 (by omega)
                            refine zex_q (q := q9) ?_ hL01
                            rw [hb3a, hb2a, hb3b, hb2b, hb28]
                            exact hq9
                          have hU9 := hp323_0
                          have he4 : ∀ x, m + 7594 ≤ x → x < m + 7594 + 728 → (x < m + 7594 + 28 * s316 + 2 * t319 ∨ m + 7594 + 28 * s316 + 2 * t319 + 2 ≤ x) → w323 x = wL216 x := fun x g1 g2 g3 => ((heq323 x (by omega)).trans ((heq306 x (by omega)).trans ((heq296 x (by omega)).trans (heq279 x (by omega)))))
                          rw [hs316, ht319] at he4 hU9
                          obtain ⟨B4, hBc4, hB4⟩ : ∃ B4, zBc w323 m sg1 (g 48).toNatClampNeg cols.toNatClampNeg B4 ∧ (∀ i k, i ≠ y12_179.toNatClampNeg → B4 i k = B2 i k) ∧ ∀ k, k < cols.toNatClampNeg → (k < y13_216.toNatClampNeg + 1 → zaM L9 (B4 y12_179.toNatClampNeg k) = zaS (zaM (B1 y8_45.toNatClampNeg y9_45.toNatClampNeg) (B2 y12_179.toNatClampNeg k)) (zaM (B2 y12_179.toNatClampNeg y9_45.toNatClampNeg) (B2 y8_45.toNatClampNeg k))) ∧ (y13_216.toNatClampNeg + 1 ≤ k → B4 y12_179.toNatClampNeg k = B2 y12_179.toNatClampNeg k) := by
                            refine ⟨_, zBc.st hBc3 (by omega) (by omega) hBq3 (by omega) (by omega) hU9 he4, fun i k hi => ?_, fun k hk => ⟨fun h9 => ?_, fun h9 => ?_⟩⟩
                            · show (if i = y12_179.toNatClampNeg ∧ k = y13_216.toNatClampNeg then _ else B3 i k) = _
                              rw [if_neg (fun e => hi e.1)]; exact hB3.1 i k hi
                            · show zaM L9 (if y12_179.toNatClampNeg = y12_179.toNatClampNeg ∧ k = y13_216.toNatClampNeg then _ else B3 y12_179.toNatClampNeg k) = _
                              by_cases e : k = y13_216.toNatClampNeg
                              · rw [if_pos ⟨rfl, e⟩, hex9, e, ← hb3a, ← hb3b]
                              · rw [if_neg (fun e9 => e e9.2)]; exact (hB3.2 k hk).1 (by omega)
                            · show (if y12_179.toNatClampNeg = y12_179.toNatClampNeg ∧ k = y13_216.toNatClampNeg then _ else B3 y12_179.toNatClampNeg k) = _
                              rw [if_neg (fun e9 => by omega)]; exact (hB3.2 k hk).2 (by omega)
                          refine zp_seg (pc' := 329) (lv' := [(13, .int (y13_216 + 1)), (0, .ref m), (1, .int cols), (2, .int (g 1)), (3, .ref (m + 276 + 2 * (g 1).toNatClampNeg)), (4, .ref (m + 276 + 2 * (g 1 + 1).toNatClampNeg)), (5, .ref (m + 276 + 2 * (g 1 + 1 + 1).toNatClampNeg)), (6, .ref (m + 276 + 2 * (g 1 + 1 + 1 + 1).toNatClampNeg)), (7, .ref (m + 276 + 2 * (g 1 + 1 + 1 + 1 + 1).toNatClampNeg)), (8, .int y8_45), (9, .int y9_45), (12, .int y12_179)]) (st' := []) [(326, .iinc 13 1)] (by decide +kernel) rfl ?_
                          have k127 := zaddC y13_216 1 (n := 1) (by decide) (by omega) (by omega)
                          generalize ev329 : (y13_216 + 1 : Int32) = v329 at k127 ⊢
                          have kv329 := zrng v329
                          refine zp_seg (pc' := 216) (lv' := [(13, .int v329), (0, .ref m), (1, .int cols), (2, .int (g 1)), (3, .ref (m + 276 + 2 * (g 1).toNatClampNeg)), (4, .ref (m + 276 + 2 * (g 1 + 1).toNatClampNeg)), (5, .ref (m + 276 + 2 * (g 1 + 1 + 1).toNatClampNeg)), (6, .ref (m + 276 + 2 * (g 1 + 1 + 1 + 1).toNatClampNeg)), (7, .ref (m + 276 + 2 * (g 1 + 1 + 1 + 1 + 1).toNatClampNeg)), (8, .int y8_45), (9, .int y9_45), (12, .int y12_179)]) (st' := []) [(329, .goto (-113))] (by decide +kernel) rfl ?_
                          have hz128 : (v329.toNatClampNeg : Int) = v329.toInt := znat (by first | omega | decide)
                          have hb129 := hWo1.si (((hsi279.tr hsi296).tr hsi306).tr hsi323)
                          have hb130 := hb116.si ((hsi296.tr hsi306).tr hsi323)
                          have hb131 : w323 m = some (.inl (15, zMo m (zs g 1 (g 1 + 1 + 1 + 1 + 1 + 1)) r)) := (heq323 m ⟨(zx_X16_clear_86 hls316 hlt319), (zx_X16_clear_87 hgn1_5 hgb1)⟩).trans hb119
                          have hb132 : zBq w323 m sg1 := hb120.ag (fun x hx1 hx2 => (heq323 x ⟨(zx_X16_clear_88 hx1 hx2 hls316 hlt319), (zx_X16_clear_40 hx1 hx2 hgn1_5 hgb1)⟩))
                          exact (ih216 w323 v329 (B4) ((((hsiL216.tr hsi279).tr hsi296).tr hsi306).tr hsi323) (fun x hx => ((heq323 x ⟨(zx_X16_clear_85 hx.1.2.2 hls316 hlt319), hx.1.2.1⟩).trans ((heq306 x (zx_X16_clear_83 hx.1.1 hx.1.2.1 hgn1_1 hgn1_5 hgb1)).trans ((heq296 x (zx_X16_clear_84 hx.1.1 hx.1.2.1 hgn1_1 hgn1_2 hgn1_5 hgb1)).trans ((heq279 x (zx_X16_clear_83 hx.1.1 hx.1.2.1 hgn1_1 hgn1_5 hgb1)).trans (heqL216 x ⟨⟨hx.1.1, hx.1.2.1, hx.1.2.2⟩, hx.2⟩)))))) (by first | assumption | omega | decide) (by first | assumption | omega | decide) hb129 hb130 hb131 (by
                                exact hBc4) (by
                                exact ⟨hB4.1, fun k hk => ⟨fun h9 => (hB4.2 k hk).1 (by omega), fun h9 => (hB4.2 k hk).2 (by omega)⟩⟩) (by
                                exact hb132) (by omega)).more (zfa1 rfl (zfa1 rfl (zfa1 rfl (zfa1 rfl (zfa1 rfl (zfa1 rfl (zfa1 rfl (zfa1 rfl (zfa1 rfl (zfa1 rfl (zfa1 rfl (zfa1 rfl (zfa0)))))))))))))
                        refine zp_if (i := .ifCond .ne 30) (c := ¬ n98 = 0) (t := 265) (e := 238) (lv' := [(0, .ref m), (1, .int cols), (2, .int (g 1)), (3, .ref (m + 276 + 2 * (g 1).toNatClampNeg)), (4, .ref (m + 276 + 2 * (g 1 + 1).toNatClampNeg)), (5, .ref (m + 276 + 2 * (g 1 + 1 + 1).toNatClampNeg)), (6, .ref (m + 276 + 2 * (g 1 + 1 + 1 + 1).toNatClampNeg)), (7, .ref (m + 276 + 2 * (g 1 + 1 + 1 + 1 + 1).toNatClampNeg)), (8, .int y8_45), (9, .int y9_45), (12, .int y12_179), (13, .int y13_216)]) (st' := []) (by decide +kernel) rfl (fun cc235 => ?_) (fun cc235 => ?_)
                        ·
                          have f133 := zneI cc235
                          rw [show (0 : Int32).toInt = 0 from by decide] at f133
                          exact (hJ265 trivial ).more (zfa1 rfl (zfa1 rfl (zfa1 rfl (zfa1 rfl (zfa1 rfl (zfa1 rfl (zfa1 rfl (zfa1 rfl (zfa1 rfl (zfa1 rfl (zfa1 rfl (zfa1 rfl (zfa0)))))))))))))
                        ·
                          replace cc235 := Classical.not_not.mp cc235
                          have f134 := zeqI cc235
                          rw [show (0 : Int32).toInt = 0 from by decide] at f134
                          refine zp_seg (pc' := 240) (lv' := [(0, .ref m), (1, .int cols), (2, .int (g 1)), (3, .ref (m + 276 + 2 * (g 1).toNatClampNeg)), (4, .ref (m + 276 + 2 * (g 1 + 1).toNatClampNeg)), (5, .ref (m + 276 + 2 * (g 1 + 1 + 1).toNatClampNeg)), (6, .ref (m + 276 + 2 * (g 1 + 1 + 1 + 1).toNatClampNeg)), (7, .ref (m + 276 + 2 * (g 1 + 1 + 1 + 1 + 1).toNatClampNeg)), (8, .int y8_45), (9, .int y9_45), (12, .int y12_179), (13, .int y13_216)]) (st' := [.ref (m + 276 + 2 * (g 1 + 1 + 1 + 1).toNatClampNeg)]) [(238, .aload 6)] (by decide +kernel) rfl ?_
                          obtain ⟨n135, f136, hu137, hu138, hu139, hu140, hu141⟩ := id hp210_0
                          have kn135 := zrng n135
                          have hb142 : wL216 (m + 276 + 2 * (g 1 + 1 + 1 + 1).toNatClampNeg) = some (.inl (14, [.ref (m + 276 + 2 * (g 1 + 1 + 1 + 1).toNatClampNeg + 1), .int n135])) := (heqL216 (m + 276 + 2 * (g 1 + 1 + 1 + 1).toNatClampNeg) ⟨⟨(zx_X16_clear_89 hgn1_1 hgn1_3 hgb1), (zx_X16_clear_90 hgn1_3 hgn1_5 hgb1), (zx_X16_clear_91 hgn1_3 hgb1)⟩, (zx_X16_clear_92 hgn1_3 hgb1)⟩).trans hu137
                          refine zr_get (idx := 25) (k := 1) (v := .int n135) (by decide +kernel) (by decide +kernel) hb142 rfl ?_
                          refine zp_if (i := .ifCond .eq 83) (c := n135 = 0) (t := 326) (e := 246) (lv' := [(0, .ref m), (1, .int cols), (2, .int (g 1)), (3, .ref (m + 276 + 2 * (g 1).toNatClampNeg)), (4, .ref (m + 276 + 2 * (g 1 + 1).toNatClampNeg)), (5, .ref (m + 276 + 2 * (g 1 + 1 + 1).toNatClampNeg)), (6, .ref (m + 276 + 2 * (g 1 + 1 + 1 + 1).toNatClampNeg)), (7, .ref (m + 276 + 2 * (g 1 + 1 + 1 + 1 + 1).toNatClampNeg)), (8, .int y8_45), (9, .int y9_45), (12, .int y12_179), (13, .int y13_216)]) (st' := []) (by decide +kernel) rfl (fun cc243 => ?_) (fun cc243 => ?_)
                          ·
                            have f143 := zeqI cc243
                            rw [show (0 : Int32).toInt = 0 from by decide] at f143
                            have hne8 : y12_179.toNatClampNeg ≠ y8_45.toNatClampNeg := fun e => cc192 (by apply Int32.toInt_inj.mp; omega)
                            have hb3a := (hB3.2 y13_216.toNatClampNeg (by omega)).2 (Nat.le_refl _)
                            have hb3b := hB3.1 y8_45.toNatClampNeg y13_216.toNatClampNeg (fun e => hne8 e.symm)
                            have hzi9 : B3 y12_179.toNatClampNeg y13_216.toNatClampNeg = zaZ := zln_0.mp (by omega)
                            have hzr8 : B2 y12_179.toNatClampNeg y9_45.toNatClampNeg = zaZ ∨ B3 y8_45.toNatClampNeg y13_216.toNatClampNeg = zaZ := by
                              first
                              | exact Or.inl (zln_0.mp (by omega))
                              | exact Or.inr (zln_0.mp (by omega))
                            obtain ⟨B4, hBc4, hB4⟩ : ∃ B4, zBc wL216 m sg1 (g 48).toNatClampNeg cols.toNatClampNeg B4 ∧ (∀ i k, i ≠ y12_179.toNatClampNeg → B4 i k = B2 i k) ∧ ∀ k, k < cols.toNatClampNeg → (k < y13_216.toNatClampNeg + 1 → zaM L9 (B4 y12_179.toNatClampNeg k) = zaS (zaM (B1 y8_45.toNatClampNeg y9_45.toNatClampNeg) (B2 y12_179.toNatClampNeg k)) (zaM (B2 y12_179.toNatClampNeg y9_45.toNatClampNeg) (B2 y8_45.toNatClampNeg k))) ∧ (y13_216.toNatClampNeg + 1 ≤ k → B4 y12_179.toNatClampNeg k = B2 y12_179.toNatClampNeg k) := by
                              refine ⟨B3, hBc3, hB3.1, fun k hk => ⟨fun h9 => ?_, fun h9 => (hB3.2 k hk).2 (by omega)⟩⟩
                              by_cases e : k = y13_216.toNatClampNeg
                              · rw [e, ← hb3a, ← hb3b, hzi9, zaM_Zr, zaM_Zr]
                                rcases hzr8 with h8 | h8
                                · rw [h8, zaM_Zl]; exact (zaS_ZZ).symm
                                · rw [h8, zaM_Zr]; exact (zaS_ZZ).symm
                              · exact (hB3.2 k hk).1 (by omega)
                            refine zp_seg (pc' := 329) (lv' := [(13, .int (y13_216 + 1)), (0, .ref m), (1, .int cols), (2, .int (g 1)), (3, .ref (m + 276 + 2 * (g 1).toNatClampNeg)), (4, .ref (m + 276 + 2 * (g 1 + 1).toNatClampNeg)), (5, .ref (m + 276 + 2 * (g 1 + 1 + 1).toNatClampNeg)), (6, .ref (m + 276 + 2 * (g 1 + 1 + 1 + 1).toNatClampNeg)), (7, .ref (m + 276 + 2 * (g 1 + 1 + 1 + 1 + 1).toNatClampNeg)), (8, .int y8_45), (9, .int y9_45), (12, .int y12_179)]) (st' := []) [(326, .iinc 13 1)] (by decide +kernel) rfl ?_
                            have k144 := zaddC y13_216 1 (n := 1) (by decide) (by omega) (by omega)
                            generalize ev329 : (y13_216 + 1 : Int32) = v329 at k144 ⊢
                            have kv329 := zrng v329
                            refine zp_seg (pc' := 216) (lv' := [(13, .int v329), (0, .ref m), (1, .int cols), (2, .int (g 1)), (3, .ref (m + 276 + 2 * (g 1).toNatClampNeg)), (4, .ref (m + 276 + 2 * (g 1 + 1).toNatClampNeg)), (5, .ref (m + 276 + 2 * (g 1 + 1 + 1).toNatClampNeg)), (6, .ref (m + 276 + 2 * (g 1 + 1 + 1 + 1).toNatClampNeg)), (7, .ref (m + 276 + 2 * (g 1 + 1 + 1 + 1 + 1).toNatClampNeg)), (8, .int y8_45), (9, .int y9_45), (12, .int y12_179)]) (st' := []) [(329, .goto (-113))] (by decide +kernel) rfl ?_
                            have hz145 : (v329.toNatClampNeg : Int) = v329.toInt := znat (by first | omega | decide)
                            exact (ih216 wL216 v329 (B4) hsiL216 (fun x hx => (heqL216 x ⟨⟨hx.1.1, hx.1.2.1, hx.1.2.2⟩, hx.2⟩)) (by first | assumption | omega | decide) (by first | assumption | omega | decide) hWo1 hWo2 hmL216 (by
                                  exact hBc4) (by
                                  exact ⟨hB4.1, fun k hk => ⟨fun h9 => (hB4.2 k hk).1 (by omega), fun h9 => (hB4.2 k hk).2 (by omega)⟩⟩) (by
                                  exact hb93) (by omega)).more (zfa1 rfl (zfa1 rfl (zfa1 rfl (zfa1 rfl (zfa1 rfl (zfa1 rfl (zfa1 rfl (zfa1 rfl (zfa1 rfl (zfa1 rfl (zfa1 rfl (zfa1 rfl (zfa0)))))))))))))
                          ·
                            have f146 := zneI cc243
                            rw [show (0 : Int32).toInt = 0 from by decide] at f146
                            refine zp_seg (pc' := 247) (lv' := [(0, .ref m), (1, .int cols), (2, .int (g 1)), (3, .ref (m + 276 + 2 * (g 1).toNatClampNeg)), (4, .ref (m + 276 + 2 * (g 1 + 1).toNatClampNeg)), (5, .ref (m + 276 + 2 * (g 1 + 1 + 1).toNatClampNeg)), (6, .ref (m + 276 + 2 * (g 1 + 1 + 1 + 1).toNatClampNeg)), (7, .ref (m + 276 + 2 * (g 1 + 1 + 1 + 1 + 1).toNatClampNeg)), (8, .int y8_45), (9, .int y9_45), (12, .int y12_179), (13, .int y13_216)]) (st' := [.ref m]) [(246, .aload_n 0)] (by decide +kernel) rfl ?_
                            refine zr_get (idx := 487) (k := 44) (v := .ref (m + 149)) (by decide +kernel) (by decide +kernel) hmL216 rfl ?_
                            refine zp_seg (pc' := 252) (lv' := [(0, .ref m), (1, .int cols), (2, .int (g 1)), (3, .ref (m + 276 + 2 * (g 1).toNatClampNeg)), (4, .ref (m + 276 + 2 * (g 1 + 1).toNatClampNeg)), (5, .ref (m + 276 + 2 * (g 1 + 1 + 1).toNatClampNeg)), (6, .ref (m + 276 + 2 * (g 1 + 1 + 1 + 1).toNatClampNeg)), (7, .ref (m + 276 + 2 * (g 1 + 1 + 1 + 1 + 1).toNatClampNeg)), (8, .int y8_45), (9, .int y9_45), (12, .int y12_179), (13, .int y13_216)]) (st' := [.int y8_45, .ref (m + 149)]) [(250, .iload 8)] (by decide +kernel) rfl ?_
                            obtain ⟨⟨f147, hg148, hg149⟩, -⟩ := id hb93
                            obtain ⟨s252, hs252⟩ : ∃ s9, s9 = sg1 (y8_45.toNatClampNeg) := ⟨_, rfl⟩
                            have hls252 : s252 < 26 := by rw [hs252]; exact hb93.lt _ (by omega)
                            refine zr_aald (v := .ref (m + 150 + s252)) (by decide +kernel) hg148 (by decide) (zin (by first | omega | decide) (by first | omega | decide)) (by rw [hg149 _ (by omega), hs252]; rfl) ?_
                            have hrw150 := hb93.row s252 hls252
                            refine zp_seg (pc' := 255) (lv' := [(0, .ref m), (1, .int cols), (2, .int (g 1)), (3, .ref (m + 276 + 2 * (g 1).toNatClampNeg)), (4, .ref (m + 276 + 2 * (g 1 + 1).toNatClampNeg)), (5, .ref (m + 276 + 2 * (g 1 + 1 + 1).toNatClampNeg)), (6, .ref (m + 276 + 2 * (g 1 + 1 + 1 + 1).toNatClampNeg)), (7, .ref (m + 276 + 2 * (g 1 + 1 + 1 + 1 + 1).toNatClampNeg)), (8, .int y8_45), (9, .int y9_45), (12, .int y12_179), (13, .int y13_216)]) (st' := [.int y13_216, .ref (m + 150 + s252)]) [(253, .iload 13)] (by decide +kernel) rfl ?_
                            obtain ⟨t255, ht255⟩ : ∃ t9, t9 = (y13_216.toNatClampNeg) := ⟨_, rfl⟩
                            have hlt255 : t255 < 14 := by rw [ht255]; omega
                            refine zr_aald (v := .ref (m + 7594 + 28 * s252 + 2 * t255)) (by decide +kernel) hrw150 (by decide) (zin (by first | omega | decide) (by first | omega | decide)) (by rw [ht255]; exact zbq_at ⟨by omega, by omega⟩) ?_
                            have hu256 : zU wL216 (m + 7594 + 28 * s252 + 2 * t255) 1000 (B3 y8_45.toNatClampNeg y13_216.toNatClampNeg) := by rw [hs252, ht255]; exact hBc3 y8_45.toNatClampNeg y13_216.toNatClampNeg (by omega) (by omega)
                            replace hu256 := hu256.ag (w' := wL216) (fun x g1 g2 => rfl)
                            obtain ⟨n151, f152, hu153, hu154, hu155, hu156, hu157⟩ := id hu256
                            have kn151 := zrng n151
                            refine zr_get (idx := 25) (k := 1) (v := .int n151) (by decide +kernel) (by decide +kernel) hu153 rfl ?_
                            refine zp_if (i := .ifCond .ne 6) (c := ¬ n151 = 0) (t := 265) (e := 262) (lv' := [(0, .ref m), (1, .int cols), (2, .int (g 1)), (3, .ref (m + 276 + 2 * (g 1).toNatClampNeg)), (4, .ref (m + 276 + 2 * (g 1 + 1).toNatClampNeg)), (5, .ref (m + 276 + 2 * (g 1 + 1 + 1).toNatClampNeg)), (6, .ref (m + 276 + 2 * (g 1 + 1 + 1 + 1).toNatClampNeg)), (7, .ref (m + 276 + 2 * (g 1 + 1 + 1 + 1 + 1).toNatClampNeg)), (8, .int y8_45), (9, .int y9_45), (12, .int y12_179), (13, .int y13_216)]) (st' := []) (by decide +kernel) rfl (fun cc259 => ?_) (fun cc259 => ?_)
                            ·
                              have f158 := zneI cc259
                              rw [show (0 : Int32).toInt = 0 from by decide] at f158
                              exact (hJ265 trivial ).more (zfa1 rfl (zfa1 rfl (zfa1 rfl (zfa1 rfl (zfa1 rfl (zfa1 rfl (zfa1 rfl (zfa1 rfl (zfa1 rfl (zfa1 rfl (zfa1 rfl (zfa1 rfl (zfa0)))))))))))))
                            ·
                              replace cc259 := Classical.not_not.mp cc259
                              have f159 := zeqI cc259
                              rw [show (0 : Int32).toInt = 0 from by decide] at f159
                              refine zp_seg (pc' := 326) (lv' := [(0, .ref m), (1, .int cols), (2, .int (g 1)), (3, .ref (m + 276 + 2 * (g 1).toNatClampNeg)), (4, .ref (m + 276 + 2 * (g 1 + 1).toNatClampNeg)), (5, .ref (m + 276 + 2 * (g 1 + 1 + 1).toNatClampNeg)), (6, .ref (m + 276 + 2 * (g 1 + 1 + 1 + 1).toNatClampNeg)), (7, .ref (m + 276 + 2 * (g 1 + 1 + 1 + 1 + 1).toNatClampNeg)), (8, .int y8_45), (9, .int y9_45), (12, .int y12_179), (13, .int y13_216)]) (st' := []) [(262, .goto 64)] (by decide +kernel) rfl ?_
                              have hne8 : y12_179.toNatClampNeg ≠ y8_45.toNatClampNeg := fun e => cc192 (by apply Int32.toInt_inj.mp; omega)
                              have hb3a := (hB3.2 y13_216.toNatClampNeg (by omega)).2 (Nat.le_refl _)
                              have hb3b := hB3.1 y8_45.toNatClampNeg y13_216.toNatClampNeg (fun e => hne8 e.symm)
                              have hzi9 : B3 y12_179.toNatClampNeg y13_216.toNatClampNeg = zaZ := zln_0.mp (by omega)
                              have hzr8 : B2 y12_179.toNatClampNeg y9_45.toNatClampNeg = zaZ ∨ B3 y8_45.toNatClampNeg y13_216.toNatClampNeg = zaZ := by
                                first
                                | exact Or.inl (zln_0.mp (by omega))
                                | exact Or.inr (zln_0.mp (by omega))
                              obtain ⟨B4, hBc4, hB4⟩ : ∃ B4, zBc wL216 m sg1 (g 48).toNatClampNeg cols.toNatClampNeg B4 ∧ (∀ i k, i ≠ y12_179.toNatClampNeg → B4 i k = B2 i k) ∧ ∀ k, k < cols.toNatClampNeg → (k < y13_216.toNatClampNeg + 1 → zaM L9 (B4 y12_179.toNatClampNeg k) = zaS (zaM (B1 y8_45.toNatClampNeg y9_45.toNatClampNeg) (B2 y12_179.toNatClampNeg k)) (zaM (B2 y12_179.toNatClampNeg y9_45.toNatClampNeg) (B2 y8_45.toNatClampNeg k))) ∧ (y13_216.toNatClampNeg + 1 ≤ k → B4 y12_179.toNatClampNeg k = B2 y12_179.toNatClampNeg k) := by
                                refine ⟨B3, hBc3, hB3.1, fun k hk => ⟨fun h9 => ?_, fun h9 => (hB3.2 k hk).2 (by omega)⟩⟩
                                by_cases e : k = y13_216.toNatClampNeg
                                · rw [e, ← hb3a, ← hb3b, hzi9, zaM_Zr, zaM_Zr]
                                  rcases hzr8 with h8 | h8
                                  · rw [h8, zaM_Zl]; exact (zaS_ZZ).symm
                                  · rw [h8, zaM_Zr]; exact (zaS_ZZ).symm
                                · exact (hB3.2 k hk).1 (by omega)
                              refine zp_seg (pc' := 329) (lv' := [(13, .int (y13_216 + 1)), (0, .ref m), (1, .int cols), (2, .int (g 1)), (3, .ref (m + 276 + 2 * (g 1).toNatClampNeg)), (4, .ref (m + 276 + 2 * (g 1 + 1).toNatClampNeg)), (5, .ref (m + 276 + 2 * (g 1 + 1 + 1).toNatClampNeg)), (6, .ref (m + 276 + 2 * (g 1 + 1 + 1 + 1).toNatClampNeg)), (7, .ref (m + 276 + 2 * (g 1 + 1 + 1 + 1 + 1).toNatClampNeg)), (8, .int y8_45), (9, .int y9_45), (12, .int y12_179)]) (st' := []) [(326, .iinc 13 1)] (by decide +kernel) rfl ?_
                              have k160 := zaddC y13_216 1 (n := 1) (by decide) (by omega) (by omega)
                              generalize ev329 : (y13_216 + 1 : Int32) = v329 at k160 ⊢
                              have kv329 := zrng v329
                              refine zp_seg (pc' := 216) (lv' := [(13, .int v329), (0, .ref m), (1, .int cols), (2, .int (g 1)), (3, .ref (m + 276 + 2 * (g 1).toNatClampNeg)), (4, .ref (m + 276 + 2 * (g 1 + 1).toNatClampNeg)), (5, .ref (m + 276 + 2 * (g 1 + 1 + 1).toNatClampNeg)), (6, .ref (m + 276 + 2 * (g 1 + 1 + 1 + 1).toNatClampNeg)), (7, .ref (m + 276 + 2 * (g 1 + 1 + 1 + 1 + 1).toNatClampNeg)), (8, .int y8_45), (9, .int y9_45), (12, .int y12_179)]) (st' := []) [(329, .goto (-113))] (by decide +kernel) rfl ?_
                              have hz161 : (v329.toNatClampNeg : Int) = v329.toInt := znat (by first | omega | decide)
                              exact (ih216 wL216 v329 (B4) hsiL216 (fun x hx => (heqL216 x ⟨⟨hx.1.1, hx.1.2.1, hx.1.2.2⟩, hx.2⟩)) (by first | assumption | omega | decide) (by first | assumption | omega | decide) hWo1 hWo2 hmL216 (by
                                    exact hBc4) (by
                                    exact ⟨hB4.1, fun k hk => ⟨fun h9 => (hB4.2 k hk).1 (by omega), fun h9 => (hB4.2 k hk).2 (by omega)⟩⟩) (by
                                    exact hb93) (by omega)).more (zfa1 rfl (zfa1 rfl (zfa1 rfl (zfa1 rfl (zfa1 rfl (zfa1 rfl (zfa1 rfl (zfa1 rfl (zfa1 rfl (zfa1 rfl (zfa1 rfl (zfa1 rfl (zfa0)))))))))))))
                    have hl162 : (0 : Int32).toInt = 0 := by decide
                    have hz163 : ((0 : Int32).toNatClampNeg : Int) = 0 := by decide
                    have hb164 := hVo1.si hsi210
                    have hb165 := hVo2.si hsi210
                    have hb166 : zBq w210 m sg1 := hb81.ag (fun x hx1 hx2 => (heq210 x (zx_X16_clear_65 hx1 hx2 hgn1_3 hgb1)))
                    exact (hL216 _ w210 0 (B2) zSI.rf (fun _ _ => rfl) (by first | assumption | omega | decide) (by first | assumption | omega | decide) hb164 hb165 hb86 (by
                          exact zBc.ag hBc2 (by omega) (by omega) (hb166).lt (fun x g1 g2 => (heq210 x (zx_X16_clear_93 g1 g2 hgn1_3 hgb1)))) (by
                          exact ⟨fun _ _ _ => rfl, fun k _ => ⟨fun h9 => absurd h9 (by omega), fun _ => rfl⟩⟩) (by
                          exact hb166) (Nat.lt_succ_self _)).more (zfa1 rfl (zfa1 rfl (zfa1 rfl (zfa1 rfl (zfa1 rfl (zfa1 rfl (zfa1 rfl (zfa1 rfl (zfa1 rfl (zfa1 rfl (zfa1 rfl (zfa1 rfl (zfa0)))))))))))))
                  ·
                    replace cc192 := Classical.not_not.mp cc192
                    have f167 := zeqI cc192
                    refine zp_seg (pc' := 332) (lv' := [(0, .ref m), (1, .int cols), (2, .int (g 1)), (3, .ref (m + 276 + 2 * (g 1).toNatClampNeg)), (4, .ref (m + 276 + 2 * (g 1 + 1).toNatClampNeg)), (5, .ref (m + 276 + 2 * (g 1 + 1 + 1).toNatClampNeg)), (6, .ref (m + 276 + 2 * (g 1 + 1 + 1 + 1).toNatClampNeg)), (7, .ref (m + 276 + 2 * (g 1 + 1 + 1 + 1 + 1).toNatClampNeg)), (8, .int y8_45), (9, .int y9_45), (12, .int y12_179)]) (st' := []) [(195, .goto 137)] (by decide +kernel) rfl ?_
                    obtain ⟨B5, hBc5, hB5⟩ : ∃ B5, zBc wL179 m sg1 (g 48).toNatClampNeg cols.toNatClampNeg B5 ∧ (∀ k, k < cols.toNatClampNeg → B5 y8_45.toNatClampNeg k = B1 y8_45.toNatClampNeg k) ∧ ∀ i k, i < (g 48).toNatClampNeg → i ≠ y8_45.toNatClampNeg → k < cols.toNatClampNeg → (i < y12_179.toNatClampNeg + 1 → zaM L9 (B5 i k) = zaS (zaM (B1 y8_45.toNatClampNeg y9_45.toNatClampNeg) (B1 i k)) (zaM (B1 i y9_45.toNatClampNeg) (B1 y8_45.toNatClampNeg k))) ∧ (y12_179.toNatClampNeg + 1 ≤ i → B5 i k = B1 i k) := by
                      have heq8 : y12_179.toNatClampNeg = y8_45.toNatClampNeg := by have h9 := congrArg Int32.toInt cc192; omega
                      refine ⟨B2, hBc2, hB2.1, fun i k hi hir hk => ⟨fun h9 => (hB2.2 i k hi hir hk).1 (by omega), fun h9 => (hB2.2 i k hi hir hk).2 (by omega)⟩⟩
                    refine zp_seg (pc' := 335) (lv' := [(12, .int (y12_179 + 1)), (0, .ref m), (1, .int cols), (2, .int (g 1)), (3, .ref (m + 276 + 2 * (g 1).toNatClampNeg)), (4, .ref (m + 276 + 2 * (g 1 + 1).toNatClampNeg)), (5, .ref (m + 276 + 2 * (g 1 + 1 + 1).toNatClampNeg)), (6, .ref (m + 276 + 2 * (g 1 + 1 + 1 + 1).toNatClampNeg)), (7, .ref (m + 276 + 2 * (g 1 + 1 + 1 + 1 + 1).toNatClampNeg)), (8, .int y8_45), (9, .int y9_45)]) (st' := []) [(332, .iinc 12 1)] (by decide +kernel) rfl ?_
                    have k168 := zaddC y12_179 1 (n := 1) (by decide) (by omega) (by omega)
                    generalize ev335 : (y12_179 + 1 : Int32) = v335 at k168 ⊢
                    have kv335 := zrng v335
                    refine zp_seg (pc' := 179) (lv' := [(12, .int v335), (0, .ref m), (1, .int cols), (2, .int (g 1)), (3, .ref (m + 276 + 2 * (g 1).toNatClampNeg)), (4, .ref (m + 276 + 2 * (g 1 + 1).toNatClampNeg)), (5, .ref (m + 276 + 2 * (g 1 + 1 + 1).toNatClampNeg)), (6, .ref (m + 276 + 2 * (g 1 + 1 + 1 + 1).toNatClampNeg)), (7, .ref (m + 276 + 2 * (g 1 + 1 + 1 + 1 + 1).toNatClampNeg)), (8, .int y8_45), (9, .int y9_45)]) (st' := []) [(335, .goto (-156))] (by decide +kernel) rfl ?_
                    have hz169 : (v335.toNatClampNeg : Int) = v335.toInt := znat (by first | omega | decide)
                    exact (ih179 wL179 v335 (B5) hsiL179 (fun x hx => (heqL179 x ⟨⟨hx.1.1, hx.1.2.1, hx.1.2.2⟩, hx.2⟩)) (by first | assumption | omega | decide) (by first | assumption | omega | decide) hVo1 hVo2 hVo3 hmL179 (by
                          exact hBc5) (by
                          exact ⟨hB5.1, fun i k hi hir hk => ⟨fun h9 => (hB5.2 i k hi hir hk).1 (by omega), fun h9 => (hB5.2 i k hi hir hk).2 (by omega)⟩⟩) (by omega)).more (zfa1 rfl (zfa1 rfl (zfa1 rfl (zfa1 rfl (zfa1 rfl (zfa1 rfl (zfa1 rfl (zfa1 rfl (zfa1 rfl (zfa1 rfl (zfa1 rfl (zfa0))))))))))))
              have hl170 : (0 : Int32).toInt = 0 := by decide
              have hz171 : ((0 : Int32).toNatClampNeg : Int) = 0 := by decide
              have hb172 := hUo1.si ((((hsi106.tr hsi128).tr hsi151).tr hsi160).tr hsi173)
              have hb173 := hUo2.si ((((hsi106.tr hsi128).tr hsi151).tr hsi160).tr hsi173)
              have hb174 := hUo3.si ((((hsi106.tr hsi128).tr hsi151).tr hsi160).tr hsi173)
              have hb175 : zBq w173 m sg1 := hBqS.ag (fun x hx1 hx2 => (heq173 x (zx_X16_clear_38 hx1 hx2 hgn1_4 hgb1)))
              exact (hL179 _ w173 0 (B1) zSI.rf (fun _ _ => rfl) (by first | assumption | omega | decide) (by first | assumption | omega | decide) hb172 hb173 hb174 hb62 (by
                    exact zBc.ag hBcS (by omega) (by omega) (hb175).lt (fun x g1 g2 => (heq173 x (zx_X16_clear_94 g1 g2 hgn1_4 hgb1)))) (by
                    exact ⟨fun _ _ => rfl, fun i k _ _ _ => ⟨fun h9 => absurd h9 (by omega), fun _ => rfl⟩⟩) (Nat.lt_succ_self _)).more (zfa1 rfl (zfa1 rfl (zfa1 rfl (zfa1 rfl (zfa1 rfl (zfa1 rfl (zfa1 rfl (zfa1 rfl (zfa1 rfl (zfa1 rfl (zfa1 rfl (zfa0))))))))))))
            ·
              replace cc114 := Classical.not_not.mp cc114
              have f177 := zeqI cc114
              rw [show (0 : Int32).toInt = 0 from by decide] at f177
              refine zp_seg (pc' := 347) (lv' := [(0, .ref m), (1, .int cols), (2, .int (g 1)), (3, .ref (m + 276 + 2 * (g 1).toNatClampNeg)), (4, .ref (m + 276 + 2 * (g 1 + 1).toNatClampNeg)), (5, .ref (m + 276 + 2 * (g 1 + 1 + 1).toNatClampNeg)), (6, .ref (m + 276 + 2 * (g 1 + 1 + 1 + 1).toNatClampNeg)), (7, .ref (m + 276 + 2 * (g 1 + 1 + 1 + 1 + 1).toNatClampNeg)), (8, .int y8_45), (9, .int y9_45), (10, .int y10_55)]) (st' := []) [(117, .goto 230)] (by decide +kernel) rfl ?_
              have hb178 : zBq w106 m sg9 := hBq9.ag (fun x hx1 hx2 => (heq106 x (zx_X16_clear_20 hx1 hx2)))
              have hb179 : zU w106 (m + 276 + 2 * (g 1).toNatClampNeg) 1000 L9 := hUL9.ag (fun x hx1 hx2 => (heq106 x (zx_X16_clear_28 hx1 hx2 hgb1)))
              have hb180 : w106 (m + 178) = some (.inr (0, 14, .inl pv9)) := (heq106 (m + 178) (zx_X16_clear_18)).trans hAp9
              obtain ⟨sgN, AN, BN, LN, cN, hBIN, hAN, hBcN, hBqN, hULN⟩ : ∃ (sN : Nat → Nat) (AN BN : Nat → Nat → zA1) (LN : zA1) (cN : Nat → Nat), @zBI zA1 zA1R AN cN (g 48).toNatClampNeg cols.toNatClampNeg y8_45.toNatClampNeg LN BN ∧ (∀ i k, i < (g 48).toNatClampNeg → k < cols.toNatClampNeg → zdq (AN i k) dg) ∧ zBc w106 m sN (g 48).toNatClampNeg cols.toNatClampNeg BN ∧ zBq w106 m sN ∧ zU w106 (m + 276 + 2 * (g 1).toNatClampNeg) 1000 LN :=
                ⟨sg9, A9, B9, L9, c9, hBI9, hA9, zBc.ag hBc9 (by omega) (by omega) (hb178).lt (fun x g1 g2 => (heq106 x (zx_X16_clear_24 g1 g2))), hb178, hb179⟩
              have hz07 : z0_106 = 0 := hx9.symm.trans cc114
              have hge9 := hrow9.2 hz07
              have hipN : ∀ t, t < y9_45.toNatClampNeg + 1 → ((upd ip9 (y9_45.toNatClampNeg) (vp_nar .boolean z0_106))) t = 0 ∨ ((upd ip9 (y9_45.toNatClampNeg) (vp_nar .boolean z0_106))) t = 1 ∧ 0 ≤ ((pv9) t).toInt ∧ ((pv9) t).toInt < y8_45.toInt := by
                intro t ht
                by_cases e : t = y9_45.toNatClampNeg
                · left
                  rw [e, zupd_s, hz07, zvb0]
                · rw [zupd_n _ _ e]
                  exact hip9 t (by omega)
              have halN : ∀ c, c ≤ y9_45.toNatClampNeg + 1 → (∀ t, t < c → ((upd ip9 (y9_45.toNatClampNeg) (vp_nar .boolean z0_106))) t ≠ 0) → c ≤ y8_45.toNatClampNeg := by
                intro c hc h9
                by_cases e : c = y9_45.toNatClampNeg + 1
                · exfalso
                  have h8 := h9 y9_45.toNatClampNeg (by omega)
                  rw [zupd_s, hz07, zvb0] at h8
                  exact h8 rfl
                · exact hal9 c (by omega) (fun t ht => by
                    have h7 := h9 t ht
                    rw [zupd_n _ _ (by omega)] at h7
                    exact h7)
              have hzN : (∃ i, i < (g 48).toNatClampNeg ∧ zln (B0 i 0) ≠ 0) → ((upd ip9 (y9_45.toNatClampNeg) (vp_nar .boolean z0_106))) 0 ≠ 0 := by
                intro h9
                by_cases e : y9_45.toNatClampNeg = 0
                · exfalso
                  obtain ⟨i, hi, hn⟩ := h9
                  have h8 := hzr8 i (by omega) (by omega)
                  rw [hB9 e, e] at h8
                  exact hn h8
                · rw [zupd_n _ _ (fun e9 => e e9.symm)]; exact hz9 (by omega) h9
              have hwN := hBcN
              refine zp_seg (pc' := 350) (lv' := [(9, .int (y9_45 + 1)), (0, .ref m), (1, .int cols), (2, .int (g 1)), (3, .ref (m + 276 + 2 * (g 1).toNatClampNeg)), (4, .ref (m + 276 + 2 * (g 1 + 1).toNatClampNeg)), (5, .ref (m + 276 + 2 * (g 1 + 1 + 1).toNatClampNeg)), (6, .ref (m + 276 + 2 * (g 1 + 1 + 1 + 1).toNatClampNeg)), (7, .ref (m + 276 + 2 * (g 1 + 1 + 1 + 1 + 1).toNatClampNeg)), (8, .int y8_45), (10, .int y10_55)]) (st' := []) [(347, .iinc 9 1)] (by decide +kernel) rfl ?_
              have k181 := zaddC y9_45 1 (n := 1) (by decide) (by omega) (by omega)
              generalize ev350 : (y9_45 + 1 : Int32) = v350 at k181 ⊢
              have kv350 := zrng v350
              refine zp_seg (pc' := 45) (lv' := [(9, .int v350), (0, .ref m), (1, .int cols), (2, .int (g 1)), (3, .ref (m + 276 + 2 * (g 1).toNatClampNeg)), (4, .ref (m + 276 + 2 * (g 1 + 1).toNatClampNeg)), (5, .ref (m + 276 + 2 * (g 1 + 1 + 1).toNatClampNeg)), (6, .ref (m + 276 + 2 * (g 1 + 1 + 1 + 1).toNatClampNeg)), (7, .ref (m + 276 + 2 * (g 1 + 1 + 1 + 1 + 1).toNatClampNeg)), (8, .int y8_45), (10, .int y10_55)]) (st' := []) [(350, .goto (-305))] (by decide +kernel) rfl ?_
              have hz182 : (v350.toNatClampNeg : Int) = v350.toInt := znat (by first | omega | decide)
              have hb183 := hUo1.si hsi106
              have hb184 := hUo2.si hsi106
              have hb185 := hUo3.si hsi106
              have hb186 := hUo4.si hsi106
              exact (ih45 w106 y8_45 v350 (sgN) (AN) (BN) (LN) (cN) ((upd ip9 (y9_45.toNatClampNeg) (vp_nar .boolean z0_106))) (pv9) (hsiL45.tr hsi106) (fun x hx => ((heq106 x (zx_X16_clear_57 hx.1.2.1)).trans (heqL45 x ⟨⟨hx.1.1, hx.1.2.1, hx.1.2.2.1, hx.1.2.2.2.1, hx.1.2.2.2.2⟩, hx.2⟩))) (by first | assumption | omega | decide) (by first | assumption | omega | decide) (by first | assumption | omega | decide) (by first | assumption | omega | decide) hBqN hULN hb183 hb184 hb185 hb186 hc106 hb180 hb40 (by
                    exact hBIN) (by
                    exact hAN) (by
                    exact hBcN) (by
                    exact fun t ht => by
                      rcases hipN t (by omega) with h9 | ⟨h9, h8, h7⟩
                      · exact Or.inl h9
                      · exact Or.inr ⟨h9, h8, by omega⟩) (by
                    exact fun c hc => halN c (by omega)) (by
                    exact fun _ => hzN) (by
                    exact fun h9 => absurd h9 (by omega)) (by omega)).more (zfa1 rfl (zfa1 rfl (zfa1 rfl (zfa1 rfl (zfa1 rfl (zfa1 rfl (zfa1 rfl (zfa1 rfl (zfa1 rfl (zfa1 rfl (zfa0)))))))))))
          refine zp_if (i := .if_icmp .ge 7) (c := (g 48) ≤ y10_55) (t := 105) (e := 101) (lv' := [(0, .ref m), (1, .int cols), (2, .int (g 1)), (3, .ref (m + 276 + 2 * (g 1).toNatClampNeg)), (4, .ref (m + 276 + 2 * (g 1 + 1).toNatClampNeg)), (5, .ref (m + 276 + 2 * (g 1 + 1 + 1).toNatClampNeg)), (6, .ref (m + 276 + 2 * (g 1 + 1 + 1 + 1).toNatClampNeg)), (7, .ref (m + 276 + 2 * (g 1 + 1 + 1 + 1 + 1).toNatClampNeg)), (8, .int y8_45), (9, .int y9_45), (10, .int y10_55)]) (st' := [.int y9_45, .ref (m + 177)]) (by decide +kernel) rfl (fun cc98 => ?_) (fun cc98 => ?_)
          ·
            have f187 := zleI cc98
            refine zp_seg (pc' := 106) (lv' := [(0, .ref m), (1, .int cols), (2, .int (g 1)), (3, .ref (m + 276 + 2 * (g 1).toNatClampNeg)), (4, .ref (m + 276 + 2 * (g 1 + 1).toNatClampNeg)), (5, .ref (m + 276 + 2 * (g 1 + 1 + 1).toNatClampNeg)), (6, .ref (m + 276 + 2 * (g 1 + 1 + 1 + 1).toNatClampNeg)), (7, .ref (m + 276 + 2 * (g 1 + 1 + 1 + 1 + 1).toNatClampNeg)), (8, .int y8_45), (9, .int y9_45), (10, .int y10_55)]) (st' := [.int 0, .int y9_45, .ref (m + 177)]) [(105, .iconst 0)] (by decide +kernel) rfl ?_
            have hl188 : (0 : Int32).toInt = 0 := by decide
            exact (hJ106 0 (by first | assumption | omega | decide) (by
                  first | exact ⟨fun _ => by omega, fun e => absurd e (by decide)⟩ | exact ⟨fun e => absurd e (by decide), fun _ => by omega⟩)).more (zfa1 rfl (zfa1 rfl (zfa1 rfl (zfa1 rfl (zfa1 rfl (zfa1 rfl (zfa1 rfl (zfa1 rfl (zfa1 rfl (zfa1 rfl (zfa1 rfl (zfa0))))))))))))
          ·
            have f189 := znleI cc98
            refine zp_seg (pc' := 106) (lv' := [(0, .ref m), (1, .int cols), (2, .int (g 1)), (3, .ref (m + 276 + 2 * (g 1).toNatClampNeg)), (4, .ref (m + 276 + 2 * (g 1 + 1).toNatClampNeg)), (5, .ref (m + 276 + 2 * (g 1 + 1 + 1).toNatClampNeg)), (6, .ref (m + 276 + 2 * (g 1 + 1 + 1 + 1).toNatClampNeg)), (7, .ref (m + 276 + 2 * (g 1 + 1 + 1 + 1 + 1).toNatClampNeg)), (8, .int y8_45), (9, .int y9_45), (10, .int y10_55)]) (st' := [.int 1, .int y9_45, .ref (m + 177)]) [(101, .iconst 1), (102, .goto 4)] (by decide +kernel) rfl ?_
            have hl190 : (1 : Int32).toInt = 1 := by decide
            exact (hJ106 1 (by first | assumption | omega | decide) (by
                  first | exact ⟨fun _ => by omega, fun e => absurd e (by decide)⟩ | exact ⟨fun e => absurd e (by decide), fun _ => by omega⟩)).more (zfa1 rfl (zfa1 rfl (zfa1 rfl (zfa1 rfl (zfa1 rfl (zfa1 rfl (zfa1 rfl (zfa1 rfl (zfa1 rfl (zfa1 rfl (zfa1 rfl (zfa0))))))))))))
        refine zp_if (i := .if_icmp .ge 25) (c := (g 48) ≤ y10_55) (t := 86) (e := 64) (lv' := [(0, .ref m), (1, .int cols), (2, .int (g 1)), (3, .ref (m + 276 + 2 * (g 1).toNatClampNeg)), (4, .ref (m + 276 + 2 * (g 1 + 1).toNatClampNeg)), (5, .ref (m + 276 + 2 * (g 1 + 1 + 1).toNatClampNeg)), (6, .ref (m + 276 + 2 * (g 1 + 1 + 1 + 1).toNatClampNeg)), (7, .ref (m + 276 + 2 * (g 1 + 1 + 1 + 1 + 1).toNatClampNeg)), (8, .int y8_45), (9, .int y9_45), (10, .int y10_55)]) (st' := []) (by decide +kernel) rfl (fun cc61 => ?_) (fun cc61 => ?_)
        ·
          have f191 := zleI cc61
          exact (hJ86 trivial (by first | assumption | omega | decide) (by first | assumption | omega | decide) (by
                exact hzr9) (by
                first | exact fun h9 => absurd h9 (by omega) | exact fun _ h9 => cc77 (by apply Int32.toInt_inj.mp; rw [show (0 : Int32).toInt = 0 by decide]; omega) | exact fun _ => by omega)).more (zfa1 rfl (zfa1 rfl (zfa1 rfl (zfa1 rfl (zfa1 rfl (zfa1 rfl (zfa1 rfl (zfa1 rfl (zfa1 rfl (zfa1 rfl (zfa1 rfl (zfa0))))))))))))
        ·
          have f192 := znleI cc61
          refine zp_seg (pc' := 65) (lv' := [(0, .ref m), (1, .int cols), (2, .int (g 1)), (3, .ref (m + 276 + 2 * (g 1).toNatClampNeg)), (4, .ref (m + 276 + 2 * (g 1 + 1).toNatClampNeg)), (5, .ref (m + 276 + 2 * (g 1 + 1 + 1).toNatClampNeg)), (6, .ref (m + 276 + 2 * (g 1 + 1 + 1 + 1).toNatClampNeg)), (7, .ref (m + 276 + 2 * (g 1 + 1 + 1 + 1 + 1).toNatClampNeg)), (8, .int y8_45), (9, .int y9_45), (10, .int y10_55)]) (st' := [.ref m]) [(64, .aload_n 0)] (by decide +kernel) rfl ?_
          refine zr_get (idx := 487) (k := 44) (v := .ref (m + 149)) (by decide +kernel) (by decide +kernel) hmL45 rfl ?_
          refine zp_seg (pc' := 70) (lv' := [(0, .ref m), (1, .int cols), (2, .int (g 1)), (3, .ref (m + 276 + 2 * (g 1).toNatClampNeg)), (4, .ref (m + 276 + 2 * (g 1 + 1).toNatClampNeg)), (5, .ref (m + 276 + 2 * (g 1 + 1 + 1).toNatClampNeg)), (6, .ref (m + 276 + 2 * (g 1 + 1 + 1 + 1).toNatClampNeg)), (7, .ref (m + 276 + 2 * (g 1 + 1 + 1 + 1 + 1).toNatClampNeg)), (8, .int y8_45), (9, .int y9_45), (10, .int y10_55)]) (st' := [.int y10_55, .ref (m + 149)]) [(68, .iload 10)] (by decide +kernel) rfl ?_
          obtain ⟨⟨f193, hg194, hg195⟩, -⟩ := id hBq9
          obtain ⟨s70, hs70⟩ : ∃ s9, s9 = sg9 (y10_55.toNatClampNeg) := ⟨_, rfl⟩
          have hls70 : s70 < 26 := by rw [hs70]; exact hBq9.lt _ (by omega)
          refine zr_aald (v := .ref (m + 150 + s70)) (by decide +kernel) hg194 (by decide) (zin (by first | omega | decide) (by first | omega | decide)) (by rw [hg195 _ (by omega), hs70]; rfl) ?_
          have hrw196 := hBq9.row s70 hls70
          refine zp_seg (pc' := 73) (lv' := [(0, .ref m), (1, .int cols), (2, .int (g 1)), (3, .ref (m + 276 + 2 * (g 1).toNatClampNeg)), (4, .ref (m + 276 + 2 * (g 1 + 1).toNatClampNeg)), (5, .ref (m + 276 + 2 * (g 1 + 1 + 1).toNatClampNeg)), (6, .ref (m + 276 + 2 * (g 1 + 1 + 1 + 1).toNatClampNeg)), (7, .ref (m + 276 + 2 * (g 1 + 1 + 1 + 1 + 1).toNatClampNeg)), (8, .int y8_45), (9, .int y9_45), (10, .int y10_55)]) (st' := [.int y9_45, .ref (m + 150 + s70)]) [(71, .iload 9)] (by decide +kernel) rfl ?_
          obtain ⟨t73, ht73⟩ : ∃ t9, t9 = (y9_45.toNatClampNeg) := ⟨_, rfl⟩
          have hlt73 : t73 < 14 := by rw [ht73]; omega
          refine zr_aald (v := .ref (m + 7594 + 28 * s70 + 2 * t73)) (by decide +kernel) hrw196 (by decide) (zin (by first | omega | decide) (by first | omega | decide)) (by rw [ht73]; exact zbq_at ⟨by omega, by omega⟩) ?_
          have hu74 : zU wL45 (m + 7594 + 28 * s70 + 2 * t73) 1000 (B9 y10_55.toNatClampNeg y9_45.toNatClampNeg) := by rw [hs70, ht73]; exact hBc9 y10_55.toNatClampNeg y9_45.toNatClampNeg (by omega) (by omega)
          replace hu74 := hu74.ag (w' := wL45) (fun x g1 g2 => rfl)
          obtain ⟨n197, f198, hu199, hu200, hu201, hu202, hu203⟩ := id hu74
          have kn197 := zrng n197
          refine zr_get (idx := 25) (k := 1) (v := .int n197) (by decide +kernel) (by decide +kernel) hu199 rfl ?_
          refine zp_if (i := .ifCond .ne 9) (c := ¬ n197 = 0) (t := 86) (e := 80) (lv' := [(0, .ref m), (1, .int cols), (2, .int (g 1)), (3, .ref (m + 276 + 2 * (g 1).toNatClampNeg)), (4, .ref (m + 276 + 2 * (g 1 + 1).toNatClampNeg)), (5, .ref (m + 276 + 2 * (g 1 + 1 + 1).toNatClampNeg)), (6, .ref (m + 276 + 2 * (g 1 + 1 + 1 + 1).toNatClampNeg)), (7, .ref (m + 276 + 2 * (g 1 + 1 + 1 + 1 + 1).toNatClampNeg)), (8, .int y8_45), (9, .int y9_45), (10, .int y10_55)]) (st' := []) (by decide +kernel) rfl (fun cc77 => ?_) (fun cc77 => ?_)
          ·
            have f205 := zneI cc77
            rw [show (0 : Int32).toInt = 0 from by decide] at f205
            exact (hJ86 trivial (by first | assumption | omega | decide) (by first | assumption | omega | decide) (by
                  exact hzr9) (by
                  first | exact fun h9 => absurd h9 (by omega) | exact fun _ h9 => cc77 (by apply Int32.toInt_inj.mp; rw [show (0 : Int32).toInt = 0 by decide]; omega) | exact fun _ => by omega)).more (zfa1 rfl (zfa1 rfl (zfa1 rfl (zfa1 rfl (zfa1 rfl (zfa1 rfl (zfa1 rfl (zfa1 rfl (zfa1 rfl (zfa1 rfl (zfa1 rfl (zfa0))))))))))))
          ·
            replace cc77 := Classical.not_not.mp cc77
            have f207 := zeqI cc77
            rw [show (0 : Int32).toInt = 0 from by decide] at f207
            refine zp_seg (pc' := 83) (lv' := [(10, .int (y10_55 + 1)), (0, .ref m), (1, .int cols), (2, .int (g 1)), (3, .ref (m + 276 + 2 * (g 1).toNatClampNeg)), (4, .ref (m + 276 + 2 * (g 1 + 1).toNatClampNeg)), (5, .ref (m + 276 + 2 * (g 1 + 1 + 1).toNatClampNeg)), (6, .ref (m + 276 + 2 * (g 1 + 1 + 1 + 1).toNatClampNeg)), (7, .ref (m + 276 + 2 * (g 1 + 1 + 1 + 1 + 1).toNatClampNeg)), (8, .int y8_45), (9, .int y9_45)]) (st' := []) [(80, .iinc 10 1)] (by decide +kernel) rfl ?_
            have k208 := zaddC y10_55 1 (n := 1) (by decide) (by omega) (by omega)
            generalize ev83 : (y10_55 + 1 : Int32) = v83 at k208 ⊢
            have kv83 := zrng v83
            refine zp_seg (pc' := 55) (lv' := [(10, .int v83), (0, .ref m), (1, .int cols), (2, .int (g 1)), (3, .ref (m + 276 + 2 * (g 1).toNatClampNeg)), (4, .ref (m + 276 + 2 * (g 1 + 1).toNatClampNeg)), (5, .ref (m + 276 + 2 * (g 1 + 1 + 1).toNatClampNeg)), (6, .ref (m + 276 + 2 * (g 1 + 1 + 1 + 1).toNatClampNeg)), (7, .ref (m + 276 + 2 * (g 1 + 1 + 1 + 1 + 1).toNatClampNeg)), (8, .int y8_45), (9, .int y9_45)]) (st' := []) [(83, .goto (-28))] (by decide +kernel) rfl ?_
            have hz209 : (v83.toNatClampNeg : Int) = v83.toInt := znat (by first | omega | decide)
            exact (ih55 v83 (by first | assumption | omega | decide) (by first | assumption | omega | decide) (by
                  intro i h1 h2
                  by_cases e : i = y10_55.toNatClampNeg
                  · rw [e]; omega
                  · exact hzr9 i h1 (by omega)) (by omega)).more (zfa1 rfl (zfa1 rfl (zfa1 rfl (zfa1 rfl (zfa1 rfl (zfa1 rfl (zfa1 rfl (zfa1 rfl (zfa1 rfl (zfa1 rfl (zfa1 rfl (zfa0))))))))))))
      exact (hL55 _ y8_45 (by first | assumption | omega | decide) (by first | assumption | omega | decide) (by
            exact fun i h1 h2 => absurd h2 (by omega)) (Nat.lt_succ_self _)).more (zfa1 rfl (zfa1 rfl (zfa1 rfl (zfa1 rfl (zfa1 rfl (zfa1 rfl (zfa1 rfl (zfa1 rfl (zfa1 rfl (zfa1 rfl (zfa1 rfl (zfa0))))))))))))
  have hl210 : (0 : Int32).toInt = 0 := by decide
  have hz211 : ((0 : Int32).toNatClampNeg : Int) = 0 := by decide
  have hb212 : zBq w36 m sg := hBq_m_149.ag (fun x hx1 hx2 => ((heq36 x (zx_X16_clear_42 hx1 hx2 hgb1)).trans ((heq29 x ⟨(zx_X16_clear_95 hx1 hx2), (zx_X16_clear_38 hx1 hx2 hgn1_4 hgb1)⟩).trans ((heq23 x ⟨(zx_X16_clear_95 hx1 hx2), (zx_X16_clear_65 hx1 hx2 hgn1_3 hgb1)⟩).trans ((heq17 x ⟨(zx_X16_clear_95 hx1 hx2), (zx_X16_clear_79 hx1 hx2 hgn1_2 hgb1)⟩).trans ((heq11 x ⟨(zx_X16_clear_95 hx1 hx2), (zx_X16_clear_70 hx1 hx2 hgn1_1 hgb1)⟩).trans (heq6 x ⟨(zx_X16_clear_95 hx1 hx2), (zx_X16_clear_42 hx1 hx2 hgb1)⟩)))))))
  have hb213 : zU w36 (m + 276 + 2 * (g 1 + 1).toNatClampNeg) 1000 zaZ := hp11_1.ag (fun x hx1 hx2 => ((heq36 x (zx_X16_clear_99 hx1 hx2 hgn1_1 hgb1)).trans ((heq29 x ⟨(zx_X16_clear_96 hx1 hx2 hgn1_1 hgb1), (zx_X16_clear_98 hx1 hx2 hgn1_1 hgn1_4 hgb1)⟩).trans ((heq23 x ⟨(zx_X16_clear_96 hx1 hx2 hgn1_1 hgb1), (zx_X16_clear_97 hx1 hx2 hgn1_1 hgn1_3 hgb1)⟩).trans (heq17 x ⟨(zx_X16_clear_96 hx1 hx2 hgn1_1 hgb1), (zx_X16_clear_77 hx1 hx2 hgn1_1 hgn1_2 hgb1)⟩)))))
  have hb214 : zU w36 (m + 276 + 2 * (g 1 + 1 + 1).toNatClampNeg) 1000 zaZ := hp17_1.ag (fun x hx1 hx2 => ((heq36 x (zx_X16_clear_103 hx1 hx2 hgn1_2 hgb1)).trans ((heq29 x ⟨(zx_X16_clear_100 hx1 hx2 hgn1_2 hgb1), (zx_X16_clear_102 hx1 hx2 hgn1_2 hgn1_4 hgb1)⟩).trans (heq23 x ⟨(zx_X16_clear_100 hx1 hx2 hgn1_2 hgb1), (zx_X16_clear_101 hx1 hx2 hgn1_2 hgn1_3 hgb1)⟩))))
  have hb215 : zU w36 (m + 276 + 2 * (g 1 + 1 + 1 + 1).toNatClampNeg) 1000 zaZ := hp23_1.ag (fun x hx1 hx2 => ((heq36 x (zx_X16_clear_106 hx1 hx2 hgn1_3 hgb1)).trans (heq29 x ⟨(zx_X16_clear_104 hx1 hx2 hgn1_3 hgb1), (zx_X16_clear_105 hx1 hx2 hgn1_3 hgn1_4 hgb1)⟩)))
  have hb216 : zU w36 (m + 276 + 2 * (g 1 + 1 + 1 + 1 + 1).toNatClampNeg) 1000 zaZ := hp29_1.ag (fun x hx1 hx2 => (heq36 x (zx_X16_clear_107 hx1 hx2 hgn1_4 hgb1)))
  have hb217 := hb21.si (hsi29.tr hsi36)
  obtain ⟨f218, hb219⟩ := hb217.ia_177
  obtain ⟨f220, hb221⟩ := hb217.ia_178
  exact (hL45 _ w36 0 0 (sg) (B0) (B0) (zaO) (fun _ => 0) (f218) (f220) zSI.rf (fun _ _ => rfl) (by first | assumption | omega | decide) (by first | assumption | omega | decide) (by first | assumption | omega | decide) (by first | assumption | omega | decide) hb212 hULO (zU.o hb213) (zU.o hb214) (zU.o hb215) (zU.o hb216) hb219 hb221 hb30 (by
        rw [show (0 : Int32).toNatClampNeg = 0 by decide]; exact @zBI_0 zA1 zA1R zA1_10 _ _ _ _) (by
        exact hdg) (by
        exact zBc.ag hB0 (by omega) (by omega) (hb212).lt (fun x g1 g2 => ((heq36 x (zx_X16_clear_43 g1 g2 hgb1)).trans ((heq29 x ⟨(zx_X16_clear_108 g1 g2), (zx_X16_clear_94 g1 g2 hgn1_4 hgb1)⟩).trans ((heq23 x ⟨(zx_X16_clear_108 g1 g2), (zx_X16_clear_93 g1 g2 hgn1_3 hgb1)⟩).trans ((heq17 x ⟨(zx_X16_clear_108 g1 g2), (zx_X16_clear_110 g1 g2 hgn1_2 hgb1)⟩).trans ((heq11 x ⟨(zx_X16_clear_108 g1 g2), (zx_X16_clear_109 g1 g2 hgn1_1 hgb1)⟩).trans (heq6 x ⟨(zx_X16_clear_108 g1 g2), (zx_X16_clear_43 g1 g2 hgb1)⟩)))))))) (by
        exact fun t ht => absurd ht (by rw [show (0 : Int32).toNatClampNeg = 0 by decide]; omega)) (by
        exact fun c hc _ => by rw [show (0 : Int32).toNatClampNeg = 0 by decide] at hc; omega) (by
        exact fun h9 => absurd h9 (by rw [show (0 : Int32).toNatClampNeg = 0 by decide]; omega)) (by
        exact fun _ => rfl) (Nat.lt_succ_self _)).more (zfa1 rfl (zfa1 rfl (zfa1 rfl (zfa1 rfl (zfa1 rfl (zfa1 rfl (zfa1 rfl (zfa1 rfl (zfa1 rfl (zfa1 rfl (zfa0)))))))))))
