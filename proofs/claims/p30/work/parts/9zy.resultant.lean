theorem zx_X16_resultant_0 {G3_0 m to : Nat} (h0 : m + 596 ≤ to ∧ to + 130 ≤ m + 596 + 130 * G3_0) (h1 : G3_0 + 4 ≤ 44) : m < to ∨ to + 130 ≤ m := by omega
theorem zx_X16_resultant_1 {G3_0 m x : Nat} (h0 : x < m + 596 + 130 * G3_0 ∨ m + 596 + 130 * G3_0 + (5720 - 130 * G3_0) ≤ x) (h1 : G3_0 + 4 ≤ 44) : x < m + 596 + 130 * G3_0 ∨ m + 596 + 130 * G3_0 + 130 ≤ x := by omega
theorem zx_X16_resultant_2 {G3_0 G3_1 m x : Nat} (h0 : x < m + 596 + 130 * G3_0 ∨ m + 596 + 130 * G3_0 + (5720 - 130 * G3_0) ≤ x) (h1 : G3_1 = G3_0 + 1) (h2 : G3_0 + 4 ≤ 44) : x < m + 596 + 130 * G3_1 ∨ m + 596 + 130 * G3_1 + 130 ≤ x := by omega
theorem zx_X16_resultant_3 {G3_0 m x : Nat} (h0 : x < m + 596 + 130 * G3_0 ∨ m + 596 + 130 * G3_0 + (5720 - 130 * G3_0) ≤ x) (h1 : G3_0 + 4 ≤ 44) : x < m + 596 + 130 * G3_0 ∨ m + 596 + 130 * G3_0 + 260 ≤ x := by omega
theorem zx_X16_resultant_4 {m x : Nat} (h0 : x < m ∨ m + 1 ≤ x) : x ≠ m := by omega
theorem zx_X16_resultant_5 {m x : Nat} (h0 : m + 100 ≤ x) (h1 : x < m + 100 + 49) : x < m ∨ m + 1 ≤ x := by omega
theorem zx_X16_resultant_6 {G3_0 m x : Nat} (h0 : m + 100 ≤ x) (h1 : x < m + 100 + 49) (h2 : G3_0 + 4 ≤ 44) : x < m + 596 + 130 * G3_0 ∨ m + 596 + 130 * G3_0 + 130 ≤ x := by omega
theorem zx_X16_resultant_7 {G3_0 G3_1 m x : Nat} (h0 : m + 100 ≤ x) (h1 : x < m + 100 + 49) (h2 : G3_1 = G3_0 + 1) (h3 : G3_0 + 4 ≤ 44) : x < m + 596 + 130 * G3_1 ∨ m + 596 + 130 * G3_1 + 130 ≤ x := by omega
theorem zx_X16_resultant_8 {G3_0 m x : Nat} (h0 : m + 100 ≤ x) (h1 : x < m + 100 + 49) (h2 : G3_0 + 4 ≤ 44) : x < m + 596 + 130 * G3_0 ∨ m + 596 + 130 * G3_0 + 260 ≤ x := by omega
theorem zx_X16_resultant_9 {m x : Nat} (h0 : m + 100 ≤ x) (h1 : x < m + 100 + 49) : x ≠ m := by omega
theorem zx_X16_resultant_10 {G3_0 m to x : Nat} (h0 : m + 100 ≤ x) (h1 : x < m + 100 + 49) (h2 : m + 596 ≤ to ∧ to + 130 ≤ m + 596 + 130 * G3_0) (h3 : G3_0 + 4 ≤ 44) : x < to ∨ to + 130 ≤ x := by omega
theorem zx_X16_resultant_11 {m : Nat}  : (m + 3) < m ∨ m + 1 ≤ (m + 3) := by omega
theorem zx_X16_resultant_12 {G1_0 m : Nat} (h0 : G1_0 + 6 ≤ 160) : (m + 3) < m + 276 + 2 * G1_0 ∨ m + 276 + 2 * G1_0 + 2 ≤ (m + 3) := by omega
theorem zx_X16_resultant_13 {m : Nat}  : (m + 5 + 0) < m ∨ m + 1 ≤ (m + 5 + 0) := by omega
theorem zx_X16_resultant_14 {G1_0 m : Nat} (h0 : G1_0 + 6 ≤ 160) : (m + 5 + 0) < m + 276 + 2 * G1_0 ∨ m + 276 + 2 * G1_0 + 2 ≤ (m + 5 + 0) := by omega
theorem zx_X16_resultant_15 {G3_0 m to : Nat} (h0 : m + 596 ≤ to ∧ to + 130 ≤ m + 596 + 130 * G3_0) (h1 : G3_0 + 4 ≤ 44) : to < to + 2 + 2 * 0 ∨ to + 2 + 2 * 0 + 2 ≤ to := by omega
theorem zx_X16_resultant_16 {G3_0 m to x : Nat} (h0 : to + 2 + 2 * 0 ≤ x) (h1 : x < to + 2 + 2 * 0 + 2) (h2 : m + 596 ≤ to ∧ to + 130 ≤ m + 596 + 130 * G3_0) (h3 : G3_0 + 4 ≤ 44) : x ≠ to := by omega
theorem zx_X16_resultant_17 {G1_0 m : Nat} (h0 : G1_0 + 6 ≤ 160) : m < m + 276 + 2 * G1_0 ∨ m + 276 + 2 * G1_0 + 2 ≤ m := by omega
theorem zx_X16_resultant_18 {G1_0 G1_1 m : Nat} (h0 : G1_1 = G1_0 + 1) (h1 : G1_0 + 6 ≤ 160) : m < m + 276 + 2 * G1_1 ∨ m + 276 + 2 * G1_1 + (320 - 2 * G1_1) ≤ m := by omega
theorem zx_X16_resultant_19 {G3_0 m to : Nat} (h0 : m + 596 ≤ to ∧ to + 130 ≤ m + 596 + 130 * G3_0) (h1 : G3_0 + 4 ≤ 44) : m < to + 2 + 2 * 0 ∨ to + 2 + 2 * 0 + 2 ≤ m := by omega
theorem zx_X16_resultant_20 {G3_0 m to : Nat} (h0 : m + 596 ≤ to ∧ to + 130 ≤ m + 596 + 130 * G3_0) (h1 : G3_0 + 4 ≤ 44) : m ≠ to := by omega
theorem zx_X16_resultant_21 {G3_0 m to : Nat} (h0 : m + 596 ≤ to ∧ to + 130 ≤ m + 596 + 130 * G3_0) (h1 : G3_0 + 4 ≤ 44) : m < to ∨ to + 1 ≤ m := by omega
theorem zx_X16_resultant_22 {m x : Nat} (h0 : x < m + 5 ∨ m + 5 + 64 ≤ x) : x < m + 5 ∨ m + 5 + 1 ≤ x := by omega
theorem zx_X16_resultant_23 {G1_0 m x : Nat} (h0 : x < m + 276 + 2 * G1_0 ∨ m + 276 + 2 * G1_0 + (320 - 2 * G1_0) ≤ x) (h1 : G1_0 + 6 ≤ 160) : x < m + 276 + 2 * G1_0 ∨ m + 276 + 2 * G1_0 + 2 ≤ x := by omega
theorem zx_X16_resultant_24 {G1_0 G1_1 m x : Nat} (h0 : x < m + 276 + 2 * G1_0 ∨ m + 276 + 2 * G1_0 + (320 - 2 * G1_0) ≤ x) (h1 : G1_1 = G1_0 + 1) (h2 : G1_0 + 6 ≤ 160) : x < m + 276 + 2 * G1_1 ∨ m + 276 + 2 * G1_1 + (320 - 2 * G1_1) ≤ x := by omega
theorem zx_X16_resultant_25 {G3_0 m to x : Nat} (h0 : x < to ∨ to + 130 ≤ x) (h1 : m + 596 ≤ to ∧ to + 130 ≤ m + 596 + 130 * G3_0) (h2 : G3_0 + 4 ≤ 44) : x < to + 2 + 2 * 0 ∨ to + 2 + 2 * 0 + 2 ≤ x := by omega
theorem zx_X16_resultant_26 {G3_0 m to x : Nat} (h0 : x < to ∨ to + 130 ≤ x) (h1 : m + 596 ≤ to ∧ to + 130 ≤ m + 596 + 130 * G3_0) (h2 : G3_0 + 4 ≤ 44) : x ≠ to := by omega
theorem zx_X16_resultant_27 {G3_0 m to x : Nat} (h0 : x < to ∨ to + 130 ≤ x) (h1 : m + 596 ≤ to ∧ to + 130 ≤ m + 596 + 130 * G3_0) (h2 : G3_0 + 4 ≤ 44) : x < to ∨ to + 1 ≤ x := by omega
theorem zx_X16_resultant_28 {G1_0 m x : Nat} (h0 : m + 100 ≤ x) (h1 : x < m + 100 + 49) (h2 : G1_0 + 6 ≤ 160) : x < m + 276 + 2 * G1_0 ∨ m + 276 + 2 * G1_0 + 2 ≤ x := by omega
theorem zx_X16_resultant_29 {G1_0 G1_1 m x : Nat} (h0 : m + 100 ≤ x) (h1 : x < m + 100 + 49) (h2 : G1_1 = G1_0 + 1) (h3 : G1_0 + 6 ≤ 160) : x < m + 276 + 2 * G1_1 ∨ m + 276 + 2 * G1_1 + (320 - 2 * G1_1) ≤ x := by omega
theorem zx_X16_resultant_30 {G3_0 m to x : Nat} (h0 : m + 100 ≤ x) (h1 : x < m + 100 + 49) (h2 : m + 596 ≤ to ∧ to + 130 ≤ m + 596 + 130 * G3_0) (h3 : G3_0 + 4 ≤ 44) : x < to + 2 + 2 * 0 ∨ to + 2 + 2 * 0 + 2 ≤ x := by omega
theorem zx_X16_resultant_31 {G3_0 m to x : Nat} (h0 : m + 100 ≤ x) (h1 : x < m + 100 + 49) (h2 : m + 596 ≤ to ∧ to + 130 ≤ m + 596 + 130 * G3_0) (h3 : G3_0 + 4 ≤ 44) : x ≠ to := by omega
theorem zx_X16_resultant_32 {G3_0 m to x : Nat} (h0 : m + 100 ≤ x) (h1 : x < m + 100 + 49) (h2 : m + 596 ≤ to ∧ to + 130 ≤ m + 596 + 130 * G3_0) (h3 : G3_0 + 4 ≤ 44) : x < to ∨ to + 1 ≤ x := by omega
theorem zx_X16_resultant_33 {G1_0 G3_0 m to : Nat} (h0 : m + 596 ≤ to ∧ to + 130 ≤ m + 596 + 130 * G3_0) (h1 : G1_0 + 6 ≤ 160) (h2 : G3_0 + 4 ≤ 44) : (m + 276 + 2 * G1_0) < to + 2 ∨ to + 2 + 128 ≤ (m + 276 + 2 * G1_0) := by omega
theorem zx_X16_resultant_34 {G1_0 m : Nat} (h0 : G1_0 + 6 ≤ 160) : (m + 276 + 2 * G1_0) ≠ m := by omega
theorem zx_X16_resultant_35 {G3_0 m to x : Nat} (h0 : x < to ∨ to + 130 ≤ x) (h1 : m + 596 ≤ to ∧ to + 130 ≤ m + 596 + 130 * G3_0) (h2 : G3_0 + 4 ≤ 44) : x < to + 2 ∨ to + 2 + 128 ≤ x := by omega
theorem zx_X16_resultant_36 {G3_0 m to x : Nat} (h0 : m + 100 ≤ x) (h1 : x < m + 100 + 49) (h2 : m + 596 ≤ to ∧ to + 130 ≤ m + 596 + 130 * G3_0) (h3 : G3_0 + 4 ≤ 44) : x < to + 2 ∨ to + 2 + 128 ≤ x := by omega
theorem zx_X16_resultant_37 {G1_0 G3_0 m to : Nat} (h0 : m + 596 ≤ to ∧ to + 130 ≤ m + 596 + 130 * G3_0) (h1 : G1_0 + 6 ≤ 160) (h2 : G3_0 + 4 ≤ 44) : (m + 276 + 2 * G1_0 + 1) < to + 2 ∨ to + 2 + 128 ≤ (m + 276 + 2 * G1_0 + 1) := by omega
theorem zx_X16_resultant_38 {G1_0 m : Nat} (h0 : G1_0 + 6 ≤ 160) : (m + 276 + 2 * G1_0 + 1) ≠ m := by omega
theorem zx_X16_resultant_39 {m : Nat}  : m ≠ m + 3 := by omega
theorem zx_X16_resultant_40 {m x : Nat} (h0 : m + 100 ≤ x) (h1 : x < m + 100 + 49) : x ≠ m + 3 := by omega
theorem zx_X16_resultant_41 {G3_0 m x : Nat} (h0 : m + 596 + 130 * G3_0 ≤ x) (h1 : x < m + 596 + 130 * G3_0 + 130) (h2 : G3_0 + 4 ≤ 44) : x < m + 3 ∨ m + 3 + 1 ≤ x := by omega
theorem zx_X16_resultant_42 {G3_0 m x : Nat} (h0 : m + 596 + 130 * G3_0 ≤ x) (h1 : x < m + 596 + 130 * G3_0 + 130) (h2 : G3_0 + 4 ≤ 44) : x < m + 5 ∨ m + 5 + 1 ≤ x := by omega
theorem zx_X16_resultant_43 {G3_0 m x : Nat} (h0 : m + 596 + 130 * G3_0 ≤ x) (h1 : x < m + 596 + 130 * G3_0 + 130) (h2 : G3_0 + 4 ≤ 44) : x < m + 100 ∨ m + 100 + 49 ≤ x := by omega
theorem zx_X16_resultant_44 {G3_0 m x : Nat} (h0 : m + 596 + 130 * G3_0 ≤ x) (h1 : x < m + 596 + 130 * G3_0 + 130) (h2 : G3_0 + 4 ≤ 44) : x ≠ m := by omega
theorem zx_X16_resultant_45 {G3_0 m x : Nat} (h0 : m + 596 + 130 * G3_0 ≤ x) (h1 : x < m + 596 + 130 * G3_0 + 130) (h2 : G3_0 + 4 ≤ 44) : x ≠ m + 3 := by omega
theorem zx_X16_resultant_46 {G3_0 G3_1 m x : Nat} (h0 : m + 596 + 130 * G3_1 ≤ x) (h1 : x < m + 596 + 130 * G3_1 + 130) (h2 : G3_1 = G3_0 + 1) (h3 : G3_0 + 4 ≤ 44) : x < m + 3 ∨ m + 3 + 1 ≤ x := by omega
theorem zx_X16_resultant_47 {G3_0 G3_1 m x : Nat} (h0 : m + 596 + 130 * G3_1 ≤ x) (h1 : x < m + 596 + 130 * G3_1 + 130) (h2 : G3_1 = G3_0 + 1) (h3 : G3_0 + 4 ≤ 44) : x < m + 5 ∨ m + 5 + 1 ≤ x := by omega
theorem zx_X16_resultant_48 {G3_0 G3_1 m x : Nat} (h0 : m + 596 + 130 * G3_1 ≤ x) (h1 : x < m + 596 + 130 * G3_1 + 130) (h2 : G3_1 = G3_0 + 1) (h3 : G3_0 + 4 ≤ 44) : x < m + 100 ∨ m + 100 + 49 ≤ x := by omega
theorem zx_X16_resultant_49 {G3_0 G3_1 m x : Nat} (h0 : m + 596 + 130 * G3_1 ≤ x) (h1 : x < m + 596 + 130 * G3_1 + 130) (h2 : G3_1 = G3_0 + 1) (h3 : G3_0 + 4 ≤ 44) : x ≠ m := by omega
theorem zx_X16_resultant_50 {G3_0 G3_1 m x : Nat} (h0 : m + 596 + 130 * G3_1 ≤ x) (h1 : x < m + 596 + 130 * G3_1 + 130) (h2 : G3_1 = G3_0 + 1) (h3 : G3_0 + 4 ≤ 44) : x ≠ m + 3 := by omega
theorem zx_X16_resultant_51 {m : Nat}  : (m + 5 + 0) ≠ m + 3 := by omega
theorem zx_X16_resultant_52 {m : Nat}  : (m + 5 + 0) < m + 100 ∨ m + 100 + 49 ≤ (m + 5 + 0) := by omega
theorem zx_X16_resultant_53 {m x : Nat} (h0 : x < m + 3 ∨ m + 3 + 1 ≤ x) : x ≠ m + 3 := by omega
theorem zx_X16_resultant_54 {m x : Nat} (h0 : x < m + 5 ∨ m + 5 + 1 ≤ x) : x ≠ m + 5 + 0 := by omega
theorem zx_X16_resultant_55 {m : Nat}  : (m + 3) < m + 100 ∨ m + 100 + 49 ≤ (m + 3) := by omega
theorem zx_X16_resultant_56 {m : Nat}  : (m + 3) ≠ m + 5 + 0 := by omega
theorem zx_X16_resultant_57 {m x : Nat} (h0 : m + 100 ≤ x) (h1 : x < m + 100 + 49) : x ≠ m + 5 + 0 := by omega
theorem zx_X16_resultant_58 {m : Nat}  : m < m + 100 ∨ m + 100 + 49 ≤ m := by omega
theorem zx_X16_resultant_59 {m : Nat}  : m ≠ m + 5 + 0 := by omega
theorem zx_X16_resultant_60 {G3_0 m : Nat} (h0 : G3_0 + 4 ≤ 44) : (m + 3) < m + 596 + 130 * G3_0 ∨ m + 596 + 130 * G3_0 + 130 ≤ (m + 3) := by omega
theorem zx_X16_resultant_61 {G3_0 G3_1 m : Nat} (h0 : G3_1 = G3_0 + 1) (h1 : G3_0 + 4 ≤ 44) : (m + 3) < m + 596 + 130 * G3_1 ∨ m + 596 + 130 * G3_1 + 130 ≤ (m + 3) := by omega
theorem zx_X16_resultant_62 {G3_0 m : Nat} (h0 : G3_0 + 4 ≤ 44) : (m + 3) < m + 596 + 130 * G3_0 ∨ m + 596 + 130 * G3_0 + 260 ≤ (m + 3) := by omega
theorem zx_X16_resultant_63 {m : Nat}  : (m + 3) ≠ m := by omega
theorem zx_X16_resultant_64 {G3_0 m : Nat} (h0 : G3_0 + 4 ≤ 44) : (m + 5 + 0) < m + 596 + 130 * G3_0 ∨ m + 596 + 130 * G3_0 + 130 ≤ (m + 5 + 0) := by omega
theorem zx_X16_resultant_65 {G3_0 G3_1 m : Nat} (h0 : G3_1 = G3_0 + 1) (h1 : G3_0 + 4 ≤ 44) : (m + 5 + 0) < m + 596 + 130 * G3_1 ∨ m + 596 + 130 * G3_1 + 130 ≤ (m + 5 + 0) := by omega
theorem zx_X16_resultant_66 {G3_0 m : Nat} (h0 : G3_0 + 4 ≤ 44) : (m + 5 + 0) < m + 596 + 130 * G3_0 ∨ m + 596 + 130 * G3_0 + 260 ≤ (m + 5 + 0) := by omega
theorem zx_X16_resultant_67 {m : Nat}  : (m + 5 + 0) ≠ m := by omega
theorem zx_X16_resultant_68 {G3_0 m x : Nat} (h0 : m + 596 + 130 * G3_0 ≤ x) (h1 : x < m + 596 + 130 * G3_0 + 130) (h2 : G3_0 + 4 ≤ 44) : x < m ∨ m + 1 ≤ x := by omega
theorem zx_X16_resultant_69 {G3_0 G3_1 m x : Nat} (h0 : m + 596 + 130 * G3_0 ≤ x) (h1 : x < m + 596 + 130 * G3_0 + 130) (h2 : G3_1 = G3_0 + 1) (h3 : G3_0 + 4 ≤ 44) : x < m + 596 + 130 * G3_1 ∨ m + 596 + 130 * G3_1 + 130 ≤ x := by omega
theorem zx_X16_resultant_70 {G3_0 a m x : Nat} (h0 : a ≤ x) (h1 : x < a + 130) (h2 : m + 596 ≤ a ∧ a + 130 ≤ m + 596 + 130 * G3_0) (h3 : G3_0 + 4 ≤ 44) : x < m ∨ m + 1 ≤ x := by omega
theorem zx_X16_resultant_71 {G3_0 a m x : Nat} (h0 : a ≤ x) (h1 : x < a + 130) (h2 : m + 596 ≤ a ∧ a + 130 ≤ m + 596 + 130 * G3_0) (h3 : G3_0 + 4 ≤ 44) : x < m + 596 + 130 * G3_0 ∨ m + 596 + 130 * G3_0 + 130 ≤ x := by omega
theorem zx_X16_resultant_72 {G3_0 G3_1 a m x : Nat} (h0 : a ≤ x) (h1 : x < a + 130) (h2 : m + 596 ≤ a ∧ a + 130 ≤ m + 596 + 130 * G3_0) (h3 : G3_1 = G3_0 + 1) (h4 : G3_0 + 4 ≤ 44) : x < m + 596 + 130 * G3_1 ∨ m + 596 + 130 * G3_1 + 130 ≤ x := by omega
theorem zx_X16_resultant_73 {G3_0 G3_1 m x : Nat} (h0 : m + 596 + 130 * G3_1 ≤ x) (h1 : x < m + 596 + 130 * G3_1 + 130) (h2 : G3_1 = G3_0 + 1) (h3 : G3_0 + 4 ≤ 44) : x < m + 596 + 130 * G3_0 ∨ m + 596 + 130 * G3_0 + 130 ≤ x := by omega
theorem zx_X16_resultant_74 {G3_0 b m x : Nat} (h0 : b ≤ x) (h1 : x < b + 130) (h2 : m + 596 ≤ b ∧ b + 130 ≤ m + 596 + 130 * G3_0) (h3 : G3_0 + 4 ≤ 44) : x < m ∨ m + 1 ≤ x := by omega
theorem zx_X16_resultant_75 {G3_0 b m x : Nat} (h0 : b ≤ x) (h1 : x < b + 130) (h2 : m + 596 ≤ b ∧ b + 130 ≤ m + 596 + 130 * G3_0) (h3 : G3_0 + 4 ≤ 44) : x < m + 596 + 130 * G3_0 ∨ m + 596 + 130 * G3_0 + 130 ≤ x := by omega
theorem zx_X16_resultant_76 {G3_0 G3_1 b m x : Nat} (h0 : b ≤ x) (h1 : x < b + 130) (h2 : m + 596 ≤ b ∧ b + 130 ≤ m + 596 + 130 * G3_0) (h3 : G3_1 = G3_0 + 1) (h4 : G3_0 + 4 ≤ 44) : x < m + 596 + 130 * G3_1 ∨ m + 596 + 130 * G3_1 + 130 ≤ x := by omega
theorem zx_X16_resultant_77 {G3_0 m x : Nat} (h0 : x < m + 596 + 130 * G3_0 ∨ m + 596 + 130 * G3_0 + 260 ≤ x) (h1 : G3_0 + 4 ≤ 44) : x < m + 596 + 130 * G3_0 ∨ m + 596 + 130 * G3_0 + 130 ≤ x := by omega
theorem zx_X16_resultant_78 {G3_0 G3_1 m x : Nat} (h0 : x < m + 596 + 130 * G3_0 ∨ m + 596 + 130 * G3_0 + 260 ≤ x) (h1 : G3_1 = G3_0 + 1) (h2 : G3_0 + 4 ≤ 44) : x < m + 596 + 130 * G3_1 ∨ m + 596 + 130 * G3_1 + 130 ≤ x := by omega
theorem zx_X16_resultant_79 {G3_0 m : Nat} (h0 : G3_0 + 4 ≤ 44) : m < m + 596 + 130 * G3_0 ∨ m + 596 + 130 * G3_0 + 130 ≤ m := by omega
theorem zx_X16_resultant_80 {G3_0 G3_1 m : Nat} (h0 : G3_1 = G3_0 + 1) (h1 : G3_0 + 4 ≤ 44) : m < m + 596 + 130 * G3_1 ∨ m + 596 + 130 * G3_1 + 130 ≤ m := by omega
set_option maxHeartbeats 8000000 in
set_option maxRecDepth 100000 in
theorem c_X16_resultant {w : zM} {g : Nat → Int32} {r : Nat → Value} {p q : zA2} {fx fy : Nat → Int32} {g1 : Int32} {g3 : Int32} (m : Nat) (to : Nat) (a : Nat) (b : Nat) (way : Int32) (hm : w m = some (.inl (15, zMo m g r))) (hR_m : zR m w) (hGr_m_100 : zGr w (m + 100) 48 48) (hBo_to : zBo w to) (hB_a : zB w a p) (hB_b : zB w b q) (hA_m_3 : w (m + 3) = some (.inr (0, 700, .inl fx))) (hA_m_5 : w (m + 5) = some (.inr (0, 700, .inl fy))) (hut : 0 ≤ g1.toInt ∧ g1.toInt + 6 ≤ 160) (hbt : 0 ≤ g3.toInt ∧ g3.toInt + 4 ≤ 44) (hta : to + 130 ≤ a ∨ a + 130 ≤ to) (htb : to + 130 ≤ b ∨ b + 130 ≤ to) (hmto : m + 596 ≤ to ∧ to + 130 ≤ m + 596 + 130 * g3.toNatClampNeg) (hma : m + 596 ≤ a ∧ a + 130 ≤ m + 596 + 130 * g3.toNatClampNeg) (hmb : m + 596 ≤ b ∧ b + 130 ≤ m + 596 + 130 * g3.toNatClampNeg) (hsz : zrw p ≤ 13 ∧ zdn p ≤ 24 ∧ zrw q ≤ 13 ∧ zdn q ≤ 24) (hz_way : way = 0 ∨ way = 1) (hg1 : g 1 = g1) (hg3 : g 3 = g3) : zCon 4 zq_X16_resultant [.ref m, .ref to, .ref a, .ref b, .int way] w (fun v9 w9' => ∃ X9 : Int32, ∃ Y9 : Int32, zSI w w9' ∧ (∀ x, (x < m ∨ m + 1 ≤ x) ∧ (x < m + 100 ∨ m + 100 + 49 ≤ x) ∧ (x < to ∨ to + 130 ≤ x) ∧ (x < m + 276 + 2 * g1.toNatClampNeg ∨ m + 276 + 2 * g1.toNatClampNeg + (320 - 2 * g1.toNatClampNeg) ≤ x) ∧ (x < m + 596 + 130 * g3.toNatClampNeg ∨ m + 596 + 130 * g3.toNatClampNeg + (5720 - 130 * g3.toNatClampNeg) ≤ x) ∧ (x < m + 3 ∨ m + 3 + 1 ≤ x) ∧ (x < m + 5 ∨ m + 5 + 64 ≤ x) → w9' x = w x) ∧ w9' m = some (.inl (15, zMo m (zs (zs g 1 X9) 3 Y9) r)) ∧ zGr w9' (m + 100) 48 48 ∧ zBo w9' to ∧ ∃ r9 : Int32, v9 = some (.int r9) ∧ (r9 = 0 ∨ r9 = 1) ∧ (r9 = 1 → ∃ P9, zB w9' to P9)) := by
  subst hg1
  subst hg3
  intro d sz hd
  obtain ⟨d, rfl⟩ : ∃ d9, d = d9 + 1 := ⟨d - 1, by omega⟩
  generalize hPost : (fun (r9' : Option (Option Value)) (w9' : zM) (z9 : Nat) => z9 = sz ∧ ∃ v9, r9' = some v9 ∧ (∃ X9 : Int32, ∃ Y9 : Int32, zSI w w9' ∧ (∀ x, (x < m ∨ m + 1 ≤ x) ∧ (x < m + 100 ∨ m + 100 + 49 ≤ x) ∧ (x < to ∨ to + 130 ≤ x) ∧ (x < m + 276 + 2 * (g 1).toNatClampNeg ∨ m + 276 + 2 * (g 1).toNatClampNeg + (320 - 2 * (g 1).toNatClampNeg) ≤ x) ∧ (x < m + 596 + 130 * (g 3).toNatClampNeg ∨ m + 596 + 130 * (g 3).toNatClampNeg + (5720 - 130 * (g 3).toNatClampNeg) ≤ x) ∧ (x < m + 3 ∨ m + 3 + 1 ≤ x) ∧ (x < m + 5 ∨ m + 5 + 64 ≤ x) → w9' x = w x) ∧ w9' m = some (.inl (15, zMo m (zs (zs g 1 X9) 3 Y9) r)) ∧ zGr w9' (m + 100) 48 48 ∧ zBo w9' to ∧ ∃ r9 : Int32, v9 = some (.int r9) ∧ (r9 = 0 ∨ r9 = 1) ∧ (r9 = 1 → ∃ P9, zB w9' to P9))) = Post
  show zP (d + 1) zq_X16_resultant 0 [(0, .ref m), (1, .ref to), (2, .ref a), (3, .ref b), (4, .int way)] [] w sz 0 0 Post
  have k1 := zrng way
  have k2 := zrng (g 1)
  have hz3 : ((g 1).toNatClampNeg : Int) = (g 1).toInt := znat (by first | omega | decide)
  have hgb1 : (g 1).toNatClampNeg + 6 ≤ 160 := by omega
  have k4 := zrng (g 3)
  have hz5 : ((g 3).toNatClampNeg : Int) = (g 3).toInt := znat (by first | omega | decide)
  have hgb3 : (g 3).toNatClampNeg + 4 ≤ 44 := by omega
  refine zp_seg (pc' := 1) (lv' := [(0, .ref m), (1, .ref to), (2, .ref a), (3, .ref b), (4, .int way)]) (st' := [.ref m]) [(0, .aload_n 0)] (by decide +kernel) rfl ?_
  refine zr_callV (idx := 140) (j := 274) (by decide +kernel) (by decide +kernel) (show zMe 274 = some zq_X16_newB from rfl) rfl rfl (Nat.le_of_ble_eq_true rfl) rfl rfl hm (Nat.le_of_ble_eq_true rfl) (Nat.le_of_ble_eq_true rfl) (c_X16_newB (w := w) (g3 := (g 3)) m hm hR_m (by first | omega | decide | assumption | exact zr1_1 | exact zr1_0 | fail "num") rfl) (by omega) (fun v1 w1 hp1 => ?_)
  obtain ⟨hsi1, heq1, hp1_0, hp1_1, rfl⟩ := hp1
  have hM1 : w1 m = some (.inl (15, zMo m (zs g 3 (g 3 + 1)) r)) := hp1_0
  show zP _ _ _ _ [.ref (m + 596 + 130 * (g 3).toNatClampNeg)] _ _ _ _ _
  refine zp_seg (pc' := 7) (lv' := [(5, .ref (m + 596 + 130 * (g 3).toNatClampNeg)), (0, .ref m), (1, .ref to), (2, .ref a), (3, .ref b), (4, .int way)]) (st' := [.ref m]) [(4, .astore 5), (6, .aload_n 0)] (by decide +kernel) rfl ?_
  have k7 := zaddC (g 3) 1 (n := 1) (by decide) (by omega) (by omega)
  have hz8 : ((g 3 + 1).toNatClampNeg : Int) = (g 3 + 1).toInt := znat (by first | omega | decide)
  have hgn3_1 : (g 3 + 1).toNatClampNeg = (g 3).toNatClampNeg + 1 := by omega
  have hb9 := hR_m.si hsi1
  refine zr_callV (idx := 140) (j := 274) (by decide +kernel) (by decide +kernel) (show zMe 274 = some zq_X16_newB from rfl) rfl rfl (Nat.le_of_ble_eq_true rfl) rfl rfl hM1 (Nat.le_of_ble_eq_true rfl) (Nat.le_of_ble_eq_true rfl) (c_X16_newB (w := w1) (g3 := (g 3 + 1)) m hM1 hb9 (by first | omega | decide | assumption | exact zr1_1 | exact zr1_0 | fail "num") rfl) (by omega) (fun v7 w7 hp7 => ?_)
  obtain ⟨hsi7, heq7, hp7_0, hp7_1, rfl⟩ := hp7
  have hM7 : w7 m = some (.inl (15, zMo m (zs g 3 (g 3 + 1 + 1)) r)) := hp7_0
  show zP _ _ _ _ [.ref (m + 596 + 130 * (g 3 + 1).toNatClampNeg)] _ _ _ _ _
  refine zp_seg (pc' := 14) (lv' := [(6, .ref (m + 596 + 130 * (g 3 + 1).toNatClampNeg)), (5, .ref (m + 596 + 130 * (g 3).toNatClampNeg)), (0, .ref m), (1, .ref to), (2, .ref a), (3, .ref b), (4, .int way)]) (st' := [.int way]) [(10, .astore 6), (12, .iload 4)] (by decide +kernel) rfl ?_
  have hJ44 : ∀ (wL44 : zM) (U : zA2) (V : zA2), (zSI w7 wL44) → (∀ x, ((x < m + 596 + 130 * (g 3).toNatClampNeg ∨ m + 596 + 130 * (g 3).toNatClampNeg + 260 ≤ x)) ∧ x ≠ m → wL44 x = w7 x) → (zB wL44 (m + 596 + 130 * (g 3).toNatClampNeg) U) → (zB wL44 (m + 596 + 130 * (g 3 + 1).toNatClampNeg) V) → (wL44 m = some (.inl (15, zMo m (zs g 3 (g 3 + 1 + 1)) r))) → ((zrw U ≤ 13 ∧ zdn U ≤ 24 ∧ zrw V ≤ 13 ∧ zdn V ≤ 24) ∨ (zrw U ≤ 25 ∧ zdn U ≤ 12 ∧ zrw V ≤ 25 ∧ zdn V ≤ 12)) → zP (d + 1) zq_X16_resultant 44 [(0, .ref m), (1, .ref to), (4, .int way), (5, .ref (m + 596 + 130 * (g 3).toNatClampNeg)), (6, .ref (m + 596 + 130 * (g 3 + 1).toNatClampNeg))] [] wL44 sz 0 0 Post := by
    intro wL44 U V hsiL44 heqL44 hBU hBV hmL44 hUV
    refine zp_seg (pc' := 46) (lv' := [(0, .ref m), (1, .ref to), (4, .int way), (5, .ref (m + 596 + 130 * (g 3).toNatClampNeg)), (6, .ref (m + 596 + 130 * (g 3 + 1).toNatClampNeg))]) (st' := [.ref (m + 596 + 130 * (g 3).toNatClampNeg)]) [(44, .aload 5)] (by decide +kernel) rfl ?_
    obtain ⟨n10, hb11, hb12, hb13, hb14, -⟩ := id hBU
    have kn10 := zrng n10
    refine zr_get (idx := 93) (k := 1) (v := .int n10) (by decide +kernel) (by decide +kernel) hb11 rfl ?_
    refine zp_if (i := .ifCond .eq 11) (c := n10 = 0) (t := 60) (e := 52) (lv' := [(0, .ref m), (1, .ref to), (4, .int way), (5, .ref (m + 596 + 130 * (g 3).toNatClampNeg)), (6, .ref (m + 596 + 130 * (g 3 + 1).toNatClampNeg))]) (st' := []) (by decide +kernel) rfl (fun cc49 => ?_) (fun cc49 => ?_)
    ·
      have f16 := zeqI cc49
      rw [show (0 : Int32).toInt = 0 from by decide] at f16
      refine zp_seg (pc' := 62) (lv' := [(0, .ref m), (1, .ref to), (4, .int way), (5, .ref (m + 596 + 130 * (g 3).toNatClampNeg)), (6, .ref (m + 596 + 130 * (g 3 + 1).toNatClampNeg))]) (st' := [.int 0, .ref to]) [(60, .aload_n 1), (61, .iconst 0)] (by decide +kernel) rfl ?_
      have hb17 := hBo_to.si ((hsi1.tr hsi7).tr hsiL44)
      obtain ⟨n18, hb19, hb20, -⟩ := id hb17
      have kn18 := zrng n18
      refine zr_callV (idx := 158) (j := 245) (by decide +kernel) (by decide +kernel) (show zMe 245 = some zq_X12_number from rfl) rfl rfl (Nat.le_of_ble_eq_true rfl) rfl rfl hb19 (Nat.le_of_ble_eq_true rfl) (Nat.le_of_ble_eq_true rfl) (c_X12_number (w := wL44) to 0 hb17 (by first | omega | decide | assumption | exact zr1_1 | exact zr1_0 | fail "num")) (by omega) (fun v62 w62 hp62 => ?_)
      obtain ⟨hsi62, heq62, hp62_0, rfl⟩ := hp62
      show zP _ _ _ _ [] _ _ _ _ _
      refine zp_seg (pc' := 66) (lv' := [(0, .ref m), (1, .ref to), (4, .int way), (5, .ref (m + 596 + 130 * (g 3).toNatClampNeg)), (6, .ref (m + 596 + 130 * (g 3 + 1).toNatClampNeg))]) (st' := [.int 1]) [(65, .iconst 1)] (by decide +kernel) rfl ?_
      have hb23 : w62 m = some (.inl (15, zMo m (zs g 3 (g 3 + 1 + 1)) r)) := (heq62 m (zx_X16_resultant_0 hmto hgb3)).trans hmL44
      have hoffend : ∀ x, (x < m ∨ m + 1 ≤ x) ∧ (x < m + 100 ∨ m + 100 + 49 ≤ x) ∧ (x < to ∨ to + 130 ≤ x) ∧ (x < m + 276 + 2 * (g 1).toNatClampNeg ∨ m + 276 + 2 * (g 1).toNatClampNeg + (320 - 2 * (g 1).toNatClampNeg) ≤ x) ∧ (x < m + 596 + 130 * (g 3).toNatClampNeg ∨ m + 596 + 130 * (g 3).toNatClampNeg + (5720 - 130 * (g 3).toNatClampNeg) ≤ x) ∧ (x < m + 3 ∨ m + 3 + 1 ≤ x) ∧ (x < m + 5 ∨ m + 5 + 64 ≤ x) → w62 x = w x := fun x hx => ((heq62 x hx.2.2.1).trans ((heqL44 x ⟨(zx_X16_resultant_3 hx.2.2.2.2.1 hgb3), (zx_X16_resultant_4 hx.1)⟩).trans ((heq7 x ⟨hx.1, (zx_X16_resultant_2 hx.2.2.2.2.1 hgn3_1 hgb3)⟩).trans (heq1 x ⟨hx.1, (zx_X16_resultant_1 hx.2.2.2.2.1 hgb3)⟩))))
      have hb24 : zGr w62 (m + 100) 48 48 := hGr_m_100.ag (fun x hx1 hx2 => ((heq62 x (zx_X16_resultant_10 hx1 hx2 hmto hgb3)).trans ((heqL44 x ⟨(zx_X16_resultant_8 hx1 hx2 hgb3), (zx_X16_resultant_9 hx1 hx2)⟩).trans ((heq7 x ⟨(zx_X16_resultant_5 hx1 hx2), (zx_X16_resultant_7 hx1 hx2 hgn3_1 hgb3)⟩).trans (heq1 x ⟨(zx_X16_resultant_5 hx1 hx2), (zx_X16_resultant_6 hx1 hx2 hgb3)⟩)))))
      have hb25 := hb17.si hsi62
      refine zr_retB (by decide +kernel) rfl (by decide) ?_
      rw [← hPost]; exact ⟨rfl, _, rfl, (g 1), ((g 3 + 1 + 1)), (((hsi1.tr hsi7).tr hsiL44).tr hsi62), hoffend, hb23, hb24, (by
            exact hb25), _, rfl, (by decide), (by
            first | exact fun e => absurd e (by decide) | exact fun _ => ⟨_, hp62_0⟩)⟩
    ·
      have f27 := zneI cc49
      rw [show (0 : Int32).toInt = 0 from by decide] at f27
      refine zp_seg (pc' := 54) (lv' := [(0, .ref m), (1, .ref to), (4, .int way), (5, .ref (m + 596 + 130 * (g 3).toNatClampNeg)), (6, .ref (m + 596 + 130 * (g 3 + 1).toNatClampNeg))]) (st' := [.ref (m + 596 + 130 * (g 3 + 1).toNatClampNeg)]) [(52, .aload 6)] (by decide +kernel) rfl ?_
      obtain ⟨n28, hb29, hb30, hb31, hb32, -⟩ := id hBV
      have kn28 := zrng n28
      refine zr_get (idx := 93) (k := 1) (v := .int n28) (by decide +kernel) (by decide +kernel) hb29 rfl ?_
      refine zp_if (i := .ifCond .ne 10) (c := ¬ n28 = 0) (t := 67) (e := 60) (lv' := [(0, .ref m), (1, .ref to), (4, .int way), (5, .ref (m + 596 + 130 * (g 3).toNatClampNeg)), (6, .ref (m + 596 + 130 * (g 3 + 1).toNatClampNeg))]) (st' := []) (by decide +kernel) rfl (fun cc57 => ?_) (fun cc57 => ?_)
      ·
        have f33 := zneI cc57
        rw [show (0 : Int32).toInt = 0 from by decide] at f33
        refine zp_seg (pc' := 69) (lv' := [(0, .ref m), (1, .ref to), (4, .int way), (5, .ref (m + 596 + 130 * (g 3).toNatClampNeg)), (6, .ref (m + 596 + 130 * (g 3 + 1).toNatClampNeg))]) (st' := [.ref (m + 596 + 130 * (g 3).toNatClampNeg)]) [(67, .aload 5)] (by decide +kernel) rfl ?_
        refine zr_get (idx := 93) (k := 1) (v := .int n10) (by decide +kernel) (by decide +kernel) hb11 rfl ?_
        refine zp_seg (pc' := 74) (lv' := [(0, .ref m), (1, .ref to), (4, .int way), (5, .ref (m + 596 + 130 * (g 3).toNatClampNeg)), (6, .ref (m + 596 + 130 * (g 3 + 1).toNatClampNeg))]) (st' := [.int (n10 - 1)]) [(72, .iconst 1), (73, .isub)] (by decide +kernel) rfl ?_
        have k34 := zsubC n10 1 (n := 1) (by decide) (by omega) (by omega)
        generalize ev74 : (n10 - 1 : Int32) = v74 at k34 ⊢
        have kv74 := zrng v74
        refine zp_seg (pc' := 76) (lv' := [(7, .int v74), (0, .ref m), (1, .ref to), (4, .int way), (5, .ref (m + 596 + 130 * (g 3).toNatClampNeg)), (6, .ref (m + 596 + 130 * (g 3 + 1).toNatClampNeg))]) (st' := []) [(74, .istore 7)] (by decide +kernel) rfl ?_
        have hU1 := hb13
        refine zp_seg (pc' := 78) (lv' := [(7, .int v74), (0, .ref m), (1, .ref to), (4, .int way), (5, .ref (m + 596 + 130 * (g 3).toNatClampNeg)), (6, .ref (m + 596 + 130 * (g 3 + 1).toNatClampNeg))]) (st' := [.ref (m + 596 + 130 * (g 3 + 1).toNatClampNeg)]) [(76, .aload 6)] (by decide +kernel) rfl ?_
        refine zr_get (idx := 93) (k := 1) (v := .int n28) (by decide +kernel) (by decide +kernel) hb29 rfl ?_
        refine zp_seg (pc' := 83) (lv' := [(7, .int v74), (0, .ref m), (1, .ref to), (4, .int way), (5, .ref (m + 596 + 130 * (g 3).toNatClampNeg)), (6, .ref (m + 596 + 130 * (g 3 + 1).toNatClampNeg))]) (st' := [.int (n28 - 1)]) [(81, .iconst 1), (82, .isub)] (by decide +kernel) rfl ?_
        have k35 := zsubC n28 1 (n := 1) (by decide) (by omega) (by omega)
        generalize ev83 : (n28 - 1 : Int32) = v83 at k35 ⊢
        have kv83 := zrng v83
        refine zp_seg (pc' := 85) (lv' := [(8, .int v83), (7, .int v74), (0, .ref m), (1, .ref to), (4, .int way), (5, .ref (m + 596 + 130 * (g 3).toNatClampNeg)), (6, .ref (m + 596 + 130 * (g 3 + 1).toNatClampNeg))]) (st' := []) [(83, .istore 8)] (by decide +kernel) rfl ?_
        have hV1 := hb31
        refine zp_seg (pc' := 87) (lv' := [(8, .int v83), (7, .int v74), (0, .ref m), (1, .ref to), (4, .int way), (5, .ref (m + 596 + 130 * (g 3).toNatClampNeg)), (6, .ref (m + 596 + 130 * (g 3 + 1).toNatClampNeg))]) (st' := [.ref (m + 596 + 130 * (g 3).toNatClampNeg)]) [(85, .aload 5)] (by decide +kernel) rfl ?_
        refine zr_callV (idx := 119) (j := 248) (by decide +kernel) (by decide +kernel) (show zMe 248 = some zq_X12_degreeN from rfl) rfl rfl (Nat.le_of_ble_eq_true rfl) rfl rfl hb11 (Nat.le_of_ble_eq_true rfl) (Nat.le_of_ble_eq_true rfl) (c_X12_degreeN (w := wL44) (m + 596 + 130 * (g 3).toNatClampNeg) hBU) (by omega) (fun v87 w87 hp87 => ?_)
        obtain ⟨hpw87, r87, rfl, hr87⟩ := hp87
        replace hpw87 := hpw87.symm
        subst hpw87
        have kr87 := zrng r87
        show zP _ _ _ _ [.int r87] _ _ _ _ _
        refine zp_seg (pc' := 93) (lv' := [(8, .int v83), (7, .int v74), (0, .ref m), (1, .ref to), (4, .int way), (5, .ref (m + 596 + 130 * (g 3).toNatClampNeg)), (6, .ref (m + 596 + 130 * (g 3 + 1).toNatClampNeg))]) (st' := [.int (r87 * v83)]) [(90, .iload 8), (92, .imul)] (by decide +kernel) rfl ?_
        have k36 := zmulM r87 v83
        generalize ev93 : (r87 * v83 : Int32) = v93 at k36 ⊢
        have kv93 := zrng v93
        have hm1 : 0 ≤ r87.toInt * v83.toInt ∧ r87.toInt * v83.toInt ≤ 288 := by
          rcases hUV with h | h
          · exact zmul_le (a := 24) (b := 12) ⟨by omega, by omega⟩ ⟨by omega, by omega⟩
          · exact zmul_le (a := 12) (b := 24) ⟨by omega, by omega⟩ ⟨by omega, by omega⟩
        refine zp_seg (pc' := 95) (lv' := [(8, .int v83), (7, .int v74), (0, .ref m), (1, .ref to), (4, .int way), (5, .ref (m + 596 + 130 * (g 3).toNatClampNeg)), (6, .ref (m + 596 + 130 * (g 3 + 1).toNatClampNeg))]) (st' := [.ref (m + 596 + 130 * (g 3 + 1).toNatClampNeg), .int v93]) [(93, .aload 6)] (by decide +kernel) rfl ?_
        refine zr_callV (idx := 119) (j := 248) (by decide +kernel) (by decide +kernel) (show zMe 248 = some zq_X12_degreeN from rfl) rfl rfl (Nat.le_of_ble_eq_true rfl) rfl rfl hb29 (Nat.le_of_ble_eq_true rfl) (Nat.le_of_ble_eq_true rfl) (c_X12_degreeN (w := wL44) (m + 596 + 130 * (g 3 + 1).toNatClampNeg) hBV) (by omega) (fun v95 w95 hp95 => ?_)
        obtain ⟨hpw95, r95, rfl, hr95⟩ := hp95
        replace hpw95 := hpw95.symm
        subst hpw95
        have kr95 := zrng r95
        show zP _ _ _ _ [.int r95, .int v93] _ _ _ _ _
        refine zp_seg (pc' := 101) (lv' := [(8, .int v83), (7, .int v74), (0, .ref m), (1, .ref to), (4, .int way), (5, .ref (m + 596 + 130 * (g 3).toNatClampNeg)), (6, .ref (m + 596 + 130 * (g 3 + 1).toNatClampNeg))]) (st' := [.int (r95 * v74), .int v93]) [(98, .iload 7), (100, .imul)] (by decide +kernel) rfl ?_
        have k37 := zmulM r95 v74
        generalize ev101 : (r95 * v74 : Int32) = v101 at k37 ⊢
        have kv101 := zrng v101
        have hm2 : 0 ≤ r95.toInt * v74.toInt ∧ r95.toInt * v74.toInt ≤ 288 := by
          rcases hUV with h | h
          · exact zmul_le (a := 24) (b := 12) ⟨by omega, by omega⟩ ⟨by omega, by omega⟩
          · exact zmul_le (a := 12) (b := 24) ⟨by omega, by omega⟩ ⟨by omega, by omega⟩
        refine zp_seg (pc' := 102) (lv' := [(8, .int v83), (7, .int v74), (0, .ref m), (1, .ref to), (4, .int way), (5, .ref (m + 596 + 130 * (g 3).toNatClampNeg)), (6, .ref (m + 596 + 130 * (g 3 + 1).toNatClampNeg))]) (st' := [.int (v93 + v101)]) [(101, .iadd)] (by decide +kernel) rfl ?_
        have k38 := zadd v93 v101 (by omega) (by omega)
        generalize ev102 : (v93 + v101 : Int32) = v102 at k38 ⊢
        have kv102 := zrng v102
        refine zp_seg (pc' := 104) (lv' := [(8, .int v83), (7, .int v74), (0, .ref m), (1, .ref to), (4, .int way), (5, .ref (m + 596 + 130 * (g 3).toNatClampNeg)), (6, .ref (m + 596 + 130 * (g 3 + 1).toNatClampNeg))]) (st' := [.int (v102 + 1)]) [(102, .iconst 1), (103, .iadd)] (by decide +kernel) rfl ?_
        have k39 := zaddC v102 1 (n := 1) (by decide) (by omega) (by omega)
        generalize ev104 : (v102 + 1 : Int32) = v104 at k39 ⊢
        have kv104 := zrng v104
        refine zp_seg (pc' := 106) (lv' := [(9, .int v104), (8, .int v83), (7, .int v74), (0, .ref m), (1, .ref to), (4, .int way), (5, .ref (m + 596 + 130 * (g 3).toNatClampNeg)), (6, .ref (m + 596 + 130 * (g 3 + 1).toNatClampNeg))]) (st' := []) [(104, .istore 9)] (by decide +kernel) rfl ?_
        have hbd9 : 1 ≤ v104.toInt ∧ v104.toInt ≤ 577 := by omega
        have hz40 : (v104.toNatClampNeg : Int) = v104.toInt := znat (by first | omega | decide)
        refine zp_seg (pc' := 109) (lv' := [(10, .int 0), (9, .int v104), (8, .int v83), (7, .int v74), (0, .ref m), (1, .ref to), (4, .int way), (5, .ref (m + 596 + 130 * (g 3).toNatClampNeg)), (6, .ref (m + 596 + 130 * (g 3 + 1).toNatClampNeg))]) (st' := []) [(106, .iconst 0), (107, .istore 10)] (by decide +kernel) rfl ?_
        have hL109 : ∀ (mm109 : Nat) (wL109 : zM) (y10_109 : Int32) (xf : Nat → Int32) (yf : Nat → Int32), (zSI wL44 wL109) → (∀ x, ((x < m + 3 ∨ m + 3 + 1 ≤ x) ∧ (x < m + 5 ∨ m + 5 + 1 ≤ x) ∧ (x < m + 100 ∨ m + 100 + 49 ≤ x)) ∧ x ≠ m → wL109 x = wL44 x) → (0 ≤ y10_109.toInt) → (y10_109.toInt ≤ v104.toInt) → (wL109 (m + 3) = some (.inr (0, 700, .inl xf))) → (wL109 (m + 5 + 0) = some (.inr (0, 700, .inl yf))) → (zGr wL109 (m + 100) 48 48) → (wL109 m = some (.inl (15, zMo m (zs g 3 (g 3 + 1 + 1)) r))) → (∀ i, i < y10_109.toNatClampNeg → (xf i).toInt = (i : Int)) → (∀ i, i < y10_109.toNatClampNeg → zr1 (yf i)) → (700 - y10_109.toInt).toNat < mm109 → zP (d + 1) zq_X16_resultant 109 [(0, .ref m), (1, .ref to), (4, .int way), (5, .ref (m + 596 + 130 * (g 3).toNatClampNeg)), (6, .ref (m + 596 + 130 * (g 3 + 1).toNatClampNeg)), (7, .int v74), (8, .int v83), (9, .int v104), (10, .int y10_109)] [] wL109 sz 0 0 Post := by
          intro mm109
          induction mm109 with
          | zero => intros; omega
          | succ mm109 ih109 =>
          intro wL109 y10_109 xf yf hsiL109 heqL109 hi109_0 hi109_1 hAx hAy hGl hmL109 hxi hyi hmu109
          have ky10_109 := zrng y10_109
          have hz41 : (y10_109.toNatClampNeg : Int) = y10_109.toInt := znat (by first | omega | decide)
          refine zp_seg (pc' := 113) (lv' := [(0, .ref m), (1, .ref to), (4, .int way), (5, .ref (m + 596 + 130 * (g 3).toNatClampNeg)), (6, .ref (m + 596 + 130 * (g 3 + 1).toNatClampNeg)), (7, .int v74), (8, .int v83), (9, .int v104), (10, .int y10_109)]) (st' := [.int v104, .int y10_109]) [(109, .iload 10), (111, .iload 9)] (by decide +kernel) rfl ?_
          refine zp_if (i := .if_icmp .ge 41) (c := v104 ≤ y10_109) (t := 154) (e := 116) (lv' := [(0, .ref m), (1, .ref to), (4, .int way), (5, .ref (m + 596 + 130 * (g 3).toNatClampNeg)), (6, .ref (m + 596 + 130 * (g 3 + 1).toNatClampNeg)), (7, .int v74), (8, .int v83), (9, .int v104), (10, .int y10_109)]) (st' := []) (by decide +kernel) rfl (fun cc113 => ?_) (fun cc113 => ?_)
          ·
            have f42 := zleI cc113
            refine zp_seg (pc' := 155) (lv' := [(0, .ref m), (1, .ref to), (4, .int way), (5, .ref (m + 596 + 130 * (g 3).toNatClampNeg)), (6, .ref (m + 596 + 130 * (g 3 + 1).toNatClampNeg)), (7, .int v74), (8, .int v83), (9, .int v104), (10, .int y10_109)]) (st' := [.ref m]) [(154, .aload_n 0)] (by decide +kernel) rfl ?_
            have hb43 := hb9.si ((hsi7.tr hsiL44).tr hsiL109)
            refine zr_callV (idx := 74) (j := 263) (by decide +kernel) (by decide +kernel) (show zMe 263 = some zq_X16_newU from rfl) rfl rfl (Nat.le_of_ble_eq_true rfl) rfl rfl hmL109 (Nat.le_of_ble_eq_true rfl) (Nat.le_of_ble_eq_true rfl) (c_X16_newU (w := wL109) (g1 := (g 1)) m hmL109 hb43 (by first | omega | decide | assumption | exact zr1_1 | exact zr1_0 | fail "num") rfl) (by omega) (fun v155 w155 hp155 => ?_)
            obtain ⟨hsi155, heq155, hp155_0, hp155_1, rfl⟩ := hp155
            have hM155 : w155 m = some (.inl (15, zMo m (zs (zs g 1 (g 1 + 1)) 3 (g 3 + 1 + 1)) r)) := hp155_0
            show zP _ _ _ _ [.ref (m + 276 + 2 * (g 1).toNatClampNeg)] _ _ _ _ _
            refine zp_seg (pc' := 164) (lv' := [(10, .ref (m + 276 + 2 * (g 1).toNatClampNeg)), (0, .ref m), (1, .ref to), (4, .int way), (5, .ref (m + 596 + 130 * (g 3).toNatClampNeg)), (6, .ref (m + 596 + 130 * (g 3 + 1).toNatClampNeg)), (7, .int v74), (8, .int v83), (9, .int v104)]) (st' := [.ref m, .ref (m + 276 + 2 * (g 1).toNatClampNeg), .ref m]) [(158, .astore 10), (160, .aload_n 0), (161, .aload 10), (163, .aload_n 0)] (by decide +kernel) rfl ?_
            refine zr_get (idx := 159) (k := 5) (v := .ref (m + 4)) (by decide +kernel) (by decide +kernel) hM155 rfl ?_
            refine zp_seg (pc' := 168) (lv' := [(10, .ref (m + 276 + 2 * (g 1).toNatClampNeg)), (0, .ref m), (1, .ref to), (4, .int way), (5, .ref (m + 596 + 130 * (g 3).toNatClampNeg)), (6, .ref (m + 596 + 130 * (g 3 + 1).toNatClampNeg)), (7, .int v74), (8, .int v83), (9, .int v104)]) (st' := [.int 0, .ref (m + 4), .ref (m + 276 + 2 * (g 1).toNatClampNeg), .ref m]) [(167, .iconst 0)] (by decide +kernel) rfl ?_
            have hb44 := hb43.si hsi155
            have hb46 := hb44.ys
            have hl47 : (0 : Int32).toInt = 0 := by decide
            have hz48 : ((0 : Int32).toNatClampNeg : Int) = 0 := by decide
            refine zr_aald (v := .ref (m + 5 + 0)) (by decide +kernel) hb46 (by decide) (zin (by decide) (by decide)) rfl ?_
            refine zp_seg (pc' := 171) (lv' := [(10, .ref (m + 276 + 2 * (g 1).toNatClampNeg)), (0, .ref m), (1, .ref to), (4, .int way), (5, .ref (m + 596 + 130 * (g 3).toNatClampNeg)), (6, .ref (m + 596 + 130 * (g 3 + 1).toNatClampNeg)), (7, .int v74), (8, .int v83), (9, .int v104)]) (st' := [.int v104, .ref (m + 5 + 0), .ref (m + 276 + 2 * (g 1).toNatClampNeg), .ref m]) [(169, .iload 9)] (by decide +kernel) rfl ?_
            have k49 := zaddC (g 1) 1 (n := 1) (by decide) (by omega) (by omega)
            have hz50 : ((g 1 + 1).toNatClampNeg : Int) = (g 1 + 1).toInt := znat (by first | omega | decide)
            have hgn1_1 : (g 1 + 1).toNatClampNeg = (g 1).toNatClampNeg + 1 := by omega
            have ho171_to := zU.o hp155_1
            have hb51 : w155 (m + 3) = some (.inr (0, 700, .inl xf)) := (heq155 (m + 3) ⟨(zx_X16_resultant_11), (zx_X16_resultant_12 hgb1)⟩).trans hAx
            have hb52 : w155 (m + 5 + 0) = some (.inr (0, 700, .inl yf)) := (heq155 (m + 5 + 0) ⟨(zx_X16_resultant_13), (zx_X16_resultant_14 hgb1)⟩).trans hAy
            refine zr_callV (idx := 163) (j := 289) (by decide +kernel) (by decide +kernel) (show zMe 289 = some zq_X16_through from rfl) rfl rfl (Nat.le_of_ble_eq_true rfl) rfl rfl hM155 (Nat.le_of_ble_eq_true rfl) (Nat.le_of_ble_eq_true rfl) (c_X16_through (w := w155) (g1 := (g 1 + 1)) m (m + 276 + 2 * (g 1).toNatClampNeg) (m + 5 + 0) v104 hM155 hb44 ho171_to hb51 hb52 (by first | omega | decide | assumption | exact zr1_1 | exact zr1_0 | fail "num") (by first | omega | decide | assumption | exact zr1_1 | exact zr1_0 | fail "num") (by first | omega | decide | assumption | exact zr1_1 | exact zr1_0 | fail "num") (by first | omega | decide | assumption | exact zr1_1 | exact zr1_0 | fail "num") (by exact fun t ht => ⟨by rw [hxi t (by omega)]; omega, by rw [hxi t (by omega)]; omega⟩) (by exact fun t ht => hyi t (by omega)) (by exact fun t u ht hu e => zdist (n := v104.toNatClampNeg) (fun i hi => hxi i (by omega)) (by omega) t u ht hu e) rfl) (by omega) (fun v171 w171 hp171 => ?_)
            obtain ⟨T_171, Bx_171, hsi171, heq171, hp171_0, hp171_1, rfl⟩ := hp171
            show zP _ _ _ _ [] _ _ _ _ _
            refine zp_seg (pc' := 176) (lv' := [(10, .ref (m + 276 + 2 * (g 1).toNatClampNeg)), (0, .ref m), (1, .ref to), (4, .int way), (5, .ref (m + 596 + 130 * (g 3).toNatClampNeg)), (6, .ref (m + 596 + 130 * (g 3 + 1).toNatClampNeg)), (7, .int v74), (8, .int v83), (9, .int v104)]) (st' := [.ref (m + 276 + 2 * (g 1).toNatClampNeg)]) [(174, .aload 10)] (by decide +kernel) rfl ?_
            obtain ⟨n53, f54, hu55, hu56, hu57, hu58, hu59⟩ := id hp171_0
            have kn53 := zrng n53
            refine zr_get (idx := 25) (k := 1) (v := .int n53) (by decide +kernel) (by decide +kernel) hu55 rfl ?_
            refine zp_seg (pc' := 181) (lv' := [(10, .ref (m + 276 + 2 * (g 1).toNatClampNeg)), (0, .ref m), (1, .ref to), (4, .int way), (5, .ref (m + 596 + 130 * (g 3).toNatClampNeg)), (6, .ref (m + 596 + 130 * (g 3 + 1).toNatClampNeg)), (7, .int v74), (8, .int v83), (9, .int v104)]) (st' := [.int way, .int n53]) [(179, .iload 4)] (by decide +kernel) rfl ?_
            refine zp_if (i := .ifCond .eq 8) (c := way = 0) (t := 189) (e := 184) (lv' := [(10, .ref (m + 276 + 2 * (g 1).toNatClampNeg)), (0, .ref m), (1, .ref to), (4, .int way), (5, .ref (m + 596 + 130 * (g 3).toNatClampNeg)), (6, .ref (m + 596 + 130 * (g 3 + 1).toNatClampNeg)), (7, .int v74), (8, .int v83), (9, .int v104)]) (st' := [.int n53]) (by decide +kernel) rfl (fun cc181 => ?_) (fun cc181 => ?_)
            ·
              have f60 := zeqI cc181
              rw [show (0 : Int32).toInt = 0 from by decide] at f60
              refine zp_seg (pc' := 191) (lv' := [(10, .ref (m + 276 + 2 * (g 1).toNatClampNeg)), (0, .ref m), (1, .ref to), (4, .int way), (5, .ref (m + 596 + 130 * (g 3).toNatClampNeg)), (6, .ref (m + 596 + 130 * (g 3 + 1).toNatClampNeg)), (7, .int v74), (8, .int v83), (9, .int v104)]) (st' := [.int 25, .int n53]) [(189, .bipush 25)] (by decide +kernel) rfl ?_
              refine zp_if (i := .if_icmp .le 5) (c := n53 ≤ 25) (t := 196) (e := 194) (lv' := [(10, .ref (m + 276 + 2 * (g 1).toNatClampNeg)), (0, .ref m), (1, .ref to), (4, .int way), (5, .ref (m + 596 + 130 * (g 3).toNatClampNeg)), (6, .ref (m + 596 + 130 * (g 3 + 1).toNatClampNeg)), (7, .int v74), (8, .int v83), (9, .int v104)]) (st' := []) (by decide +kernel) rfl (fun cc191 => ?_) (fun cc191 => ?_)
              ·
                have f62 := zleI cc191
                rw [show (25 : Int32).toInt = 25 from by decide] at f62
                refine zp_seg (pc' := 198) (lv' := [(10, .ref (m + 276 + 2 * (g 1).toNatClampNeg)), (0, .ref m), (1, .ref to), (4, .int way), (5, .ref (m + 596 + 130 * (g 3).toNatClampNeg)), (6, .ref (m + 596 + 130 * (g 3 + 1).toNatClampNeg)), (7, .int v74), (8, .int v83), (9, .int v104)]) (st' := [.int way]) [(196, .iload 4)] (by decide +kernel) rfl ?_
                refine zp_if (i := .ifCond .ne 26) (c := ¬ way = 0) (t := 224) (e := 201) (lv' := [(10, .ref (m + 276 + 2 * (g 1).toNatClampNeg)), (0, .ref m), (1, .ref to), (4, .int way), (5, .ref (m + 596 + 130 * (g 3).toNatClampNeg)), (6, .ref (m + 596 + 130 * (g 3 + 1).toNatClampNeg)), (7, .int v74), (8, .int v83), (9, .int v104)]) (st' := []) (by decide +kernel) rfl (fun cc198 => ?_) (fun cc198 => ?_)
                ·
                  exact absurd cc181 cc198
                ·
                  replace cc198 := Classical.not_not.mp cc198
                  have f63 := zeqI cc198
                  rw [show (0 : Int32).toInt = 0 from by decide] at f63
                  refine zp_seg (pc' := 202) (lv' := [(10, .ref (m + 276 + 2 * (g 1).toNatClampNeg)), (0, .ref m), (1, .ref to), (4, .int way), (5, .ref (m + 596 + 130 * (g 3).toNatClampNeg)), (6, .ref (m + 596 + 130 * (g 3 + 1).toNatClampNeg)), (7, .int v74), (8, .int v83), (9, .int v104)]) (st' := [.ref to]) [(201, .aload_n 1)] (by decide +kernel) rfl ?_
                  have hb69 := hBo_to.si (((((hsi1.tr hsi7).tr hsiL44).tr hsiL109).tr hsi155).tr hsi171)
                  obtain ⟨n64, hb65, hb66, -⟩ := id hb69
                  have kn64 := zrng n64
                  refine zr_get (idx := 98) (k := 0) (v := .ref (to + 1)) (by decide +kernel) (by decide +kernel) hb65 rfl ?_
                  refine zp_seg (pc' := 206) (lv' := [(10, .ref (m + 276 + 2 * (g 1).toNatClampNeg)), (0, .ref m), (1, .ref to), (4, .int way), (5, .ref (m + 596 + 130 * (g 3).toNatClampNeg)), (6, .ref (m + 596 + 130 * (g 3 + 1).toNatClampNeg)), (7, .int v74), (8, .int v83), (9, .int v104)]) (st' := [.int 0, .ref (to + 1)]) [(205, .iconst 0)] (by decide +kernel) rfl ?_
                  refine zr_aald (v := .ref (to + 2 + 2 * 0)) (by decide +kernel) hb66 (by decide) (zin (by decide) (by decide)) rfl ?_
                  have hrow70 := hb69.rowo 0 (by omega)
                  refine zp_seg (pc' := 209) (lv' := [(10, .ref (m + 276 + 2 * (g 1).toNatClampNeg)), (0, .ref m), (1, .ref to), (4, .int way), (5, .ref (m + 596 + 130 * (g 3).toNatClampNeg)), (6, .ref (m + 596 + 130 * (g 3 + 1).toNatClampNeg)), (7, .int v74), (8, .int v83), (9, .int v104)]) (st' := [.ref (m + 276 + 2 * (g 1).toNatClampNeg), .ref (to + 2 + 2 * 0)]) [(207, .aload 10)] (by decide +kernel) rfl ?_
                  refine zr_callS (idx := 62) (j := 264) (by decide +kernel) (by decide +kernel) (by decide) (show zMe 264 = some zq_X16_set from rfl) rfl rfl (Nat.le_of_ble_eq_true rfl) rfl rfl (Nat.le_of_ble_eq_true rfl) (Nat.le_of_ble_eq_true rfl) (c_X16_set (w := w171) (to + 2 + 2 * 0) (m + 276 + 2 * (g 1).toNatClampNeg) hrow70 hp171_0 (by first | omega | decide | assumption | exact zr1_1 | exact zr1_0 | fail "num") (by first | omega | decide | assumption | exact zr1_1 | exact zr1_0 | fail "num")) (by omega) (fun v209 w209 hp209 => ?_)
                  obtain ⟨hsi209, heq209, hp209_0, rfl⟩ := hp209
                  show zP _ _ _ _ [] _ _ _ _ _
                  refine zp_seg (pc' := 214) (lv' := [(10, .ref (m + 276 + 2 * (g 1).toNatClampNeg)), (0, .ref m), (1, .ref to), (4, .int way), (5, .ref (m + 596 + 130 * (g 3).toNatClampNeg)), (6, .ref (m + 596 + 130 * (g 3 + 1).toNatClampNeg)), (7, .int v74), (8, .int v83), (9, .int v104)]) (st' := [.int 1, .ref to]) [(212, .aload_n 1), (213, .iconst 1)] (by decide +kernel) rfl ?_
                  have hb71 : w209 to = some (.inl (11, [.ref (to + 1), .int n64])) := (heq209 to (zx_X16_resultant_15 hmto hgb3)).trans hb65
                  refine zr_put2 (idx := 93) (k := 1) (fs2 := [.ref (to + 1), .int 1]) (by decide +kernel) (by decide +kernel) hb71 (Nat.le_of_ble_eq_true rfl) rfl rfl rfl ?_
                  show zP (d + 1) zq_X16_resultant 217 [(10, .ref (m + 276 + 2 * (g 1).toNatClampNeg)), (0, .ref m), (1, .ref to), (4, .int way), (5, .ref (m + 596 + 130 * (g 3).toNatClampNeg)), (6, .ref (m + 596 + 130 * (g 3 + 1).toNatClampNeg)), (7, .int v74), (8, .int v83), (9, .int v104)] [] (zup w209 to (.inl (11, [.ref (to + 1), .int 1]))) sz 0 0 Post
                  obtain ⟨w214, ew214⟩ : ∃ wz9, wz9 = zup w209 to (.inl (11, [.ref (to + 1), .int 1])) := ⟨_, rfl⟩
                  have hsi214 : zSI w209 w214 := by rw [ew214]; exact zSI.setB hb71
                  have heq214 : ∀ x, x ≠ to → w214 x = w209 x := fun x hx => by rw [ew214]; exact zup_n hx
                  have hc214 : w214 to = some (.inl (11, [.ref (to + 1), .int 1])) := by rw [ew214]; exact zup_s
                  rw [← ew214]
                  clear ew214
                  have hb72 := hb69.si (hsi209.tr hsi214)
                  have hb73 : zU w214 (to + 2 + 2 * 0) 200 T_171 := hp209_0.ag (fun x hx1 hx2 => (heq214 x (zx_X16_resultant_16 hx1 hx2 hmto hgb3)))
                  have hBn9 : zBw w214 to 1 (zbOf (fun _ => T_171) 1) := zBw.mk hb72 hc214 (by decide) (by omega) (fun j hj => by rw [zbOf_y hj, show j = 0 by omega]; exact hb73) (fun j hj => zbOf_n hj)
                  refine zp_seg (pc' := 218) (lv' := [(10, .ref (m + 276 + 2 * (g 1).toNatClampNeg)), (0, .ref m), (1, .ref to), (4, .int way), (5, .ref (m + 596 + 130 * (g 3).toNatClampNeg)), (6, .ref (m + 596 + 130 * (g 3 + 1).toNatClampNeg)), (7, .int v74), (8, .int v83), (9, .int v104)]) (st' := [.ref to]) [(217, .aload_n 1)] (by decide +kernel) rfl ?_
                  refine zr_callV (idx := 105) (j := 244) (by decide +kernel) (by decide +kernel) (show zMe 244 = some zq_X12_trim from rfl) rfl rfl (Nat.le_of_ble_eq_true rfl) rfl rfl hc214 (Nat.le_of_ble_eq_true rfl) (Nat.le_of_ble_eq_true rfl) (c_X12_trim (w := w214) to hBn9) (by omega) (fun v218 w218 hp218 => ?_)
                  obtain ⟨hsi218, heq218, hp218_0, rfl⟩ := hp218
                  show zP _ _ _ _ [] _ _ _ _ _
                  refine zp_seg (pc' := 270) (lv' := [(10, .ref (m + 276 + 2 * (g 1).toNatClampNeg)), (0, .ref m), (1, .ref to), (4, .int way), (5, .ref (m + 596 + 130 * (g 3).toNatClampNeg)), (6, .ref (m + 596 + 130 * (g 3 + 1).toNatClampNeg)), (7, .int v74), (8, .int v83), (9, .int v104)]) (st' := []) [(221, .goto 49)] (by decide +kernel) rfl ?_
                  refine zp_seg (pc' := 271) (lv' := [(10, .ref (m + 276 + 2 * (g 1).toNatClampNeg)), (0, .ref m), (1, .ref to), (4, .int way), (5, .ref (m + 596 + 130 * (g 3).toNatClampNeg)), (6, .ref (m + 596 + 130 * (g 3 + 1).toNatClampNeg)), (7, .int v74), (8, .int v83), (9, .int v104)]) (st' := [.int 1]) [(270, .iconst 1)] (by decide +kernel) rfl ?_
                  have hb74 : w218 m = some (.inl (15, zMo m (zs (zs g 1 (g 1 + 1)) 3 (g 3 + 1 + 1)) r)) := ((heq218 m (zx_X16_resultant_21 hmto hgb3)).trans ((heq214 m (zx_X16_resultant_20 hmto hgb3)).trans ((heq209 m (zx_X16_resultant_19 hmto hgb3)).trans (heq171 m ⟨(zx_X16_resultant_17 hgb1), (zx_X16_resultant_18 hgn1_1 hgb1)⟩)))).trans hM155
                  have hoffend : ∀ x, (x < m ∨ m + 1 ≤ x) ∧ (x < m + 100 ∨ m + 100 + 49 ≤ x) ∧ (x < to ∨ to + 130 ≤ x) ∧ (x < m + 276 + 2 * (g 1).toNatClampNeg ∨ m + 276 + 2 * (g 1).toNatClampNeg + (320 - 2 * (g 1).toNatClampNeg) ≤ x) ∧ (x < m + 596 + 130 * (g 3).toNatClampNeg ∨ m + 596 + 130 * (g 3).toNatClampNeg + (5720 - 130 * (g 3).toNatClampNeg) ≤ x) ∧ (x < m + 3 ∨ m + 3 + 1 ≤ x) ∧ (x < m + 5 ∨ m + 5 + 64 ≤ x) → w218 x = w x := fun x hx => ((heq218 x (zx_X16_resultant_27 hx.2.2.1 hmto hgb3)).trans ((heq214 x (zx_X16_resultant_26 hx.2.2.1 hmto hgb3)).trans ((heq209 x (zx_X16_resultant_25 hx.2.2.1 hmto hgb3)).trans ((heq171 x ⟨(zx_X16_resultant_23 hx.2.2.2.1 hgb1), (zx_X16_resultant_24 hx.2.2.2.1 hgn1_1 hgb1)⟩).trans ((heq155 x ⟨hx.1, (zx_X16_resultant_23 hx.2.2.2.1 hgb1)⟩).trans ((heqL109 x ⟨⟨hx.2.2.2.2.2.1, (zx_X16_resultant_22 hx.2.2.2.2.2.2), hx.2.1⟩, (zx_X16_resultant_4 hx.1)⟩).trans ((heqL44 x ⟨(zx_X16_resultant_3 hx.2.2.2.2.1 hgb3), (zx_X16_resultant_4 hx.1)⟩).trans ((heq7 x ⟨hx.1, (zx_X16_resultant_2 hx.2.2.2.2.1 hgn3_1 hgb3)⟩).trans (heq1 x ⟨hx.1, (zx_X16_resultant_1 hx.2.2.2.2.1 hgb3)⟩)))))))))
                  have hb75 : zGr w218 (m + 100) 48 48 := hGl.ag (fun x hx1 hx2 => ((heq218 x (zx_X16_resultant_32 hx1 hx2 hmto hgb3)).trans ((heq214 x (zx_X16_resultant_31 hx1 hx2 hmto hgb3)).trans ((heq209 x (zx_X16_resultant_30 hx1 hx2 hmto hgb3)).trans ((heq171 x ⟨(zx_X16_resultant_28 hx1 hx2 hgb1), (zx_X16_resultant_29 hx1 hx2 hgn1_1 hgb1)⟩).trans (heq155 x ⟨(zx_X16_resultant_5 hx1 hx2), (zx_X16_resultant_28 hx1 hx2 hgb1)⟩))))))
                  have hb76 := hb72.si hsi218
                  refine zr_retB (by decide +kernel) rfl (by decide) ?_
                  rw [← hPost]; exact ⟨rfl, _, rfl, ((g 1 + 1)), ((g 3 + 1 + 1)), ((((((((hsi1.tr hsi7).tr hsiL44).tr hsiL109).tr hsi155).tr hsi171).tr hsi209).tr hsi214).tr hsi218), hoffend, hb74, hb75, (by
                        exact hb76), _, rfl, (by decide), (by
                        first | exact fun e => absurd e (by decide) | exact fun _ => ⟨_, hp218_0⟩)⟩
              ·
                have f78 := znleI cc191
                rw [show (25 : Int32).toInt = 25 from by decide] at f78
                refine zp_seg (pc' := 195) (lv' := [(10, .ref (m + 276 + 2 * (g 1).toNatClampNeg)), (0, .ref m), (1, .ref to), (4, .int way), (5, .ref (m + 596 + 130 * (g 3).toNatClampNeg)), (6, .ref (m + 596 + 130 * (g 3 + 1).toNatClampNeg)), (7, .int v74), (8, .int v83), (9, .int v104)]) (st' := [.int 0]) [(194, .iconst 0)] (by decide +kernel) rfl ?_
                have hb79 : w171 m = some (.inl (15, zMo m (zs (zs g 1 (g 1 + 1)) 3 (g 3 + 1 + 1)) r)) := (heq171 m ⟨(zx_X16_resultant_17 hgb1), (zx_X16_resultant_18 hgn1_1 hgb1)⟩).trans hM155
                have hoffend : ∀ x, (x < m ∨ m + 1 ≤ x) ∧ (x < m + 100 ∨ m + 100 + 49 ≤ x) ∧ (x < to ∨ to + 130 ≤ x) ∧ (x < m + 276 + 2 * (g 1).toNatClampNeg ∨ m + 276 + 2 * (g 1).toNatClampNeg + (320 - 2 * (g 1).toNatClampNeg) ≤ x) ∧ (x < m + 596 + 130 * (g 3).toNatClampNeg ∨ m + 596 + 130 * (g 3).toNatClampNeg + (5720 - 130 * (g 3).toNatClampNeg) ≤ x) ∧ (x < m + 3 ∨ m + 3 + 1 ≤ x) ∧ (x < m + 5 ∨ m + 5 + 64 ≤ x) → w171 x = w x := fun x hx => ((heq171 x ⟨(zx_X16_resultant_23 hx.2.2.2.1 hgb1), (zx_X16_resultant_24 hx.2.2.2.1 hgn1_1 hgb1)⟩).trans ((heq155 x ⟨hx.1, (zx_X16_resultant_23 hx.2.2.2.1 hgb1)⟩).trans ((heqL109 x ⟨⟨hx.2.2.2.2.2.1, (zx_X16_resultant_22 hx.2.2.2.2.2.2), hx.2.1⟩, (zx_X16_resultant_4 hx.1)⟩).trans ((heqL44 x ⟨(zx_X16_resultant_3 hx.2.2.2.2.1 hgb3), (zx_X16_resultant_4 hx.1)⟩).trans ((heq7 x ⟨hx.1, (zx_X16_resultant_2 hx.2.2.2.2.1 hgn3_1 hgb3)⟩).trans (heq1 x ⟨hx.1, (zx_X16_resultant_1 hx.2.2.2.2.1 hgb3)⟩))))))
                have hb80 : zGr w171 (m + 100) 48 48 := hGl.ag (fun x hx1 hx2 => ((heq171 x ⟨(zx_X16_resultant_28 hx1 hx2 hgb1), (zx_X16_resultant_29 hx1 hx2 hgn1_1 hgb1)⟩).trans (heq155 x ⟨(zx_X16_resultant_5 hx1 hx2), (zx_X16_resultant_28 hx1 hx2 hgb1)⟩)))
                have hb81 := hBo_to.si (((((hsi1.tr hsi7).tr hsiL44).tr hsiL109).tr hsi155).tr hsi171)
                refine zr_retB (by decide +kernel) rfl (by decide) ?_
                rw [← hPost]; exact ⟨rfl, _, rfl, ((g 1 + 1)), ((g 3 + 1 + 1)), (((((hsi1.tr hsi7).tr hsiL44).tr hsiL109).tr hsi155).tr hsi171), hoffend, hb79, hb80, (by
                      exact hb81), _, rfl, (by decide), (by
                      first | exact fun e => absurd e (by decide) | exact fun _ => ⟨_, none9⟩)⟩
            ·
              have f82 := zneI cc181
              rw [show (0 : Int32).toInt = 0 from by decide] at f82
              refine zp_seg (pc' := 191) (lv' := [(10, .ref (m + 276 + 2 * (g 1).toNatClampNeg)), (0, .ref m), (1, .ref to), (4, .int way), (5, .ref (m + 596 + 130 * (g 3).toNatClampNeg)), (6, .ref (m + 596 + 130 * (g 3 + 1).toNatClampNeg)), (7, .int v74), (8, .int v83), (9, .int v104)]) (st' := [.int 13, .int n53]) [(184, .bipush 13), (186, .goto 5)] (by decide +kernel) rfl ?_
              refine zp_if (i := .if_icmp .le 5) (c := n53 ≤ 13) (t := 196) (e := 194) (lv' := [(10, .ref (m + 276 + 2 * (g 1).toNatClampNeg)), (0, .ref m), (1, .ref to), (4, .int way), (5, .ref (m + 596 + 130 * (g 3).toNatClampNeg)), (6, .ref (m + 596 + 130 * (g 3 + 1).toNatClampNeg)), (7, .int v74), (8, .int v83), (9, .int v104)]) (st' := []) (by decide +kernel) rfl (fun cc191 => ?_) (fun cc191 => ?_)
              ·
                have f84 := zleI cc191
                rw [show (13 : Int32).toInt = 13 from by decide] at f84
                refine zp_seg (pc' := 198) (lv' := [(10, .ref (m + 276 + 2 * (g 1).toNatClampNeg)), (0, .ref m), (1, .ref to), (4, .int way), (5, .ref (m + 596 + 130 * (g 3).toNatClampNeg)), (6, .ref (m + 596 + 130 * (g 3 + 1).toNatClampNeg)), (7, .int v74), (8, .int v83), (9, .int v104)]) (st' := [.int way]) [(196, .iload 4)] (by decide +kernel) rfl ?_
                refine zp_if (i := .ifCond .ne 26) (c := ¬ way = 0) (t := 224) (e := 201) (lv' := [(10, .ref (m + 276 + 2 * (g 1).toNatClampNeg)), (0, .ref m), (1, .ref to), (4, .int way), (5, .ref (m + 596 + 130 * (g 3).toNatClampNeg)), (6, .ref (m + 596 + 130 * (g 3 + 1).toNatClampNeg)), (7, .int v74), (8, .int v83), (9, .int v104)]) (st' := []) (by decide +kernel) rfl (fun cc198 => ?_) (fun cc198 => ?_)
                ·
                  have f85 := zneI cc198
                  rw [show (0 : Int32).toInt = 0 from by decide] at f85
                  refine zp_seg (pc' := 227) (lv' := [(11, .int 0), (10, .ref (m + 276 + 2 * (g 1).toNatClampNeg)), (0, .ref m), (1, .ref to), (4, .int way), (5, .ref (m + 596 + 130 * (g 3).toNatClampNeg)), (6, .ref (m + 596 + 130 * (g 3 + 1).toNatClampNeg)), (7, .int v74), (8, .int v83), (9, .int v104)]) (st' := []) [(224, .iconst 0), (225, .istore 11)] (by decide +kernel) rfl ?_
                  have hb86 : w171 m = some (.inl (15, zMo m (zs (zs g 1 (g 1 + 1)) 3 (g 3 + 1 + 1)) r)) := (heq171 m ⟨(zx_X16_resultant_17 hgb1), (zx_X16_resultant_18 hgn1_1 hgb1)⟩).trans hM155
                  have hL227 : ∀ (mm227 : Nat) (wL227 : zM) (y11_227 : Int32) (W : Nat → zA1), (zSI w171 wL227) → (∀ x, ((x < to + 2 ∨ to + 2 + 128 ≤ x)) ∧ x ≠ m → wL227 x = w171 x) → (0 ≤ y11_227.toInt) → (y11_227.toInt ≤ (zln T_171 : Int)) → (wL227 m = some (.inl (15, zMo m (zs (zs g 1 (g 1 + 1)) 3 (g 3 + 1 + 1)) r))) → (∀ t, t < y11_227.toNatClampNeg → zU wL227 (to + 2 + 2 * t) 200 (W t) ∧ W t = zaC (T_171.1 t)) → (700 - y11_227.toInt).toNat < mm227 → zP (d + 1) zq_X16_resultant 227 [(1, .ref to), (10, .ref (m + 276 + 2 * (g 1).toNatClampNeg)), (11, .int y11_227)] [] wL227 sz 0 0 Post := by
                    intro mm227
                    induction mm227 with
                    | zero => intros; omega
                    | succ mm227 ih227 =>
                    intro wL227 y11_227 W hsiL227 heqL227 hi227_0 hi227_1 hmL227 hW hmu227
                    have ky11_227 := zrng y11_227
                    have hz87 : (y11_227.toNatClampNeg : Int) = y11_227.toInt := znat (by first | omega | decide)
                    refine zp_seg (pc' := 231) (lv' := [(1, .ref to), (10, .ref (m + 276 + 2 * (g 1).toNatClampNeg)), (11, .int y11_227)]) (st' := [.ref (m + 276 + 2 * (g 1).toNatClampNeg), .int y11_227]) [(227, .iload 11), (229, .aload 10)] (by decide +kernel) rfl ?_
                    have hb88 : wL227 (m + 276 + 2 * (g 1).toNatClampNeg) = some (.inl (14, [.ref (m + 276 + 2 * (g 1).toNatClampNeg + 1), .int n53])) := (heqL227 (m + 276 + 2 * (g 1).toNatClampNeg) ⟨(zx_X16_resultant_33 hmto hgb1 hgb3), (zx_X16_resultant_34 hgb1)⟩).trans hu55
                    refine zr_get (idx := 25) (k := 1) (v := .int n53) (by decide +kernel) (by decide +kernel) hb88 rfl ?_
                    refine zp_if (i := .if_icmp .ge 27) (c := n53 ≤ y11_227) (t := 261) (e := 237) (lv' := [(1, .ref to), (10, .ref (m + 276 + 2 * (g 1).toNatClampNeg)), (11, .int y11_227)]) (st' := []) (by decide +kernel) rfl (fun cc234 => ?_) (fun cc234 => ?_)
                    ·
                      have f89 := zleI cc234
                      have hln9 := hu57
                      refine zp_seg (pc' := 264) (lv' := [(1, .ref to), (10, .ref (m + 276 + 2 * (g 1).toNatClampNeg)), (11, .int y11_227)]) (st' := [.ref (m + 276 + 2 * (g 1).toNatClampNeg), .ref to]) [(261, .aload_n 1), (262, .aload 10)] (by decide +kernel) rfl ?_
                      refine zr_get (idx := 25) (k := 1) (v := .int n53) (by decide +kernel) (by decide +kernel) hb88 rfl ?_
                      have hb95 := hBo_to.si ((((((hsi1.tr hsi7).tr hsiL44).tr hsiL109).tr hsi155).tr hsi171).tr hsiL227)
                      obtain ⟨n90, hb91, hb92, -⟩ := id hb95
                      have kn90 := zrng n90
                      refine zr_put2 (idx := 93) (k := 1) (fs2 := [.ref (to + 1), .int n53]) (by decide +kernel) (by decide +kernel) hb91 (Nat.le_of_ble_eq_true rfl) rfl rfl rfl ?_
                      show zP (d + 1) zq_X16_resultant 270 [(1, .ref to), (10, .ref (m + 276 + 2 * (g 1).toNatClampNeg)), (11, .int y11_227)] [] (zup wL227 to (.inl (11, [.ref (to + 1), .int n53]))) sz 0 0 Post
                      obtain ⟨w267, ew267⟩ : ∃ wz9, wz9 = zup wL227 to (.inl (11, [.ref (to + 1), .int n53])) := ⟨_, rfl⟩
                      have hsi267 : zSI wL227 w267 := by rw [ew267]; exact zSI.setB hb91
                      have heq267 : ∀ x, x ≠ to → w267 x = wL227 x := fun x hx => by rw [ew267]; exact zup_n hx
                      have hc267 : w267 to = some (.inl (11, [.ref (to + 1), .int n53])) := by rw [ew267]; exact zup_s
                      rw [← ew267]
                      clear ew267
                      have hb96 := hb95.si hsi267
                      have htop9 : zln T_171 = 0 ∨ T_171.1 (zln T_171 - 1) ≠ 0 := zln_top T_171
                      have hrw9 := zbOf_Crw (c := T_171.1) htop9
                      have hB9 : zB w267 to (zbOf (fun j => zaC (T_171.1 j)) (zln T_171)) := zB.mk hb96 hc267 (by omega) (by omega) (fun j hj => by
                        rw [zbOf_y (by omega), ← (hW j (by omega)).2]
                        exact (hW j (by omega)).1.ag (fun x g1 g2 => (heq267 x (by omega))))
                      refine zp_seg (pc' := 271) (lv' := [(1, .ref to), (10, .ref (m + 276 + 2 * (g 1).toNatClampNeg)), (11, .int y11_227)]) (st' := [.int 1]) [(270, .iconst 1)] (by decide +kernel) rfl ?_
                      have hb97 : w267 m = some (.inl (15, zMo m (zs (zs g 1 (g 1 + 1)) 3 (g 3 + 1 + 1)) r)) := (heq267 m (zx_X16_resultant_20 hmto hgb3)).trans hmL227
                      have hoffend : ∀ x, (x < m ∨ m + 1 ≤ x) ∧ (x < m + 100 ∨ m + 100 + 49 ≤ x) ∧ (x < to ∨ to + 130 ≤ x) ∧ (x < m + 276 + 2 * (g 1).toNatClampNeg ∨ m + 276 + 2 * (g 1).toNatClampNeg + (320 - 2 * (g 1).toNatClampNeg) ≤ x) ∧ (x < m + 596 + 130 * (g 3).toNatClampNeg ∨ m + 596 + 130 * (g 3).toNatClampNeg + (5720 - 130 * (g 3).toNatClampNeg) ≤ x) ∧ (x < m + 3 ∨ m + 3 + 1 ≤ x) ∧ (x < m + 5 ∨ m + 5 + 64 ≤ x) → w267 x = w x := fun x hx => ((heq267 x (zx_X16_resultant_26 hx.2.2.1 hmto hgb3)).trans ((heqL227 x ⟨(zx_X16_resultant_35 hx.2.2.1 hmto hgb3), (zx_X16_resultant_4 hx.1)⟩).trans ((heq171 x ⟨(zx_X16_resultant_23 hx.2.2.2.1 hgb1), (zx_X16_resultant_24 hx.2.2.2.1 hgn1_1 hgb1)⟩).trans ((heq155 x ⟨hx.1, (zx_X16_resultant_23 hx.2.2.2.1 hgb1)⟩).trans ((heqL109 x ⟨⟨hx.2.2.2.2.2.1, (zx_X16_resultant_22 hx.2.2.2.2.2.2), hx.2.1⟩, (zx_X16_resultant_4 hx.1)⟩).trans ((heqL44 x ⟨(zx_X16_resultant_3 hx.2.2.2.2.1 hgb3), (zx_X16_resultant_4 hx.1)⟩).trans ((heq7 x ⟨hx.1, (zx_X16_resultant_2 hx.2.2.2.2.1 hgn3_1 hgb3)⟩).trans (heq1 x ⟨hx.1, (zx_X16_resultant_1 hx.2.2.2.2.1 hgb3)⟩))))))))
                      have hb98 : zGr w267 (m + 100) 48 48 := hGl.ag (fun x hx1 hx2 => ((heq267 x (zx_X16_resultant_31 hx1 hx2 hmto hgb3)).trans ((heqL227 x ⟨(zx_X16_resultant_36 hx1 hx2 hmto hgb3), (zx_X16_resultant_9 hx1 hx2)⟩).trans ((heq171 x ⟨(zx_X16_resultant_28 hx1 hx2 hgb1), (zx_X16_resultant_29 hx1 hx2 hgn1_1 hgb1)⟩).trans (heq155 x ⟨(zx_X16_resultant_5 hx1 hx2), (zx_X16_resultant_28 hx1 hx2 hgb1)⟩)))))
                      refine zr_retB (by decide +kernel) rfl (by decide) ?_
                      rw [← hPost]; exact ⟨rfl, _, rfl, ((g 1 + 1)), ((g 3 + 1 + 1)), (((((((hsi1.tr hsi7).tr hsiL44).tr hsiL109).tr hsi155).tr hsi171).tr hsiL227).tr hsi267), hoffend, hb97, hb98, (by
                            exact hb96), _, rfl, (by decide), (by
                            first | exact fun e => absurd e (by decide) | exact fun _ => ⟨_, hB9⟩)⟩
                    ·
                      have f99 := znleI cc234
                      refine zp_seg (pc' := 238) (lv' := [(1, .ref to), (10, .ref (m + 276 + 2 * (g 1).toNatClampNeg)), (11, .int y11_227)]) (st' := [.ref to]) [(237, .aload_n 1)] (by decide +kernel) rfl ?_
                      have hb105 := hBo_to.si ((((((hsi1.tr hsi7).tr hsiL44).tr hsiL109).tr hsi155).tr hsi171).tr hsiL227)
                      obtain ⟨n100, hb101, hb102, -⟩ := id hb105
                      have kn100 := zrng n100
                      refine zr_get (idx := 98) (k := 0) (v := .ref (to + 1)) (by decide +kernel) (by decide +kernel) hb101 rfl ?_
                      refine zp_seg (pc' := 243) (lv' := [(1, .ref to), (10, .ref (m + 276 + 2 * (g 1).toNatClampNeg)), (11, .int y11_227)]) (st' := [.int y11_227, .ref (to + 1)]) [(241, .iload 11)] (by decide +kernel) rfl ?_
                      refine zr_aald (v := .ref (to + 2 + 2 * y11_227.toNatClampNeg)) (by decide +kernel) hb102 (by decide) (zin (by first | omega | decide) (by first | omega | decide)) (zbr_at (by omega)) ?_
                      have hrow106 := hb105.rowo (y11_227.toNatClampNeg) (by omega)
                      refine zp_seg (pc' := 246) (lv' := [(1, .ref to), (10, .ref (m + 276 + 2 * (g 1).toNatClampNeg)), (11, .int y11_227)]) (st' := [.ref (m + 276 + 2 * (g 1).toNatClampNeg), .ref (to + 2 + 2 * y11_227.toNatClampNeg)]) [(244, .aload 10)] (by decide +kernel) rfl ?_
                      refine zr_get (idx := 30) (k := 0) (v := .ref (m + 276 + 2 * (g 1).toNatClampNeg + 1)) (by decide +kernel) (by decide +kernel) hb88 rfl ?_
                      refine zp_seg (pc' := 251) (lv' := [(1, .ref to), (10, .ref (m + 276 + 2 * (g 1).toNatClampNeg)), (11, .int y11_227)]) (st' := [.int y11_227, .ref (m + 276 + 2 * (g 1).toNatClampNeg + 1), .ref (to + 2 + 2 * y11_227.toNatClampNeg)]) [(249, .iload 11)] (by decide +kernel) rfl ?_
                      have hb107 : wL227 (m + 276 + 2 * (g 1).toNatClampNeg + 1) = some (.inr (0, 1000, .inl f54)) := (heqL227 (m + 276 + 2 * (g 1).toNatClampNeg + 1) ⟨(zx_X16_resultant_37 hmto hgb1 hgb3), (zx_X16_resultant_38 hgb1)⟩).trans hu56
                      refine zr_iald (by decide +kernel) hb107 (zin (by first | omega | decide) (by first | omega | decide)) ?_
                      obtain ⟨x251, ex251⟩ : ∃ x9, x9 = f54 (y11_227.toNatClampNeg) := ⟨_, rfl⟩
                      rw [← ex251]
                      have kx251 := zrng x251
                      have hvx251 := hu59 (y11_227.toNatClampNeg) (by omega)
                      rw [← ex251] at hvx251
                      have hwx251 : 0 ≤ x251.toInt ∧ x251.toInt < 2147483647 := hvx251.1
                      obtain ⟨n108, f109, hu110, hu111⟩ := id hrow106
                      have kn108 := zrng n108
                      refine zr_callV (idx := 147) (j := 252) (by decide +kernel) (by decide +kernel) (show zMe 252 = some zq_X15_number from rfl) rfl rfl (Nat.le_of_ble_eq_true rfl) rfl rfl hu110 (Nat.le_of_ble_eq_true rfl) (Nat.le_of_ble_eq_true rfl) (c_X15_number (w := wL227) (to + 2 + 2 * y11_227.toNatClampNeg) x251 hrow106 (by exact hvx251.1) (by first | omega | decide | assumption | exact zr1_1 | exact zr1_0 | fail "num")) (by omega) (fun v252 w252 hp252 => ?_)
                      obtain ⟨hsi252, heq252, hp252_0, rfl⟩ := hp252
                      show zP _ _ _ _ [] _ _ _ _ _
                      refine zp_seg (pc' := 258) (lv' := [(11, .int (y11_227 + 1)), (1, .ref to), (10, .ref (m + 276 + 2 * (g 1).toNatClampNeg))]) (st' := []) [(255, .iinc 11 1)] (by decide +kernel) rfl ?_
                      have k112 := zaddC y11_227 1 (n := 1) (by decide) (by omega) (by omega)
                      generalize ev258 : (y11_227 + 1 : Int32) = v258 at k112 ⊢
                      have kv258 := zrng v258
                      refine zp_seg (pc' := 227) (lv' := [(11, .int v258), (1, .ref to), (10, .ref (m + 276 + 2 * (g 1).toNatClampNeg))]) (st' := []) [(258, .goto (-31))] (by decide +kernel) rfl ?_
                      have hz113 : (v258.toNatClampNeg : Int) = v258.toInt := znat (by first | omega | decide)
                      have hb114 : w252 m = some (.inl (15, zMo m (zs (zs g 1 (g 1 + 1)) 3 (g 3 + 1 + 1)) r)) := (heq252 m (by omega)).trans hmL227
                      exact (ih227 w252 v258 (fun j => if j = y11_227.toNatClampNeg then zaC (zf x251) else W j) (hsiL227.tr hsi252) (fun x hx => ((heq252 x (by omega)).trans (heqL227 x ⟨hx.1, hx.2⟩))) (by first | assumption | omega | decide) (by first | assumption | omega | decide) hb114 (by
                            intro t ht
                            show zU w252 (to + 2 + 2 * t) 200 (if t = y11_227.toNatClampNeg then zaC (zf x251) else W t) ∧ (if t = y11_227.toNatClampNeg then zaC (zf x251) else W t) = _
                            by_cases e : t = y11_227.toNatClampNeg
                            · rw [if_pos e, e]; exact ⟨hp252_0, by rw [hvx251.2]⟩
                            · rw [if_neg e]; exact ⟨(hW t (by omega)).1.ag (fun x g1 g2 => (heq252 x (by omega))), (hW t (by omega)).2⟩) (by omega)).more (zfa1 rfl (zfa1 rfl (zfa1 rfl (zfa0))))
                  exact (hL227 _ w171 0 (fun _ => zaZ) zSI.rf (fun _ _ => rfl) (by first | assumption | omega | decide) (by first | assumption | omega | decide) hb86 (by
                        exact fun t ht => absurd ht (by omega)) (Nat.lt_succ_self _)).more (zfa1 rfl (zfa1 rfl (zfa1 rfl (zfa0))))
                ·
                  replace cc198 := Classical.not_not.mp cc198
                  exact absurd cc198 cc181
              ·
                have f116 := znleI cc191
                rw [show (13 : Int32).toInt = 13 from by decide] at f116
                refine zp_seg (pc' := 195) (lv' := [(10, .ref (m + 276 + 2 * (g 1).toNatClampNeg)), (0, .ref m), (1, .ref to), (4, .int way), (5, .ref (m + 596 + 130 * (g 3).toNatClampNeg)), (6, .ref (m + 596 + 130 * (g 3 + 1).toNatClampNeg)), (7, .int v74), (8, .int v83), (9, .int v104)]) (st' := [.int 0]) [(194, .iconst 0)] (by decide +kernel) rfl ?_
                have hb117 : w171 m = some (.inl (15, zMo m (zs (zs g 1 (g 1 + 1)) 3 (g 3 + 1 + 1)) r)) := (heq171 m ⟨(zx_X16_resultant_17 hgb1), (zx_X16_resultant_18 hgn1_1 hgb1)⟩).trans hM155
                have hoffend : ∀ x, (x < m ∨ m + 1 ≤ x) ∧ (x < m + 100 ∨ m + 100 + 49 ≤ x) ∧ (x < to ∨ to + 130 ≤ x) ∧ (x < m + 276 + 2 * (g 1).toNatClampNeg ∨ m + 276 + 2 * (g 1).toNatClampNeg + (320 - 2 * (g 1).toNatClampNeg) ≤ x) ∧ (x < m + 596 + 130 * (g 3).toNatClampNeg ∨ m + 596 + 130 * (g 3).toNatClampNeg + (5720 - 130 * (g 3).toNatClampNeg) ≤ x) ∧ (x < m + 3 ∨ m + 3 + 1 ≤ x) ∧ (x < m + 5 ∨ m + 5 + 64 ≤ x) → w171 x = w x := fun x hx => ((heq171 x ⟨(zx_X16_resultant_23 hx.2.2.2.1 hgb1), (zx_X16_resultant_24 hx.2.2.2.1 hgn1_1 hgb1)⟩).trans ((heq155 x ⟨hx.1, (zx_X16_resultant_23 hx.2.2.2.1 hgb1)⟩).trans ((heqL109 x ⟨⟨hx.2.2.2.2.2.1, (zx_X16_resultant_22 hx.2.2.2.2.2.2), hx.2.1⟩, (zx_X16_resultant_4 hx.1)⟩).trans ((heqL44 x ⟨(zx_X16_resultant_3 hx.2.2.2.2.1 hgb3), (zx_X16_resultant_4 hx.1)⟩).trans ((heq7 x ⟨hx.1, (zx_X16_resultant_2 hx.2.2.2.2.1 hgn3_1 hgb3)⟩).trans (heq1 x ⟨hx.1, (zx_X16_resultant_1 hx.2.2.2.2.1 hgb3)⟩))))))
                have hb118 : zGr w171 (m + 100) 48 48 := hGl.ag (fun x hx1 hx2 => ((heq171 x ⟨(zx_X16_resultant_28 hx1 hx2 hgb1), (zx_X16_resultant_29 hx1 hx2 hgn1_1 hgb1)⟩).trans (heq155 x ⟨(zx_X16_resultant_5 hx1 hx2), (zx_X16_resultant_28 hx1 hx2 hgb1)⟩)))
                have hb119 := hBo_to.si (((((hsi1.tr hsi7).tr hsiL44).tr hsiL109).tr hsi155).tr hsi171)
                refine zr_retB (by decide +kernel) rfl (by decide) ?_
                rw [← hPost]; exact ⟨rfl, _, rfl, ((g 1 + 1)), ((g 3 + 1 + 1)), (((((hsi1.tr hsi7).tr hsiL44).tr hsiL109).tr hsi155).tr hsi171), hoffend, hb117, hb118, (by
                      exact hb119), _, rfl, (by decide), (by
                      first | exact fun e => absurd e (by decide) | exact fun _ => ⟨_, none9⟩)⟩
          ·
            have f120 := znleI cc113
            refine zp_seg (pc' := 117) (lv' := [(0, .ref m), (1, .ref to), (4, .int way), (5, .ref (m + 596 + 130 * (g 3).toNatClampNeg)), (6, .ref (m + 596 + 130 * (g 3 + 1).toNatClampNeg)), (7, .int v74), (8, .int v83), (9, .int v104), (10, .int y10_109)]) (st' := [.ref m]) [(116, .aload_n 0)] (by decide +kernel) rfl ?_
            refine zr_get (idx := 151) (k := 4) (v := .ref (m + 3)) (by decide +kernel) (by decide +kernel) hmL109 rfl ?_
            refine zp_seg (pc' := 124) (lv' := [(0, .ref m), (1, .ref to), (4, .int way), (5, .ref (m + 596 + 130 * (g 3).toNatClampNeg)), (6, .ref (m + 596 + 130 * (g 3 + 1).toNatClampNeg)), (7, .int v74), (8, .int v83), (9, .int v104), (10, .int y10_109)]) (st' := [.int y10_109, .int y10_109, .ref (m + 3)]) [(120, .iload 10), (122, .iload 10)] (by decide +kernel) rfl ?_
            refine zr_iast (by decide +kernel) hAx (zin (by first | omega | decide) (by first | omega | decide)) ?_
            show zP (d + 1) zq_X16_resultant 125 [(0, .ref m), (1, .ref to), (4, .int way), (5, .ref (m + 596 + 130 * (g 3).toNatClampNeg)), (6, .ref (m + 596 + 130 * (g 3 + 1).toNatClampNeg)), (7, .int v74), (8, .int v83), (9, .int v104), (10, .int y10_109)] [] (zup wL109 (m + 3) (.inr (0, 700, .inl (upd xf (y10_109.toNatClampNeg) y10_109)))) sz 0 0 Post
            obtain ⟨w124, ew124⟩ : ∃ wz9, wz9 = zup wL109 (m + 3) (.inr (0, 700, .inl (upd xf (y10_109.toNatClampNeg) y10_109))) := ⟨_, rfl⟩
            have hsi124 : zSI wL109 w124 := by rw [ew124]; exact zSI.arr _ hAx
            have heq124 : ∀ x, x ≠ m + 3 → w124 x = wL109 x := fun x hx => by rw [ew124]; exact zup_n hx
            have hc124 : w124 (m + 3) = some (.inr (0, 700, .inl (upd xf (y10_109.toNatClampNeg) y10_109))) := by rw [ew124]; exact zup_s
            rw [← ew124]
            clear ew124
            refine zp_seg (pc' := 126) (lv' := [(0, .ref m), (1, .ref to), (4, .int way), (5, .ref (m + 596 + 130 * (g 3).toNatClampNeg)), (6, .ref (m + 596 + 130 * (g 3 + 1).toNatClampNeg)), (7, .int v74), (8, .int v83), (9, .int v104), (10, .int y10_109)]) (st' := [.ref m]) [(125, .aload_n 0)] (by decide +kernel) rfl ?_
            have hb121 : w124 m = some (.inl (15, zMo m (zs g 3 (g 3 + 1 + 1)) r)) := (heq124 m (zx_X16_resultant_39)).trans hmL109
            refine zr_get (idx := 159) (k := 5) (v := .ref (m + 4)) (by decide +kernel) (by decide +kernel) hb121 rfl ?_
            refine zp_seg (pc' := 130) (lv' := [(0, .ref m), (1, .ref to), (4, .int way), (5, .ref (m + 596 + 130 * (g 3).toNatClampNeg)), (6, .ref (m + 596 + 130 * (g 3 + 1).toNatClampNeg)), (7, .int v74), (8, .int v83), (9, .int v104), (10, .int y10_109)]) (st' := [.int 0, .ref (m + 4)]) [(129, .iconst 0)] (by decide +kernel) rfl ?_
            have hb122 := hb9.si (((hsi7.tr hsiL44).tr hsiL109).tr hsi124)
            have hb124 := hb122.ys
            have hl125 : (0 : Int32).toInt = 0 := by decide
            have hz126 : ((0 : Int32).toNatClampNeg : Int) = 0 := by decide
            refine zr_aald (v := .ref (m + 5 + 0)) (by decide +kernel) hb124 (by decide) (zin (by decide) (by decide)) rfl ?_
            refine zp_seg (pc' := 144) (lv' := [(0, .ref m), (1, .ref to), (4, .int way), (5, .ref (m + 596 + 130 * (g 3).toNatClampNeg)), (6, .ref (m + 596 + 130 * (g 3 + 1).toNatClampNeg)), (7, .int v74), (8, .int v83), (9, .int v104), (10, .int y10_109)]) (st' := [.int y10_109, .int v83, .int v74, .ref (m + 596 + 130 * (g 3 + 1).toNatClampNeg), .ref (m + 596 + 130 * (g 3).toNatClampNeg), .ref m, .int y10_109, .ref (m + 5 + 0)]) [(131, .iload 10), (133, .aload_n 0), (134, .aload 5), (136, .aload 6), (138, .iload 7), (140, .iload 8), (142, .iload 10)] (by decide +kernel) rfl ?_
            have hb127 : zGr w124 (m + 100) 48 48 := hGl.ag (fun x hx1 hx2 => (heq124 x (zx_X16_resultant_40 hx1 hx2)))
            have hb128 : zB w124 (m + 596 + 130 * (g 3).toNatClampNeg) U := hBU.ag (fun x hx1 hx2 => ((heq124 x (zx_X16_resultant_45 hx1 hx2 hgb3)).trans (heqL109 x ⟨⟨(zx_X16_resultant_41 hx1 hx2 hgb3), (zx_X16_resultant_42 hx1 hx2 hgb3), (zx_X16_resultant_43 hx1 hx2 hgb3)⟩, (zx_X16_resultant_44 hx1 hx2 hgb3)⟩)))
            have hb129 : zB w124 (m + 596 + 130 * (g 3 + 1).toNatClampNeg) V := hBV.ag (fun x hx1 hx2 => ((heq124 x (zx_X16_resultant_50 hx1 hx2 hgn3_1 hgb3)).trans (heqL109 x ⟨⟨(zx_X16_resultant_46 hx1 hx2 hgn3_1 hgb3), (zx_X16_resultant_47 hx1 hx2 hgn3_1 hgb3), (zx_X16_resultant_48 hx1 hx2 hgn3_1 hgb3)⟩, (zx_X16_resultant_49 hx1 hx2 hgn3_1 hgb3)⟩)))
            refine zr_callV (idx := 647) (j := 367) (by decide +kernel) (by decide +kernel) (show zMe 367 = some zq_X16_sylvester from rfl) rfl rfl (Nat.le_of_ble_eq_true rfl) rfl rfl hb121 (Nat.le_of_ble_eq_true rfl) (Nat.le_of_ble_eq_true rfl) (c_X16_sylvester (w := w124) m (m + 596 + 130 * (g 3).toNatClampNeg) (m + 596 + 130 * (g 3 + 1).toNatClampNeg) v74 v83 y10_109 hb121 hb122 hb127 hb128 hb129 (by exact ⟨by omega, by omega⟩) (by first | omega | decide | assumption | exact zr1_1 | exact zr1_0 | fail "num") (by first | omega | decide | assumption | exact zr1_1 | exact zr1_0 | fail "num") (by first | omega | decide | assumption | exact zr1_1 | exact zr1_0 | fail "num")) (by omega) (fun v144 w144 hp144 => ?_)
            obtain ⟨hsi144, heq144, hp144_0, r144, rfl, hr144⟩ := hp144
            have kr144 := zrng r144
            show zP _ _ _ _ [.int r144, .int y10_109, .ref (m + 5 + 0)] _ _ _ _ _
            have hb130 : w144 (m + 5 + 0) = some (.inr (0, 700, .inl yf)) := ((heq144 (m + 5 + 0) (zx_X16_resultant_52)).trans (heq124 (m + 5 + 0) (zx_X16_resultant_51))).trans hAy
            refine zr_iast (by decide +kernel) hb130 (zin (by first | omega | decide) (by first | omega | decide)) ?_
            show zP (d + 1) zq_X16_resultant 148 [(0, .ref m), (1, .ref to), (4, .int way), (5, .ref (m + 596 + 130 * (g 3).toNatClampNeg)), (6, .ref (m + 596 + 130 * (g 3 + 1).toNatClampNeg)), (7, .int v74), (8, .int v83), (9, .int v104), (10, .int y10_109)] [] (zup w144 (m + 5 + 0) (.inr (0, 700, .inl (upd yf (y10_109.toNatClampNeg) r144)))) sz 0 0 Post
            obtain ⟨w147, ew147⟩ : ∃ wz9, wz9 = zup w144 (m + 5 + 0) (.inr (0, 700, .inl (upd yf (y10_109.toNatClampNeg) r144))) := ⟨_, rfl⟩
            have hsi147 : zSI w144 w147 := by rw [ew147]; exact zSI.arr _ hb130
            have heq147 : ∀ x, x ≠ m + 5 + 0 → w147 x = w144 x := fun x hx => by rw [ew147]; exact zup_n hx
            have hc147 : w147 (m + 5 + 0) = some (.inr (0, 700, .inl (upd yf (y10_109.toNatClampNeg) r144))) := by rw [ew147]; exact zup_s
            rw [← ew147]
            clear ew147
            refine zp_seg (pc' := 151) (lv' := [(10, .int (y10_109 + 1)), (0, .ref m), (1, .ref to), (4, .int way), (5, .ref (m + 596 + 130 * (g 3).toNatClampNeg)), (6, .ref (m + 596 + 130 * (g 3 + 1).toNatClampNeg)), (7, .int v74), (8, .int v83), (9, .int v104)]) (st' := []) [(148, .iinc 10 1)] (by decide +kernel) rfl ?_
            have k131 := zaddC y10_109 1 (n := 1) (by decide) (by omega) (by omega)
            generalize ev151 : (y10_109 + 1 : Int32) = v151 at k131 ⊢
            have kv151 := zrng v151
            refine zp_seg (pc' := 109) (lv' := [(10, .int v151), (0, .ref m), (1, .ref to), (4, .int way), (5, .ref (m + 596 + 130 * (g 3).toNatClampNeg)), (6, .ref (m + 596 + 130 * (g 3 + 1).toNatClampNeg)), (7, .int v74), (8, .int v83), (9, .int v104)]) (st' := []) [(151, .goto (-42))] (by decide +kernel) rfl ?_
            have hz132 : (v151.toNatClampNeg : Int) = v151.toInt := znat (by first | omega | decide)
            have hb133 : w147 (m + 3) = some (.inr (0, 700, .inl (upd xf (y10_109.toNatClampNeg) y10_109))) := ((heq147 (m + 3) (zx_X16_resultant_56)).trans (heq144 (m + 3) (zx_X16_resultant_55))).trans hc124
            have hb134 : zGr w147 (m + 100) 48 48 := hp144_0.ag (fun x hx1 hx2 => (heq147 x (zx_X16_resultant_57 hx1 hx2)))
            have hb135 : w147 m = some (.inl (15, zMo m (zs g 3 (g 3 + 1 + 1)) r)) := ((heq147 m (zx_X16_resultant_59)).trans (heq144 m (zx_X16_resultant_58))).trans hb121
            exact (ih109 w147 v151 ((upd xf (y10_109.toNatClampNeg) y10_109)) ((upd yf (y10_109.toNatClampNeg) r144)) (((hsiL109.tr hsi124).tr hsi144).tr hsi147) (fun x hx => ((heq147 x (zx_X16_resultant_54 hx.1.2.1)).trans ((heq144 x hx.1.2.2).trans ((heq124 x (zx_X16_resultant_53 hx.1.1)).trans (heqL109 x ⟨⟨hx.1.1, hx.1.2.1, hx.1.2.2⟩, hx.2⟩))))) (by first | assumption | omega | decide) (by first | assumption | omega | decide) hb133 hc147 hb134 hb135 (by
                  intro i hi
                  by_cases e : i = y10_109.toNatClampNeg
                  · rw [e, zupd_s]; omega
                  · rw [zupd_n _ _ e]; exact hxi i (by omega)) (by
                  intro i hi
                  by_cases e : i = y10_109.toNatClampNeg
                  · rw [e, zupd_s]; exact hr144
                  · rw [zupd_n _ _ e]; exact hyi i (by omega)) (by omega)).more (zfa1 rfl (zfa1 rfl (zfa1 rfl (zfa1 rfl (zfa1 rfl (zfa1 rfl (zfa1 rfl (zfa1 rfl (zfa1 rfl (zfa0))))))))))
        have hl136 : (0 : Int32).toInt = 0 := by decide
        have hz137 : ((0 : Int32).toNatClampNeg : Int) = 0 := by decide
        have hb138 : wL44 (m + 3) = some (.inr (0, 700, .inl fx)) := ((heqL44 (m + 3) ⟨(zx_X16_resultant_62 hgb3), (zx_X16_resultant_63)⟩).trans ((heq7 (m + 3) ⟨(zx_X16_resultant_11), (zx_X16_resultant_61 hgn3_1 hgb3)⟩).trans (heq1 (m + 3) ⟨(zx_X16_resultant_11), (zx_X16_resultant_60 hgb3)⟩))).trans hA_m_3
        have hb139 : wL44 (m + 5 + 0) = some (.inr (0, 700, .inl fy)) := ((heqL44 (m + 5 + 0) ⟨(zx_X16_resultant_66 hgb3), (zx_X16_resultant_67)⟩).trans ((heq7 (m + 5 + 0) ⟨(zx_X16_resultant_13), (zx_X16_resultant_65 hgn3_1 hgb3)⟩).trans (heq1 (m + 5 + 0) ⟨(zx_X16_resultant_13), (zx_X16_resultant_64 hgb3)⟩))).trans hA_m_5
        have hb140 : zGr wL44 (m + 100) 48 48 := hGr_m_100.ag (fun x hx1 hx2 => ((heqL44 x ⟨(zx_X16_resultant_8 hx1 hx2 hgb3), (zx_X16_resultant_9 hx1 hx2)⟩).trans ((heq7 x ⟨(zx_X16_resultant_5 hx1 hx2), (zx_X16_resultant_7 hx1 hx2 hgn3_1 hgb3)⟩).trans (heq1 x ⟨(zx_X16_resultant_5 hx1 hx2), (zx_X16_resultant_6 hx1 hx2 hgb3)⟩))))
        exact (hL109 _ wL44 0 (fx) (fy) zSI.rf (fun _ _ => rfl) (by first | assumption | omega | decide) (by first | assumption | omega | decide) hb138 hb139 hb140 hmL44 (by
              exact fun i hi => absurd hi (by omega)) (by
              exact fun i hi => absurd hi (by omega)) (Nat.lt_succ_self _)).more (zfa1 rfl (zfa1 rfl (zfa1 rfl (zfa1 rfl (zfa1 rfl (zfa1 rfl (zfa1 rfl (zfa1 rfl (zfa1 rfl (zfa0))))))))))
      ·
        replace cc57 := Classical.not_not.mp cc57
        have f141 := zeqI cc57
        rw [show (0 : Int32).toInt = 0 from by decide] at f141
        refine zp_seg (pc' := 62) (lv' := [(0, .ref m), (1, .ref to), (4, .int way), (5, .ref (m + 596 + 130 * (g 3).toNatClampNeg)), (6, .ref (m + 596 + 130 * (g 3 + 1).toNatClampNeg))]) (st' := [.int 0, .ref to]) [(60, .aload_n 1), (61, .iconst 0)] (by decide +kernel) rfl ?_
        have hb142 := hBo_to.si ((hsi1.tr hsi7).tr hsiL44)
        obtain ⟨n143, hb144, hb145, -⟩ := id hb142
        have kn143 := zrng n143
        refine zr_callV (idx := 158) (j := 245) (by decide +kernel) (by decide +kernel) (show zMe 245 = some zq_X12_number from rfl) rfl rfl (Nat.le_of_ble_eq_true rfl) rfl rfl hb144 (Nat.le_of_ble_eq_true rfl) (Nat.le_of_ble_eq_true rfl) (c_X12_number (w := wL44) to 0 hb142 (by first | omega | decide | assumption | exact zr1_1 | exact zr1_0 | fail "num")) (by omega) (fun v62 w62 hp62 => ?_)
        obtain ⟨hsi62, heq62, hp62_0, rfl⟩ := hp62
        show zP _ _ _ _ [] _ _ _ _ _
        refine zp_seg (pc' := 66) (lv' := [(0, .ref m), (1, .ref to), (4, .int way), (5, .ref (m + 596 + 130 * (g 3).toNatClampNeg)), (6, .ref (m + 596 + 130 * (g 3 + 1).toNatClampNeg))]) (st' := [.int 1]) [(65, .iconst 1)] (by decide +kernel) rfl ?_
        have hb148 : w62 m = some (.inl (15, zMo m (zs g 3 (g 3 + 1 + 1)) r)) := (heq62 m (zx_X16_resultant_0 hmto hgb3)).trans hmL44
        have hoffend : ∀ x, (x < m ∨ m + 1 ≤ x) ∧ (x < m + 100 ∨ m + 100 + 49 ≤ x) ∧ (x < to ∨ to + 130 ≤ x) ∧ (x < m + 276 + 2 * (g 1).toNatClampNeg ∨ m + 276 + 2 * (g 1).toNatClampNeg + (320 - 2 * (g 1).toNatClampNeg) ≤ x) ∧ (x < m + 596 + 130 * (g 3).toNatClampNeg ∨ m + 596 + 130 * (g 3).toNatClampNeg + (5720 - 130 * (g 3).toNatClampNeg) ≤ x) ∧ (x < m + 3 ∨ m + 3 + 1 ≤ x) ∧ (x < m + 5 ∨ m + 5 + 64 ≤ x) → w62 x = w x := fun x hx => ((heq62 x hx.2.2.1).trans ((heqL44 x ⟨(zx_X16_resultant_3 hx.2.2.2.2.1 hgb3), (zx_X16_resultant_4 hx.1)⟩).trans ((heq7 x ⟨hx.1, (zx_X16_resultant_2 hx.2.2.2.2.1 hgn3_1 hgb3)⟩).trans (heq1 x ⟨hx.1, (zx_X16_resultant_1 hx.2.2.2.2.1 hgb3)⟩))))
        have hb149 : zGr w62 (m + 100) 48 48 := hGr_m_100.ag (fun x hx1 hx2 => ((heq62 x (zx_X16_resultant_10 hx1 hx2 hmto hgb3)).trans ((heqL44 x ⟨(zx_X16_resultant_8 hx1 hx2 hgb3), (zx_X16_resultant_9 hx1 hx2)⟩).trans ((heq7 x ⟨(zx_X16_resultant_5 hx1 hx2), (zx_X16_resultant_7 hx1 hx2 hgn3_1 hgb3)⟩).trans (heq1 x ⟨(zx_X16_resultant_5 hx1 hx2), (zx_X16_resultant_6 hx1 hx2 hgb3)⟩)))))
        have hb150 := hb142.si hsi62
        refine zr_retB (by decide +kernel) rfl (by decide) ?_
        rw [← hPost]; exact ⟨rfl, _, rfl, (g 1), ((g 3 + 1 + 1)), (((hsi1.tr hsi7).tr hsiL44).tr hsi62), hoffend, hb148, hb149, (by
              exact hb150), _, rfl, (by decide), (by
              first | exact fun e => absurd e (by decide) | exact fun _ => ⟨_, hp62_0⟩)⟩
  refine zp_if (i := .ifCond .eq 18) (c := way = 0) (t := 32) (e := 17) (lv' := [(6, .ref (m + 596 + 130 * (g 3 + 1).toNatClampNeg)), (5, .ref (m + 596 + 130 * (g 3).toNatClampNeg)), (0, .ref m), (1, .ref to), (2, .ref a), (3, .ref b), (4, .int way)]) (st' := []) (by decide +kernel) rfl (fun cc14 => ?_) (fun cc14 => ?_)
  ·
    have f152 := zeqI cc14
    rw [show (0 : Int32).toInt = 0 from by decide] at f152
    refine zp_seg (pc' := 35) (lv' := [(6, .ref (m + 596 + 130 * (g 3 + 1).toNatClampNeg)), (5, .ref (m + 596 + 130 * (g 3).toNatClampNeg)), (0, .ref m), (1, .ref to), (2, .ref a), (3, .ref b), (4, .int way)]) (st' := [.ref a, .ref (m + 596 + 130 * (g 3).toNatClampNeg)]) [(32, .aload 5), (34, .aload_n 2)] (by decide +kernel) rfl ?_
    have hb153 : zB w7 (m + 596 + 130 * (g 3).toNatClampNeg) zbZ := hp1_1.ag (fun x hx1 hx2 => (heq7 x ⟨(zx_X16_resultant_68 hx1 hx2 hgb3), (zx_X16_resultant_69 hx1 hx2 hgn3_1 hgb3)⟩))
    have ho35_to := zB.o hb153
    have hb154 : zB w7 a p := hB_a.ag (fun x hx1 hx2 => ((heq7 x ⟨(zx_X16_resultant_70 hx1 hx2 hma hgb3), (zx_X16_resultant_72 hx1 hx2 hma hgn3_1 hgb3)⟩).trans (heq1 x ⟨(zx_X16_resultant_70 hx1 hx2 hma hgb3), (zx_X16_resultant_71 hx1 hx2 hma hgb3)⟩)))
    refine zr_callS (idx := 113) (j := 275) (by decide +kernel) (by decide +kernel) (by decide) (show zMe 275 = some zq_X16_set_ from rfl) rfl rfl (Nat.le_of_ble_eq_true rfl) rfl rfl (Nat.le_of_ble_eq_true rfl) (Nat.le_of_ble_eq_true rfl) (c_X16_set_ (w := w7) (m + 596 + 130 * (g 3).toNatClampNeg) a ho35_to hb154 (by first | omega | decide | assumption | exact zr1_1 | exact zr1_0 | fail "num")) (by omega) (fun v35 w35 hp35 => ?_)
    obtain ⟨hsi35, heq35, hp35_0, rfl⟩ := hp35
    show zP _ _ _ _ [] _ _ _ _ _
    refine zp_seg (pc' := 41) (lv' := [(6, .ref (m + 596 + 130 * (g 3 + 1).toNatClampNeg)), (5, .ref (m + 596 + 130 * (g 3).toNatClampNeg)), (0, .ref m), (1, .ref to), (2, .ref a), (3, .ref b), (4, .int way)]) (st' := [.ref b, .ref (m + 596 + 130 * (g 3 + 1).toNatClampNeg)]) [(38, .aload 6), (40, .aload_n 3)] (by decide +kernel) rfl ?_
    have hb155 : zB w35 (m + 596 + 130 * (g 3 + 1).toNatClampNeg) zbZ := hp7_1.ag (fun x hx1 hx2 => (heq35 x (zx_X16_resultant_73 hx1 hx2 hgn3_1 hgb3)))
    have ho41_to := zB.o hb155
    have hb156 : zB w35 b q := hB_b.ag (fun x hx1 hx2 => ((heq35 x (zx_X16_resultant_75 hx1 hx2 hmb hgb3)).trans ((heq7 x ⟨(zx_X16_resultant_74 hx1 hx2 hmb hgb3), (zx_X16_resultant_76 hx1 hx2 hmb hgn3_1 hgb3)⟩).trans (heq1 x ⟨(zx_X16_resultant_74 hx1 hx2 hmb hgb3), (zx_X16_resultant_75 hx1 hx2 hmb hgb3)⟩))))
    refine zr_callS (idx := 113) (j := 275) (by decide +kernel) (by decide +kernel) (by decide) (show zMe 275 = some zq_X16_set_ from rfl) rfl rfl (Nat.le_of_ble_eq_true rfl) rfl rfl (Nat.le_of_ble_eq_true rfl) (Nat.le_of_ble_eq_true rfl) (c_X16_set_ (w := w35) (m + 596 + 130 * (g 3 + 1).toNatClampNeg) b ho41_to hb156 (by first | omega | decide | assumption | exact zr1_1 | exact zr1_0 | fail "num")) (by omega) (fun v41 w41 hp41 => ?_)
    obtain ⟨hsi41, heq41, hp41_0, rfl⟩ := hp41
    show zP _ _ _ _ [] _ _ _ _ _
    have hb157 : zB w41 (m + 596 + 130 * (g 3).toNatClampNeg) p := hp35_0.ag (fun x hx1 hx2 => (heq41 x (zx_X16_resultant_69 hx1 hx2 hgn3_1 hgb3)))
    have hb158 : w41 m = some (.inl (15, zMo m (zs g 3 (g 3 + 1 + 1)) r)) := ((heq41 m (zx_X16_resultant_80 hgn3_1 hgb3)).trans (heq35 m (zx_X16_resultant_79 hgb3))).trans hM7
    exact (hJ44 w41 (p) (q) (hsi35.tr hsi41) (fun x hx => ((heq41 x (zx_X16_resultant_78 hx.1 hgn3_1 hgb3)).trans (heq35 x (zx_X16_resultant_77 hx.1 hgb3)))) hb157 hp41_0 hb158 (by
          first
          | exact Or.inl hsz
          | (refine Or.inr ?_
             have e1 := zbTn_rw p
             have e2 := zbTn_dn p
             have e3 := zbTn_rw q
             have e4 := zbTn_dn q
             omega))).more (zfa1 rfl (zfa1 rfl (zfa1 rfl (zfa1 rfl (zfa1 rfl (zfa0))))))
  ·
    have f160 := zneI cc14
    rw [show (0 : Int32).toInt = 0 from by decide] at f160
    refine zp_seg (pc' := 20) (lv' := [(6, .ref (m + 596 + 130 * (g 3 + 1).toNatClampNeg)), (5, .ref (m + 596 + 130 * (g 3).toNatClampNeg)), (0, .ref m), (1, .ref to), (2, .ref a), (3, .ref b), (4, .int way)]) (st' := [.ref a, .ref (m + 596 + 130 * (g 3).toNatClampNeg)]) [(17, .aload 5), (19, .aload_n 2)] (by decide +kernel) rfl ?_
    have hb161 : zB w7 (m + 596 + 130 * (g 3).toNatClampNeg) zbZ := hp1_1.ag (fun x hx1 hx2 => (heq7 x ⟨(zx_X16_resultant_68 hx1 hx2 hgb3), (zx_X16_resultant_69 hx1 hx2 hgn3_1 hgb3)⟩))
    have ho20_to := zB.o hb161
    have hb162 : zB w7 a p := hB_a.ag (fun x hx1 hx2 => ((heq7 x ⟨(zx_X16_resultant_70 hx1 hx2 hma hgb3), (zx_X16_resultant_72 hx1 hx2 hma hgn3_1 hgb3)⟩).trans (heq1 x ⟨(zx_X16_resultant_70 hx1 hx2 hma hgb3), (zx_X16_resultant_71 hx1 hx2 hma hgb3)⟩)))
    refine zr_callS (idx := 644) (j := 283) (by decide +kernel) (by decide +kernel) (by decide) (show zMe 283 = some zq_X16_turn from rfl) rfl rfl (Nat.le_of_ble_eq_true rfl) rfl rfl (Nat.le_of_ble_eq_true rfl) (Nat.le_of_ble_eq_true rfl) (c_X16_turn (w := w7) (m + 596 + 130 * (g 3).toNatClampNeg) a ho20_to hb162 (by first | omega | decide | assumption | exact zr1_1 | exact zr1_0 | fail "num") (by first | omega | decide | assumption | exact zr1_1 | exact zr1_0 | fail "num")) (by omega) (fun v20 w20 hp20 => ?_)
    obtain ⟨hsi20, heq20, hp20_0, rfl⟩ := hp20
    show zP _ _ _ _ [] _ _ _ _ _
    refine zp_seg (pc' := 26) (lv' := [(6, .ref (m + 596 + 130 * (g 3 + 1).toNatClampNeg)), (5, .ref (m + 596 + 130 * (g 3).toNatClampNeg)), (0, .ref m), (1, .ref to), (2, .ref a), (3, .ref b), (4, .int way)]) (st' := [.ref b, .ref (m + 596 + 130 * (g 3 + 1).toNatClampNeg)]) [(23, .aload 6), (25, .aload_n 3)] (by decide +kernel) rfl ?_
    have hb163 : zB w20 (m + 596 + 130 * (g 3 + 1).toNatClampNeg) zbZ := hp7_1.ag (fun x hx1 hx2 => (heq20 x (zx_X16_resultant_73 hx1 hx2 hgn3_1 hgb3)))
    have ho26_to := zB.o hb163
    have hb164 : zB w20 b q := hB_b.ag (fun x hx1 hx2 => ((heq20 x (zx_X16_resultant_75 hx1 hx2 hmb hgb3)).trans ((heq7 x ⟨(zx_X16_resultant_74 hx1 hx2 hmb hgb3), (zx_X16_resultant_76 hx1 hx2 hmb hgn3_1 hgb3)⟩).trans (heq1 x ⟨(zx_X16_resultant_74 hx1 hx2 hmb hgb3), (zx_X16_resultant_75 hx1 hx2 hmb hgb3)⟩))))
    refine zr_callS (idx := 644) (j := 283) (by decide +kernel) (by decide +kernel) (by decide) (show zMe 283 = some zq_X16_turn from rfl) rfl rfl (Nat.le_of_ble_eq_true rfl) rfl rfl (Nat.le_of_ble_eq_true rfl) (Nat.le_of_ble_eq_true rfl) (c_X16_turn (w := w20) (m + 596 + 130 * (g 3 + 1).toNatClampNeg) b ho26_to hb164 (by first | omega | decide | assumption | exact zr1_1 | exact zr1_0 | fail "num") (by first | omega | decide | assumption | exact zr1_1 | exact zr1_0 | fail "num")) (by omega) (fun v26 w26 hp26 => ?_)
    obtain ⟨hsi26, heq26, hp26_0, rfl⟩ := hp26
    show zP _ _ _ _ [] _ _ _ _ _
    refine zp_seg (pc' := 44) (lv' := [(6, .ref (m + 596 + 130 * (g 3 + 1).toNatClampNeg)), (5, .ref (m + 596 + 130 * (g 3).toNatClampNeg)), (0, .ref m), (1, .ref to), (2, .ref a), (3, .ref b), (4, .int way)]) (st' := []) [(29, .goto 15)] (by decide +kernel) rfl ?_
    have hb165 : zB w26 (m + 596 + 130 * (g 3).toNatClampNeg) (zbTn p) := hp20_0.ag (fun x hx1 hx2 => (heq26 x (zx_X16_resultant_69 hx1 hx2 hgn3_1 hgb3)))
    have hb166 : w26 m = some (.inl (15, zMo m (zs g 3 (g 3 + 1 + 1)) r)) := ((heq26 m (zx_X16_resultant_80 hgn3_1 hgb3)).trans (heq20 m (zx_X16_resultant_79 hgb3))).trans hM7
    exact (hJ44 w26 ((zbTn p)) ((zbTn q)) (hsi20.tr hsi26) (fun x hx => ((heq26 x (zx_X16_resultant_78 hx.1 hgn3_1 hgb3)).trans (heq20 x (zx_X16_resultant_77 hx.1 hgb3)))) hb165 hp26_0 hb166 (by
          first
          | exact Or.inl hsz
          | (refine Or.inr ?_
             have e1 := zbTn_rw p
             have e2 := zbTn_dn p
             have e3 := zbTn_rw q
             have e4 := zbTn_dn q
             omega))).more (zfa1 rfl (zfa1 rfl (zfa1 rfl (zfa1 rfl (zfa1 rfl (zfa0))))))
