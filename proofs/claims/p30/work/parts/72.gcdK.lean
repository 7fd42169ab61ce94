theorem zx_X16_gcdK_0 {G3_0 a m x : Nat} (h0 : a ≤ x) (h1 : x < a + 130) (h2 : m + 596 ≤ a ∧ a + 130 ≤ m + 596 + 130 * G3_0) (h3 : G3_0 + 2 ≤ 44) : x < m ∨ m + 1 ≤ x := by omega
theorem zx_X16_gcdK_1 {G1_0 G3_0 a m x : Nat} (h0 : a ≤ x) (h1 : x < a + 130) (h2 : m + 596 ≤ a ∧ a + 130 ≤ m + 596 + 130 * G3_0) (h3 : G1_0 + 7 ≤ 160) (h4 : G3_0 + 2 ≤ 44) : x < m + 276 + 2 * G1_0 ∨ m + 276 + 2 * G1_0 + 2 ≤ x := by omega
theorem zx_X16_gcdK_2 {G3_0 b m x : Nat} (h0 : b ≤ x) (h1 : x < b + 130) (h2 : m + 596 ≤ b ∧ b + 130 ≤ m + 596 + 130 * G3_0) (h3 : G3_0 + 2 ≤ 44) : x < m ∨ m + 1 ≤ x := by omega
theorem zx_X16_gcdK_3 {G1_0 G3_0 b m x : Nat} (h0 : b ≤ x) (h1 : x < b + 130) (h2 : m + 596 ≤ b ∧ b + 130 ≤ m + 596 + 130 * G3_0) (h3 : G1_0 + 7 ≤ 160) (h4 : G3_0 + 2 ≤ 44) : x < m + 276 + 2 * G1_0 ∨ m + 276 + 2 * G1_0 + 2 ≤ x := by omega
theorem zx_X16_gcdK_4 {G1_0 m : Nat} (h0 : G1_0 + 7 ≤ 160) : m < m + 276 + 2 * G1_0 ∨ m + 276 + 2 * G1_0 + 2 ≤ m := by omega
theorem zx_X16_gcdK_5 {G1_0 G1_1 m : Nat} (h0 : G1_1 = G1_0 + 1) (h1 : G1_0 + 7 ≤ 160) : m < m + 276 + 2 * G1_1 ∨ m + 276 + 2 * G1_1 + (320 - 2 * G1_1) ≤ m := by omega
theorem zx_X16_gcdK_6 {G1_0 G1_1 G3_0 a m x : Nat} (h0 : a ≤ x) (h1 : x < a + 130) (h2 : m + 596 ≤ a ∧ a + 130 ≤ m + 596 + 130 * G3_0) (h3 : G1_1 = G1_0 + 1) (h4 : G1_0 + 7 ≤ 160) (h5 : G3_0 + 2 ≤ 44) : x < m + 276 + 2 * G1_1 ∨ m + 276 + 2 * G1_1 + (320 - 2 * G1_1) ≤ x := by omega
theorem zx_X16_gcdK_7 {G1_0 G1_1 G3_0 a m x : Nat} (h0 : a ≤ x) (h1 : x < a + 130) (h2 : m + 596 ≤ a ∧ a + 130 ≤ m + 596 + 130 * G3_0) (h3 : G1_1 = G1_0 + 1) (h4 : G1_0 + 7 ≤ 160) (h5 : G3_0 + 2 ≤ 44) : x < m + 276 + 2 * G1_1 ∨ m + 276 + 2 * G1_1 + 2 ≤ x := by omega
theorem zx_X16_gcdK_8 {G1_0 G1_2 G3_0 a m x : Nat} (h0 : a ≤ x) (h1 : x < a + 130) (h2 : m + 596 ≤ a ∧ a + 130 ≤ m + 596 + 130 * G3_0) (h3 : G1_2 = G1_0 + 2) (h4 : G1_0 + 7 ≤ 160) (h5 : G3_0 + 2 ≤ 44) : x < m + 276 + 2 * G1_2 ∨ m + 276 + 2 * G1_2 + 2 ≤ x := by omega
theorem zx_X16_gcdK_9 {G1_0 G1_3 G3_0 a m x : Nat} (h0 : a ≤ x) (h1 : x < a + 130) (h2 : m + 596 ≤ a ∧ a + 130 ≤ m + 596 + 130 * G3_0) (h3 : G1_3 = G1_0 + 3) (h4 : G1_0 + 7 ≤ 160) (h5 : G3_0 + 2 ≤ 44) : x < m + 276 + 2 * G1_3 ∨ m + 276 + 2 * G1_3 + 2 ≤ x := by omega
theorem zx_X16_gcdK_10 {G3_0 a m x : Nat} (h0 : a ≤ x) (h1 : x < a + 130) (h2 : m + 596 ≤ a ∧ a + 130 ≤ m + 596 + 130 * G3_0) (h3 : G3_0 + 2 ≤ 44) : x < m + 596 + 130 * G3_0 ∨ m + 596 + 130 * G3_0 + 130 ≤ x := by omega
theorem zx_X16_gcdK_11 {G1_0 G3_0 a m : Nat} (h0 : m + 596 ≤ a ∧ a + 130 ≤ m + 596 + 130 * G3_0) (h1 : G1_0 + 7 ≤ 160) (h2 : G3_0 + 2 ≤ 44) : a < m + 276 + 2 * G1_0 ∨ m + 276 + 2 * G1_0 + 2 ≤ a := by omega
theorem zx_X16_gcdK_12 {G1_0 G1_1 G3_0 a m : Nat} (h0 : m + 596 ≤ a ∧ a + 130 ≤ m + 596 + 130 * G3_0) (h1 : G1_1 = G1_0 + 1) (h2 : G1_0 + 7 ≤ 160) (h3 : G3_0 + 2 ≤ 44) : a < m + 276 + 2 * G1_1 ∨ m + 276 + 2 * G1_1 + (320 - 2 * G1_1) ≤ a := by omega
theorem zx_X16_gcdK_13 {G3_0 a m : Nat} (h0 : m + 596 ≤ a ∧ a + 130 ≤ m + 596 + 130 * G3_0) (h1 : G3_0 + 2 ≤ 44) : a < m ∨ m + 1 ≤ a := by omega
theorem zx_X16_gcdK_14 {G1_0 G1_1 G3_0 a m : Nat} (h0 : m + 596 ≤ a ∧ a + 130 ≤ m + 596 + 130 * G3_0) (h1 : G1_1 = G1_0 + 1) (h2 : G1_0 + 7 ≤ 160) (h3 : G3_0 + 2 ≤ 44) : a < m + 276 + 2 * G1_1 ∨ m + 276 + 2 * G1_1 + 2 ≤ a := by omega
theorem zx_X16_gcdK_15 {G1_0 G1_2 G3_0 a m : Nat} (h0 : m + 596 ≤ a ∧ a + 130 ≤ m + 596 + 130 * G3_0) (h1 : G1_2 = G1_0 + 2) (h2 : G1_0 + 7 ≤ 160) (h3 : G3_0 + 2 ≤ 44) : a < m + 276 + 2 * G1_2 ∨ m + 276 + 2 * G1_2 + 2 ≤ a := by omega
theorem zx_X16_gcdK_16 {G1_0 G1_3 G3_0 a m : Nat} (h0 : m + 596 ≤ a ∧ a + 130 ≤ m + 596 + 130 * G3_0) (h1 : G1_3 = G1_0 + 3) (h2 : G1_0 + 7 ≤ 160) (h3 : G3_0 + 2 ≤ 44) : a < m + 276 + 2 * G1_3 ∨ m + 276 + 2 * G1_3 + 2 ≤ a := by omega
theorem zx_X16_gcdK_17 {G3_0 a m : Nat} (h0 : m + 596 ≤ a ∧ a + 130 ≤ m + 596 + 130 * G3_0) (h1 : G3_0 + 2 ≤ 44) : a < m + 596 + 130 * G3_0 ∨ m + 596 + 130 * G3_0 + 130 ≤ a := by omega
theorem zx_X16_gcdK_18 {G1_0 G1_1 G3_0 b m x : Nat} (h0 : b ≤ x) (h1 : x < b + 130) (h2 : m + 596 ≤ b ∧ b + 130 ≤ m + 596 + 130 * G3_0) (h3 : G1_1 = G1_0 + 1) (h4 : G1_0 + 7 ≤ 160) (h5 : G3_0 + 2 ≤ 44) : x < m + 276 + 2 * G1_1 ∨ m + 276 + 2 * G1_1 + (320 - 2 * G1_1) ≤ x := by omega
theorem zx_X16_gcdK_19 {G1_0 G1_1 G3_0 b m x : Nat} (h0 : b ≤ x) (h1 : x < b + 130) (h2 : m + 596 ≤ b ∧ b + 130 ≤ m + 596 + 130 * G3_0) (h3 : G1_1 = G1_0 + 1) (h4 : G1_0 + 7 ≤ 160) (h5 : G3_0 + 2 ≤ 44) : x < m + 276 + 2 * G1_1 ∨ m + 276 + 2 * G1_1 + 2 ≤ x := by omega
theorem zx_X16_gcdK_20 {G1_0 G1_2 G3_0 b m x : Nat} (h0 : b ≤ x) (h1 : x < b + 130) (h2 : m + 596 ≤ b ∧ b + 130 ≤ m + 596 + 130 * G3_0) (h3 : G1_2 = G1_0 + 2) (h4 : G1_0 + 7 ≤ 160) (h5 : G3_0 + 2 ≤ 44) : x < m + 276 + 2 * G1_2 ∨ m + 276 + 2 * G1_2 + 2 ≤ x := by omega
theorem zx_X16_gcdK_21 {G1_0 G1_3 G3_0 b m x : Nat} (h0 : b ≤ x) (h1 : x < b + 130) (h2 : m + 596 ≤ b ∧ b + 130 ≤ m + 596 + 130 * G3_0) (h3 : G1_3 = G1_0 + 3) (h4 : G1_0 + 7 ≤ 160) (h5 : G3_0 + 2 ≤ 44) : x < m + 276 + 2 * G1_3 ∨ m + 276 + 2 * G1_3 + 2 ≤ x := by omega
theorem zx_X16_gcdK_22 {G3_0 b m x : Nat} (h0 : b ≤ x) (h1 : x < b + 130) (h2 : m + 596 ≤ b ∧ b + 130 ≤ m + 596 + 130 * G3_0) (h3 : G3_0 + 2 ≤ 44) : x < m + 596 + 130 * G3_0 ∨ m + 596 + 130 * G3_0 + 130 ≤ x := by omega
theorem zx_X16_gcdK_23 {G1_0 G3_0 b m : Nat} (h0 : m + 596 ≤ b ∧ b + 130 ≤ m + 596 + 130 * G3_0) (h1 : G1_0 + 7 ≤ 160) (h2 : G3_0 + 2 ≤ 44) : b < m + 276 + 2 * G1_0 ∨ m + 276 + 2 * G1_0 + 2 ≤ b := by omega
theorem zx_X16_gcdK_24 {G1_0 G1_1 G3_0 b m : Nat} (h0 : m + 596 ≤ b ∧ b + 130 ≤ m + 596 + 130 * G3_0) (h1 : G1_1 = G1_0 + 1) (h2 : G1_0 + 7 ≤ 160) (h3 : G3_0 + 2 ≤ 44) : b < m + 276 + 2 * G1_1 ∨ m + 276 + 2 * G1_1 + (320 - 2 * G1_1) ≤ b := by omega
theorem zx_X16_gcdK_25 {G3_0 b m : Nat} (h0 : m + 596 ≤ b ∧ b + 130 ≤ m + 596 + 130 * G3_0) (h1 : G3_0 + 2 ≤ 44) : b < m ∨ m + 1 ≤ b := by omega
theorem zx_X16_gcdK_26 {G1_0 G1_1 G3_0 b m : Nat} (h0 : m + 596 ≤ b ∧ b + 130 ≤ m + 596 + 130 * G3_0) (h1 : G1_1 = G1_0 + 1) (h2 : G1_0 + 7 ≤ 160) (h3 : G3_0 + 2 ≤ 44) : b < m + 276 + 2 * G1_1 ∨ m + 276 + 2 * G1_1 + 2 ≤ b := by omega
theorem zx_X16_gcdK_27 {G1_0 G1_2 G3_0 b m : Nat} (h0 : m + 596 ≤ b ∧ b + 130 ≤ m + 596 + 130 * G3_0) (h1 : G1_2 = G1_0 + 2) (h2 : G1_0 + 7 ≤ 160) (h3 : G3_0 + 2 ≤ 44) : b < m + 276 + 2 * G1_2 ∨ m + 276 + 2 * G1_2 + 2 ≤ b := by omega
theorem zx_X16_gcdK_28 {G1_0 G1_3 G3_0 b m : Nat} (h0 : m + 596 ≤ b ∧ b + 130 ≤ m + 596 + 130 * G3_0) (h1 : G1_3 = G1_0 + 3) (h2 : G1_0 + 7 ≤ 160) (h3 : G3_0 + 2 ≤ 44) : b < m + 276 + 2 * G1_3 ∨ m + 276 + 2 * G1_3 + 2 ≤ b := by omega
theorem zx_X16_gcdK_29 {G3_0 b m : Nat} (h0 : m + 596 ≤ b ∧ b + 130 ≤ m + 596 + 130 * G3_0) (h1 : G3_0 + 2 ≤ 44) : b < m + 596 + 130 * G3_0 ∨ m + 596 + 130 * G3_0 + 130 ≤ b := by omega
theorem zx_X16_gcdK_30 {G1_0 m : Nat} (h0 : G1_0 + 7 ≤ 160) : (m + 276 + 2 * G1_0) < m ∨ m + 1 ≤ (m + 276 + 2 * G1_0) := by omega
theorem zx_X16_gcdK_31 {G1_0 G1_1 m : Nat} (h0 : G1_1 = G1_0 + 1) (h1 : G1_0 + 7 ≤ 160) : (m + 276 + 2 * G1_0) < m + 276 + 2 * G1_1 ∨ m + 276 + 2 * G1_1 + 2 ≤ (m + 276 + 2 * G1_0) := by omega
theorem zx_X16_gcdK_32 {G1_0 G1_2 m : Nat} (h0 : G1_2 = G1_0 + 2) (h1 : G1_0 + 7 ≤ 160) : (m + 276 + 2 * G1_0) < m + 276 + 2 * G1_2 ∨ m + 276 + 2 * G1_2 + 2 ≤ (m + 276 + 2 * G1_0) := by omega
theorem zx_X16_gcdK_33 {G1_0 G1_3 m : Nat} (h0 : G1_3 = G1_0 + 3) (h1 : G1_0 + 7 ≤ 160) : (m + 276 + 2 * G1_0) < m + 276 + 2 * G1_3 ∨ m + 276 + 2 * G1_3 + 2 ≤ (m + 276 + 2 * G1_0) := by omega
theorem zx_X16_gcdK_34 {G1_0 G3_0 m : Nat} (h0 : G1_0 + 7 ≤ 160) (h1 : G3_0 + 2 ≤ 44) : (m + 276 + 2 * G1_0) < m + 596 + 130 * G3_0 ∨ m + 596 + 130 * G3_0 + 130 ≤ (m + 276 + 2 * G1_0) := by omega
theorem zx_X16_gcdK_35 {m x : Nat} (h0 : x ≠ m) : x < m ∨ m + 1 ≤ x := by omega
theorem zx_X16_gcdK_36 {G1_0 m x : Nat} (h0 : x < m + 276 + 2 * G1_0 ∨ m + 276 + 2 * G1_0 + (320 - 2 * G1_0) ≤ x) (h1 : G1_0 + 7 ≤ 160) : x < m + 276 + 2 * G1_0 ∨ m + 276 + 2 * G1_0 + 2 ≤ x := by omega
theorem zx_X16_gcdK_37 {G1_0 G1_1 m x : Nat} (h0 : x < m + 276 + 2 * G1_0 ∨ m + 276 + 2 * G1_0 + (320 - 2 * G1_0) ≤ x) (h1 : G1_1 = G1_0 + 1) (h2 : G1_0 + 7 ≤ 160) : x < m + 276 + 2 * G1_1 ∨ m + 276 + 2 * G1_1 + (320 - 2 * G1_1) ≤ x := by omega
theorem zx_X16_gcdK_38 {G1_0 G1_1 m x : Nat} (h0 : x < m + 276 + 2 * G1_0 ∨ m + 276 + 2 * G1_0 + (320 - 2 * G1_0) ≤ x) (h1 : G1_1 = G1_0 + 1) (h2 : G1_0 + 7 ≤ 160) : x < m + 276 + 2 * G1_1 ∨ m + 276 + 2 * G1_1 + 2 ≤ x := by omega
theorem zx_X16_gcdK_39 {G1_0 G1_2 m x : Nat} (h0 : x < m + 276 + 2 * G1_0 ∨ m + 276 + 2 * G1_0 + (320 - 2 * G1_0) ≤ x) (h1 : G1_2 = G1_0 + 2) (h2 : G1_0 + 7 ≤ 160) : x < m + 276 + 2 * G1_2 ∨ m + 276 + 2 * G1_2 + 2 ≤ x := by omega
theorem zx_X16_gcdK_40 {G1_0 G1_3 m x : Nat} (h0 : x < m + 276 + 2 * G1_0 ∨ m + 276 + 2 * G1_0 + (320 - 2 * G1_0) ≤ x) (h1 : G1_3 = G1_0 + 3) (h2 : G1_0 + 7 ≤ 160) : x < m + 276 + 2 * G1_3 ∨ m + 276 + 2 * G1_3 + 2 ≤ x := by omega
theorem zx_X16_gcdK_41 {G3_0 m x : Nat} (h0 : x < m + 596 + 130 * G3_0 ∨ m + 596 + 130 * G3_0 + (5720 - 130 * G3_0) ≤ x) (h1 : x < m + 5 ∨ m + 5 + 64 ≤ x) (h2 : G3_0 + 2 ≤ 44) : x < m + 596 + 130 * G3_0 ∨ m + 596 + 130 * G3_0 + 130 ≤ x := by omega
theorem zx_X16_gcdK_42 {G3_0 m to x : Nat} (h0 : to ≤ x) (h1 : x < to + 130) (h2 : m + 596 ≤ to ∧ to + 130 ≤ m + 596 + 130 * G3_0) (h3 : G3_0 + 2 ≤ 44) : x ≠ m := by omega
theorem zx_X16_gcdK_43 {G1_0 G3_0 a m x : Nat} (h0 : a ≤ x) (h1 : x < a + 130) (h2 : m + 596 ≤ a ∧ a + 130 ≤ m + 596 + 130 * G3_0) (h3 : G1_0 + 7 ≤ 160) (h4 : G3_0 + 2 ≤ 44) : x < m + 276 + 2 * G1_0 ∨ m + 276 + 2 * G1_0 + (320 - 2 * G1_0) ≤ x := by omega
theorem zx_X16_gcdK_44 {G3_0 a m x : Nat} (h0 : a ≤ x) (h1 : x < a + 130) (h2 : m + 596 ≤ a ∧ a + 130 ≤ m + 596 + 130 * G3_0) (h3 : G3_0 + 2 ≤ 44) : x < m + 596 + 130 * G3_0 ∨ m + 596 + 130 * G3_0 + (5720 - 130 * G3_0) ≤ x := by omega
theorem zx_X16_gcdK_45 {G3_0 a m to x : Nat} (h0 : a ≤ x) (h1 : x < a + 130) (h2 : to + 130 ≤ a ∨ a + 130 ≤ to) (h3 : m + 596 ≤ to ∧ to + 130 ≤ m + 596 + 130 * G3_0) (h4 : m + 596 ≤ a ∧ a + 130 ≤ m + 596 + 130 * G3_0) (h5 : G3_0 + 2 ≤ 44) : x < to ∨ to + 130 ≤ x := by omega
theorem zx_X16_gcdK_46 {G3_0 a m x : Nat} (h0 : a ≤ x) (h1 : x < a + 130) (h2 : m + 596 ≤ a ∧ a + 130 ≤ m + 596 + 130 * G3_0) (h3 : G3_0 + 2 ≤ 44) : x < m + 3 ∨ m + 3 + 1 ≤ x := by omega
theorem zx_X16_gcdK_47 {G3_0 a m x : Nat} (h0 : a ≤ x) (h1 : x < a + 130) (h2 : m + 596 ≤ a ∧ a + 130 ≤ m + 596 + 130 * G3_0) (h3 : G3_0 + 2 ≤ 44) : x < m + 5 ∨ m + 5 + 64 ≤ x := by omega
theorem zx_X16_gcdK_48 {G3_0 a m x : Nat} (h0 : a ≤ x) (h1 : x < a + 130) (h2 : m + 596 ≤ a ∧ a + 130 ≤ m + 596 + 130 * G3_0) (h3 : G3_0 + 2 ≤ 44) : x ≠ m := by omega
theorem zx_X16_gcdK_49 {G1_0 G3_0 a m : Nat} (h0 : m + 596 ≤ a ∧ a + 130 ≤ m + 596 + 130 * G3_0) (h1 : G1_0 + 7 ≤ 160) (h2 : G3_0 + 2 ≤ 44) : a < m + 276 + 2 * G1_0 ∨ m + 276 + 2 * G1_0 + (320 - 2 * G1_0) ≤ a := by omega
theorem zx_X16_gcdK_50 {G3_0 a m : Nat} (h0 : m + 596 ≤ a ∧ a + 130 ≤ m + 596 + 130 * G3_0) (h1 : G3_0 + 2 ≤ 44) : a < m + 596 + 130 * G3_0 ∨ m + 596 + 130 * G3_0 + (5720 - 130 * G3_0) ≤ a := by omega
theorem zx_X16_gcdK_51 {G3_0 a m to : Nat} (h0 : to + 130 ≤ a ∨ a + 130 ≤ to) (h1 : m + 596 ≤ to ∧ to + 130 ≤ m + 596 + 130 * G3_0) (h2 : m + 596 ≤ a ∧ a + 130 ≤ m + 596 + 130 * G3_0) (h3 : G3_0 + 2 ≤ 44) : a < to ∨ to + 130 ≤ a := by omega
theorem zx_X16_gcdK_52 {G3_0 a m : Nat} (h0 : m + 596 ≤ a ∧ a + 130 ≤ m + 596 + 130 * G3_0) (h1 : G3_0 + 2 ≤ 44) : a < m + 3 ∨ m + 3 + 1 ≤ a := by omega
theorem zx_X16_gcdK_53 {G3_0 a m : Nat} (h0 : m + 596 ≤ a ∧ a + 130 ≤ m + 596 + 130 * G3_0) (h1 : G3_0 + 2 ≤ 44) : a < m + 5 ∨ m + 5 + 64 ≤ a := by omega
theorem zx_X16_gcdK_54 {G3_0 a m : Nat} (h0 : m + 596 ≤ a ∧ a + 130 ≤ m + 596 + 130 * G3_0) (h1 : G3_0 + 2 ≤ 44) : a ≠ m := by omega
theorem zx_X16_gcdK_55 {G1_0 G3_0 b m x : Nat} (h0 : b ≤ x) (h1 : x < b + 130) (h2 : m + 596 ≤ b ∧ b + 130 ≤ m + 596 + 130 * G3_0) (h3 : G1_0 + 7 ≤ 160) (h4 : G3_0 + 2 ≤ 44) : x < m + 276 + 2 * G1_0 ∨ m + 276 + 2 * G1_0 + (320 - 2 * G1_0) ≤ x := by omega
theorem zx_X16_gcdK_56 {G3_0 b m x : Nat} (h0 : b ≤ x) (h1 : x < b + 130) (h2 : m + 596 ≤ b ∧ b + 130 ≤ m + 596 + 130 * G3_0) (h3 : G3_0 + 2 ≤ 44) : x < m + 596 + 130 * G3_0 ∨ m + 596 + 130 * G3_0 + (5720 - 130 * G3_0) ≤ x := by omega
theorem zx_X16_gcdK_57 {G3_0 b m to x : Nat} (h0 : b ≤ x) (h1 : x < b + 130) (h2 : to + 130 ≤ b ∨ b + 130 ≤ to) (h3 : m + 596 ≤ to ∧ to + 130 ≤ m + 596 + 130 * G3_0) (h4 : m + 596 ≤ b ∧ b + 130 ≤ m + 596 + 130 * G3_0) (h5 : G3_0 + 2 ≤ 44) : x < to ∨ to + 130 ≤ x := by omega
theorem zx_X16_gcdK_58 {G3_0 b m x : Nat} (h0 : b ≤ x) (h1 : x < b + 130) (h2 : m + 596 ≤ b ∧ b + 130 ≤ m + 596 + 130 * G3_0) (h3 : G3_0 + 2 ≤ 44) : x < m + 3 ∨ m + 3 + 1 ≤ x := by omega
theorem zx_X16_gcdK_59 {G3_0 b m x : Nat} (h0 : b ≤ x) (h1 : x < b + 130) (h2 : m + 596 ≤ b ∧ b + 130 ≤ m + 596 + 130 * G3_0) (h3 : G3_0 + 2 ≤ 44) : x < m + 5 ∨ m + 5 + 64 ≤ x := by omega
theorem zx_X16_gcdK_60 {G3_0 b m x : Nat} (h0 : b ≤ x) (h1 : x < b + 130) (h2 : m + 596 ≤ b ∧ b + 130 ≤ m + 596 + 130 * G3_0) (h3 : G3_0 + 2 ≤ 44) : x ≠ m := by omega
theorem zx_X16_gcdK_61 {G1_0 G3_0 b m : Nat} (h0 : m + 596 ≤ b ∧ b + 130 ≤ m + 596 + 130 * G3_0) (h1 : G1_0 + 7 ≤ 160) (h2 : G3_0 + 2 ≤ 44) : b < m + 276 + 2 * G1_0 ∨ m + 276 + 2 * G1_0 + (320 - 2 * G1_0) ≤ b := by omega
theorem zx_X16_gcdK_62 {G3_0 b m : Nat} (h0 : m + 596 ≤ b ∧ b + 130 ≤ m + 596 + 130 * G3_0) (h1 : G3_0 + 2 ≤ 44) : b < m + 596 + 130 * G3_0 ∨ m + 596 + 130 * G3_0 + (5720 - 130 * G3_0) ≤ b := by omega
theorem zx_X16_gcdK_63 {G3_0 b m to : Nat} (h0 : to + 130 ≤ b ∨ b + 130 ≤ to) (h1 : m + 596 ≤ to ∧ to + 130 ≤ m + 596 + 130 * G3_0) (h2 : m + 596 ≤ b ∧ b + 130 ≤ m + 596 + 130 * G3_0) (h3 : G3_0 + 2 ≤ 44) : b < to ∨ to + 130 ≤ b := by omega
theorem zx_X16_gcdK_64 {G3_0 b m : Nat} (h0 : m + 596 ≤ b ∧ b + 130 ≤ m + 596 + 130 * G3_0) (h1 : G3_0 + 2 ≤ 44) : b < m + 3 ∨ m + 3 + 1 ≤ b := by omega
theorem zx_X16_gcdK_65 {G3_0 b m : Nat} (h0 : m + 596 ≤ b ∧ b + 130 ≤ m + 596 + 130 * G3_0) (h1 : G3_0 + 2 ≤ 44) : b < m + 5 ∨ m + 5 + 64 ≤ b := by omega
theorem zx_X16_gcdK_66 {G3_0 b m : Nat} (h0 : m + 596 ≤ b ∧ b + 130 ≤ m + 596 + 130 * G3_0) (h1 : G3_0 + 2 ≤ 44) : b ≠ m := by omega
theorem zx_X16_gcdK_67 {G1_0 G1_1 m : Nat} (h0 : G1_1 = G1_0 + 1) (h1 : G1_0 + 7 ≤ 160) : m < m + 276 + 2 * G1_1 ∨ m + 276 + 2 * G1_1 + 2 ≤ m := by omega
theorem zx_X16_gcdK_68 {G1_0 G1_2 m : Nat} (h0 : G1_2 = G1_0 + 2) (h1 : G1_0 + 7 ≤ 160) : m < m + 276 + 2 * G1_2 ∨ m + 276 + 2 * G1_2 + 2 ≤ m := by omega
theorem zx_X16_gcdK_69 {G1_0 G1_1 G1_2 m x : Nat} (h0 : m + 276 + 2 * G1_1 ≤ x) (h1 : x < m + 276 + 2 * G1_1 + 2) (h2 : G1_1 = G1_0 + 1) (h3 : G1_2 = G1_0 + 2) (h4 : G1_0 + 7 ≤ 160) : x < m + 276 + 2 * G1_2 ∨ m + 276 + 2 * G1_2 + 2 ≤ x := by omega
theorem zx_X16_gcdK_70 {G1_0 G1_4 m : Nat} (h0 : G1_4 = G1_0 + 4) (h1 : G1_0 + 7 ≤ 160) : m < m + 276 + 2 * G1_4 ∨ m + 276 + 2 * G1_4 + (320 - 2 * G1_4) ≤ m := by omega
theorem zx_X16_gcdK_71 {G1_0 G1_4 m x : Nat} (h0 : x < m + 276 + 2 * G1_0 ∨ m + 276 + 2 * G1_0 + (320 - 2 * G1_0) ≤ x) (h1 : G1_4 = G1_0 + 4) (h2 : G1_0 + 7 ≤ 160) : x < m + 276 + 2 * G1_4 ∨ m + 276 + 2 * G1_4 + (320 - 2 * G1_4) ≤ x := by omega
theorem zx_X16_gcdK_72 {G1_0 G1_1 m x : Nat} (h0 : m + 276 + 2 * G1_0 ≤ x) (h1 : x < m + 276 + 2 * G1_0 + 2) (h2 : G1_1 = G1_0 + 1) (h3 : G1_0 + 7 ≤ 160) : x < m + 276 + 2 * G1_1 ∨ m + 276 + 2 * G1_1 + 2 ≤ x := by omega
theorem zx_X16_gcdK_73 {G1_0 G1_2 m x : Nat} (h0 : m + 276 + 2 * G1_0 ≤ x) (h1 : x < m + 276 + 2 * G1_0 + 2) (h2 : G1_2 = G1_0 + 2) (h3 : G1_0 + 7 ≤ 160) : x < m + 276 + 2 * G1_2 ∨ m + 276 + 2 * G1_2 + 2 ≤ x := by omega
theorem zx_X16_gcdK_74 {G1_0 G1_4 m x : Nat} (h0 : m + 276 + 2 * G1_0 ≤ x) (h1 : x < m + 276 + 2 * G1_0 + 2) (h2 : G1_4 = G1_0 + 4) (h3 : G1_0 + 7 ≤ 160) : x < m + 276 + 2 * G1_4 ∨ m + 276 + 2 * G1_4 + (320 - 2 * G1_4) ≤ x := by omega
theorem zx_X16_gcdK_75 {G1_0 m x : Nat} (h0 : m + 276 + 2 * G1_0 ≤ x) (h1 : x < m + 276 + 2 * G1_0 + 2) (h2 : G1_0 + 7 ≤ 160) : x < m + 3 ∨ m + 3 + 1 ≤ x := by omega
theorem zx_X16_gcdK_76 {G1_0 m x : Nat} (h0 : m + 276 + 2 * G1_0 ≤ x) (h1 : x < m + 276 + 2 * G1_0 + 2) (h2 : G1_0 + 7 ≤ 160) : x < m + 5 ∨ m + 5 + 64 ≤ x := by omega
theorem zx_X16_gcdK_77 {G1_0 m x : Nat} (h0 : m + 276 + 2 * G1_0 ≤ x) (h1 : x < m + 276 + 2 * G1_0 + 2) (h2 : G1_0 + 7 ≤ 160) : x ≠ m := by omega
theorem zx_X16_gcdK_78 {G3_0 m to : Nat} (h0 : m + 596 ≤ to ∧ to + 130 ≤ m + 596 + 130 * G3_0) (h1 : G3_0 + 2 ≤ 44) : m ≠ to := by omega
theorem zx_X16_gcdK_79 {G3_0 m to : Nat} (h0 : m + 596 ≤ to ∧ to + 130 ≤ m + 596 + 130 * G3_0) (h1 : G3_0 + 2 ≤ 44) : m < to ∨ to + 1 ≤ m := by omega
theorem zx_X16_gcdK_80 {G3_0 m to : Nat} (h0 : m + 596 ≤ to ∧ to + 130 ≤ m + 596 + 130 * G3_0) (h1 : G3_0 + 2 ≤ 44) : m < to ∨ to + 130 ≤ m := by omega
theorem zx_X16_gcdK_81 {G1_0 G1_3 m : Nat} (h0 : G1_3 = G1_0 + 3) (h1 : G1_0 + 7 ≤ 160) : m < m + 276 + 2 * G1_3 ∨ m + 276 + 2 * G1_3 + 2 ≤ m := by omega
theorem zx_X16_gcdK_82 {G1_0 G1_4 G3_0 a m x : Nat} (h0 : a ≤ x) (h1 : x < a + 130) (h2 : m + 596 ≤ a ∧ a + 130 ≤ m + 596 + 130 * G3_0) (h3 : G1_4 = G1_0 + 4) (h4 : G1_0 + 7 ≤ 160) (h5 : G3_0 + 2 ≤ 44) : x < m + 276 + 2 * G1_4 ∨ m + 276 + 2 * G1_4 + (320 - 2 * G1_4) ≤ x := by omega
theorem zx_X16_gcdK_83 {G1_0 G1_3 G3_0 a m x : Nat} (h0 : a ≤ x) (h1 : x < a + 130) (h2 : m + 596 ≤ a ∧ a + 130 ≤ m + 596 + 130 * G3_0) (h3 : G1_3 = G1_0 + 3) (h4 : G1_0 + 7 ≤ 160) (h5 : G3_0 + 2 ≤ 44) : x < m + 276 + 2 * G1_3 ∨ m + 276 + 2 * G1_3 + (320 - 2 * G1_3) ≤ x := by omega
theorem zx_X16_gcdK_84 {G3_0 a m to x : Nat} (h0 : a ≤ x) (h1 : x < a + 130) (h2 : to + 130 ≤ a ∨ a + 130 ≤ to) (h3 : m + 596 ≤ to ∧ to + 130 ≤ m + 596 + 130 * G3_0) (h4 : m + 596 ≤ a ∧ a + 130 ≤ m + 596 + 130 * G3_0) (h5 : G3_0 + 2 ≤ 44) : x < to + 2 ∨ to + 2 + 128 ≤ x := by omega
theorem zx_X16_gcdK_85 {G3_0 a m to x : Nat} (h0 : a ≤ x) (h1 : x < a + 130) (h2 : to + 130 ≤ a ∨ a + 130 ≤ to) (h3 : m + 596 ≤ to ∧ to + 130 ≤ m + 596 + 130 * G3_0) (h4 : m + 596 ≤ a ∧ a + 130 ≤ m + 596 + 130 * G3_0) (h5 : G3_0 + 2 ≤ 44) : x ≠ to := by omega
theorem zx_X16_gcdK_86 {G3_0 a m to x : Nat} (h0 : a ≤ x) (h1 : x < a + 130) (h2 : to + 130 ≤ a ∨ a + 130 ≤ to) (h3 : m + 596 ≤ to ∧ to + 130 ≤ m + 596 + 130 * G3_0) (h4 : m + 596 ≤ a ∧ a + 130 ≤ m + 596 + 130 * G3_0) (h5 : G3_0 + 2 ≤ 44) : x < to ∨ to + 1 ≤ x := by omega
theorem zx_X16_gcdK_87 {G1_0 G1_3 m x : Nat} (h0 : x < m + 276 + 2 * G1_0 ∨ m + 276 + 2 * G1_0 + (320 - 2 * G1_0) ≤ x) (h1 : G1_3 = G1_0 + 3) (h2 : G1_0 + 7 ≤ 160) : x < m + 276 + 2 * G1_3 ∨ m + 276 + 2 * G1_3 + (320 - 2 * G1_3) ≤ x := by omega
theorem zx_X16_gcdK_88 {G3_0 m to x : Nat} (h0 : x < to ∨ to + 130 ≤ x) (h1 : m + 596 ≤ to ∧ to + 130 ≤ m + 596 + 130 * G3_0) (h2 : G3_0 + 2 ≤ 44) : x < to + 2 ∨ to + 2 + 128 ≤ x := by omega
theorem zx_X16_gcdK_89 {G3_0 m to x : Nat} (h0 : x < to ∨ to + 130 ≤ x) (h1 : m + 596 ≤ to ∧ to + 130 ≤ m + 596 + 130 * G3_0) (h2 : G3_0 + 2 ≤ 44) : x ≠ to := by omega
theorem zx_X16_gcdK_90 {G3_0 m to x : Nat} (h0 : x < to ∨ to + 130 ≤ x) (h1 : m + 596 ≤ to ∧ to + 130 ≤ m + 596 + 130 * G3_0) (h2 : G3_0 + 2 ≤ 44) : x < to ∨ to + 1 ≤ x := by omega
theorem zx_X16_gcdK_91 {G3_0 G3_1 m x : Nat} (h0 : x < m + 596 + 130 * G3_0 ∨ m + 596 + 130 * G3_0 + (5720 - 130 * G3_0) ≤ x) (h1 : x < m + 5 ∨ m + 5 + 64 ≤ x) (h2 : G3_1 = G3_0 + 1) (h3 : G3_0 + 2 ≤ 44) : x < m + 596 + 130 * G3_1 ∨ m + 596 + 130 * G3_1 + (5720 - 130 * G3_1) ≤ x := by omega
theorem zx_X16_gcdK_92 {G1_0 G1_3 m x : Nat} (h0 : m + 276 + 2 * G1_0 ≤ x) (h1 : x < m + 276 + 2 * G1_0 + 2) (h2 : G1_3 = G1_0 + 3) (h3 : G1_0 + 7 ≤ 160) : x < m + 276 + 2 * G1_3 ∨ m + 276 + 2 * G1_3 + (320 - 2 * G1_3) ≤ x := by omega
theorem zx_X16_gcdK_93 {G1_0 G3_0 m to x : Nat} (h0 : m + 276 + 2 * G1_0 ≤ x) (h1 : x < m + 276 + 2 * G1_0 + 2) (h2 : m + 596 ≤ to ∧ to + 130 ≤ m + 596 + 130 * G3_0) (h3 : G1_0 + 7 ≤ 160) (h4 : G3_0 + 2 ≤ 44) : x < to + 2 ∨ to + 2 + 128 ≤ x := by omega
theorem zx_X16_gcdK_94 {G1_0 G3_0 m to x : Nat} (h0 : m + 276 + 2 * G1_0 ≤ x) (h1 : x < m + 276 + 2 * G1_0 + 2) (h2 : m + 596 ≤ to ∧ to + 130 ≤ m + 596 + 130 * G3_0) (h3 : G1_0 + 7 ≤ 160) (h4 : G3_0 + 2 ≤ 44) : x ≠ to := by omega
theorem zx_X16_gcdK_95 {G1_0 G3_0 m to x : Nat} (h0 : m + 276 + 2 * G1_0 ≤ x) (h1 : x < m + 276 + 2 * G1_0 + 2) (h2 : m + 596 ≤ to ∧ to + 130 ≤ m + 596 + 130 * G3_0) (h3 : G1_0 + 7 ≤ 160) (h4 : G3_0 + 2 ≤ 44) : x < to ∨ to + 1 ≤ x := by omega
theorem zx_X16_gcdK_96 {G1_0 G3_0 m to x : Nat} (h0 : m + 276 + 2 * G1_0 ≤ x) (h1 : x < m + 276 + 2 * G1_0 + 2) (h2 : m + 596 ≤ to ∧ to + 130 ≤ m + 596 + 130 * G3_0) (h3 : G1_0 + 7 ≤ 160) (h4 : G3_0 + 2 ≤ 44) : x < to ∨ to + 130 ≤ x := by omega
theorem zx_X16_gcdK_97 {G1_0 G1_3 m x : Nat} (h0 : m + 276 + 2 * G1_0 ≤ x) (h1 : x < m + 276 + 2 * G1_0 + 2) (h2 : G1_3 = G1_0 + 3) (h3 : G1_0 + 7 ≤ 160) : x < m + 276 + 2 * G1_3 ∨ m + 276 + 2 * G1_3 + 2 ≤ x := by omega
theorem zx_X16_gcdK_98 {G1_0 G3_0 m x : Nat} (h0 : m + 276 + 2 * G1_0 ≤ x) (h1 : x < m + 276 + 2 * G1_0 + 2) (h2 : G1_0 + 7 ≤ 160) (h3 : G3_0 + 2 ≤ 44) : x < m + 596 + 130 * G3_0 ∨ m + 596 + 130 * G3_0 + 130 ≤ x := by omega
theorem zx_X16_gcdK_99 {G1_0 G3_0 G3_1 m x : Nat} (h0 : m + 276 + 2 * G1_0 ≤ x) (h1 : x < m + 276 + 2 * G1_0 + 2) (h2 : G3_1 = G3_0 + 1) (h3 : G1_0 + 7 ≤ 160) (h4 : G3_0 + 2 ≤ 44) : x < m + 596 + 130 * G3_1 ∨ m + 596 + 130 * G3_1 + (5720 - 130 * G3_1) ≤ x := by omega
theorem zx_X16_gcdK_100 {G1_0 G1_3 m : Nat} (h0 : G1_3 = G1_0 + 3) (h1 : G1_0 + 7 ≤ 160) : (m + 3) < m + 276 + 2 * G1_3 ∨ m + 276 + 2 * G1_3 + (320 - 2 * G1_3) ≤ (m + 3) := by omega
theorem zx_X16_gcdK_101 {G3_0 m to : Nat} (h0 : m + 596 ≤ to ∧ to + 130 ≤ m + 596 + 130 * G3_0) (h1 : G3_0 + 2 ≤ 44) : (m + 3) < to + 2 ∨ to + 2 + 128 ≤ (m + 3) := by omega
theorem zx_X16_gcdK_102 {m : Nat}  : (m + 3) ≠ m := by omega
theorem zx_X16_gcdK_103 {G3_0 m to : Nat} (h0 : m + 596 ≤ to ∧ to + 130 ≤ m + 596 + 130 * G3_0) (h1 : G3_0 + 2 ≤ 44) : (m + 3) ≠ to := by omega
theorem zx_X16_gcdK_104 {G3_0 m to : Nat} (h0 : m + 596 ≤ to ∧ to + 130 ≤ m + 596 + 130 * G3_0) (h1 : G3_0 + 2 ≤ 44) : (m + 3) < to ∨ to + 1 ≤ (m + 3) := by omega
theorem zx_X16_gcdK_105 {G3_0 m to : Nat} (h0 : m + 596 ≤ to ∧ to + 130 ≤ m + 596 + 130 * G3_0) (h1 : G3_0 + 2 ≤ 44) : (m + 3) < to ∨ to + 130 ≤ (m + 3) := by omega
theorem zx_X16_gcdK_106 {G1_0 G1_3 m : Nat} (h0 : G1_3 = G1_0 + 3) (h1 : G1_0 + 7 ≤ 160) : (m + 3) < m + 276 + 2 * G1_3 ∨ m + 276 + 2 * G1_3 + 2 ≤ (m + 3) := by omega
theorem zx_X16_gcdK_107 {G1_0 G1_4 m : Nat} (h0 : G1_4 = G1_0 + 4) (h1 : G1_0 + 7 ≤ 160) : (m + 3) < m + 276 + 2 * G1_4 ∨ m + 276 + 2 * G1_4 + (320 - 2 * G1_4) ≤ (m + 3) := by omega
theorem zx_X16_gcdK_108 {G3_0 m : Nat} (h0 : G3_0 + 2 ≤ 44) : (m + 3) < m + 596 + 130 * G3_0 ∨ m + 596 + 130 * G3_0 + 130 ≤ (m + 3) := by omega
theorem zx_X16_gcdK_109 {G3_0 G3_1 m : Nat} (h0 : G3_1 = G3_0 + 1) (h1 : G3_0 + 2 ≤ 44) : (m + 3) < m + 596 + 130 * G3_1 ∨ m + 596 + 130 * G3_1 + (5720 - 130 * G3_1) ≤ (m + 3) := by omega
theorem zx_X16_gcdK_110 {G3_0 m : Nat} (h0 : G3_0 + 2 ≤ 44) : m < m + 596 + 130 * G3_0 ∨ m + 596 + 130 * G3_0 + 130 ≤ m := by omega
theorem zx_X16_gcdK_111 {G3_0 G3_1 m : Nat} (h0 : G3_1 = G3_0 + 1) (h1 : G3_0 + 2 ≤ 44) : m < m + 596 + 130 * G3_1 ∨ m + 596 + 130 * G3_1 + (5720 - 130 * G3_1) ≤ m := by omega
theorem zx_X16_gcdK_112 {G1_0 G1_4 G3_0 b m x : Nat} (h0 : b ≤ x) (h1 : x < b + 130) (h2 : m + 596 ≤ b ∧ b + 130 ≤ m + 596 + 130 * G3_0) (h3 : G1_4 = G1_0 + 4) (h4 : G1_0 + 7 ≤ 160) (h5 : G3_0 + 2 ≤ 44) : x < m + 276 + 2 * G1_4 ∨ m + 276 + 2 * G1_4 + (320 - 2 * G1_4) ≤ x := by omega
theorem zx_X16_gcdK_113 {G1_0 G1_3 G3_0 b m x : Nat} (h0 : b ≤ x) (h1 : x < b + 130) (h2 : m + 596 ≤ b ∧ b + 130 ≤ m + 596 + 130 * G3_0) (h3 : G1_3 = G1_0 + 3) (h4 : G1_0 + 7 ≤ 160) (h5 : G3_0 + 2 ≤ 44) : x < m + 276 + 2 * G1_3 ∨ m + 276 + 2 * G1_3 + (320 - 2 * G1_3) ≤ x := by omega
theorem zx_X16_gcdK_114 {G3_0 b m to x : Nat} (h0 : b ≤ x) (h1 : x < b + 130) (h2 : to + 130 ≤ b ∨ b + 130 ≤ to) (h3 : m + 596 ≤ to ∧ to + 130 ≤ m + 596 + 130 * G3_0) (h4 : m + 596 ≤ b ∧ b + 130 ≤ m + 596 + 130 * G3_0) (h5 : G3_0 + 2 ≤ 44) : x < to + 2 ∨ to + 2 + 128 ≤ x := by omega
theorem zx_X16_gcdK_115 {G3_0 b m to x : Nat} (h0 : b ≤ x) (h1 : x < b + 130) (h2 : to + 130 ≤ b ∨ b + 130 ≤ to) (h3 : m + 596 ≤ to ∧ to + 130 ≤ m + 596 + 130 * G3_0) (h4 : m + 596 ≤ b ∧ b + 130 ≤ m + 596 + 130 * G3_0) (h5 : G3_0 + 2 ≤ 44) : x ≠ to := by omega
theorem zx_X16_gcdK_116 {G3_0 b m to x : Nat} (h0 : b ≤ x) (h1 : x < b + 130) (h2 : to + 130 ≤ b ∨ b + 130 ≤ to) (h3 : m + 596 ≤ to ∧ to + 130 ≤ m + 596 + 130 * G3_0) (h4 : m + 596 ≤ b ∧ b + 130 ≤ m + 596 + 130 * G3_0) (h5 : G3_0 + 2 ≤ 44) : x < to ∨ to + 1 ≤ x := by omega
theorem zx_X16_gcdK_117 {G3_0 G3_1 b m x : Nat} (h0 : b ≤ x) (h1 : x < b + 130) (h2 : m + 596 ≤ b ∧ b + 130 ≤ m + 596 + 130 * G3_0) (h3 : G3_1 = G3_0 + 1) (h4 : G3_0 + 2 ≤ 44) : x < m + 596 + 130 * G3_1 ∨ m + 596 + 130 * G3_1 + (5720 - 130 * G3_1) ≤ x := by omega
theorem zx_X16_gcdK_118 {G3_0 m to x : Nat} (h0 : to ≤ x) (h1 : x < to + 130) (h2 : m + 596 ≤ to ∧ to + 130 ≤ m + 596 + 130 * G3_0) (h3 : G3_0 + 2 ≤ 44) : x < m + 596 + 130 * G3_0 ∨ m + 596 + 130 * G3_0 + 130 ≤ x := by omega
theorem zx_X16_gcdK_119 {G1_0 G1_4 G3_0 m to x : Nat} (h0 : to ≤ x) (h1 : x < to + 130) (h2 : m + 596 ≤ to ∧ to + 130 ≤ m + 596 + 130 * G3_0) (h3 : G1_4 = G1_0 + 4) (h4 : G1_0 + 7 ≤ 160) (h5 : G3_0 + 2 ≤ 44) : x < m + 276 + 2 * G1_4 ∨ m + 276 + 2 * G1_4 + (320 - 2 * G1_4) ≤ x := by omega
theorem zx_X16_gcdK_120 {G3_0 G3_1 m to x : Nat} (h0 : to ≤ x) (h1 : x < to + 130) (h2 : m + 596 ≤ to ∧ to + 130 ≤ m + 596 + 130 * G3_0) (h3 : G3_1 = G3_0 + 1) (h4 : G3_0 + 2 ≤ 44) : x < m + 596 + 130 * G3_1 ∨ m + 596 + 130 * G3_1 + (5720 - 130 * G3_1) ≤ x := by omega
theorem zx_X16_gcdK_121 {G1_0 G1_3 m x : Nat} (h0 : m + 5 ≤ x) (h1 : x < m + 5 + 64) (h2 : G1_3 = G1_0 + 3) (h3 : G1_0 + 7 ≤ 160) : x < m + 276 + 2 * G1_3 ∨ m + 276 + 2 * G1_3 + (320 - 2 * G1_3) ≤ x := by omega
theorem zx_X16_gcdK_122 {G3_0 m to x : Nat} (h0 : m + 5 ≤ x) (h1 : x < m + 5 + 64) (h2 : m + 596 ≤ to ∧ to + 130 ≤ m + 596 + 130 * G3_0) (h3 : G3_0 + 2 ≤ 44) : x < to + 2 ∨ to + 2 + 128 ≤ x := by omega
theorem zx_X16_gcdK_123 {m x : Nat} (h0 : m + 5 ≤ x) (h1 : x < m + 5 + 64) : x ≠ m := by omega
theorem zx_X16_gcdK_124 {G1_0 G1_3 m x : Nat} (h0 : x < m + 276 + 2 * G1_3 ∨ m + 276 + 2 * G1_3 + (320 - 2 * G1_3) ≤ x) (h1 : G1_3 = G1_0 + 3) (h2 : G1_0 + 7 ≤ 160) : x < m + 276 + 2 * G1_3 ∨ m + 276 + 2 * G1_3 + 2 ≤ x := by omega
theorem zx_X16_gcdK_125 {G1_0 G1_3 G1_4 m x : Nat} (h0 : x < m + 276 + 2 * G1_3 ∨ m + 276 + 2 * G1_3 + (320 - 2 * G1_3) ≤ x) (h1 : G1_3 = G1_0 + 3) (h2 : G1_4 = G1_0 + 4) (h3 : G1_0 + 7 ≤ 160) : x < m + 276 + 2 * G1_4 ∨ m + 276 + 2 * G1_4 + (320 - 2 * G1_4) ≤ x := by omega
theorem zx_X16_gcdK_126 {G1_0 G1_1 m : Nat} (h0 : G1_1 = G1_0 + 1) (h1 : G1_0 + 7 ≤ 160) : (m + 3) < m + 276 + 2 * G1_1 ∨ m + 276 + 2 * G1_1 + 2 ≤ (m + 3) := by omega
theorem zx_X16_gcdK_127 {G1_0 G1_2 m : Nat} (h0 : G1_2 = G1_0 + 2) (h1 : G1_0 + 7 ≤ 160) : (m + 3) < m + 276 + 2 * G1_2 ∨ m + 276 + 2 * G1_2 + 2 ≤ (m + 3) := by omega
theorem zx_X16_gcdK_128 {m : Nat}  : m ≠ m + 3 := by omega
theorem zx_X16_gcdK_129 {m x : Nat} (h0 : x < m + 3 ∨ m + 3 + 1 ≤ x) : x ≠ m + 3 := by omega
theorem zx_X16_gcdK_130 {m : Nat}  : (m + 3) < m + 5 ∨ m + 5 + 64 ≤ (m + 3) := by omega
theorem zx_X16_gcdK_131 {G1_0 G1_1 m : Nat} (h0 : G1_1 = G1_0 + 1) (h1 : G1_0 + 7 ≤ 160) : (m + 276 + 2 * G1_1) ≠ m + 3 := by omega
theorem zx_X16_gcdK_132 {G1_0 G1_1 m : Nat} (h0 : G1_1 = G1_0 + 1) (h1 : G1_0 + 7 ≤ 160) : (m + 276 + 2 * G1_1) < m + 5 ∨ m + 5 + 64 ≤ (m + 276 + 2 * G1_1) := by omega
theorem zx_X16_gcdK_133 {G1_0 G1_1 m : Nat} (h0 : G1_1 = G1_0 + 1) (h1 : G1_0 + 7 ≤ 160) : (m + 276 + 2 * G1_1) ≠ m := by omega
theorem zx_X16_gcdK_134 {G1_0 G1_1 m : Nat} (h0 : G1_1 = G1_0 + 1) (h1 : G1_0 + 7 ≤ 160) : (m + 276 + 2 * G1_1 + 1) ≠ m + 3 := by omega
theorem zx_X16_gcdK_135 {G1_0 G1_1 m : Nat} (h0 : G1_1 = G1_0 + 1) (h1 : G1_0 + 7 ≤ 160) : (m + 276 + 2 * G1_1 + 1) < m + 5 ∨ m + 5 + 64 ≤ (m + 276 + 2 * G1_1 + 1) := by omega
theorem zx_X16_gcdK_136 {G1_0 G1_1 m : Nat} (h0 : G1_1 = G1_0 + 1) (h1 : G1_0 + 7 ≤ 160) : (m + 276 + 2 * G1_1 + 1) ≠ m := by omega
theorem zx_X16_gcdK_137 {m x : Nat} (h0 : m + 5 ≤ x) (h1 : x < m + 5 + 64) : x ≠ m + 3 := by omega
theorem zx_X16_gcdK_138 {G1_0 G1_1 m x : Nat} (h0 : m + 5 ≤ x) (h1 : x < m + 5 + 64) (h2 : G1_1 = G1_0 + 1) (h3 : G1_0 + 7 ≤ 160) : x < m + 276 + 2 * G1_1 ∨ m + 276 + 2 * G1_1 + 2 ≤ x := by omega
theorem zx_X16_gcdK_139 {G1_0 G1_2 m x : Nat} (h0 : m + 5 ≤ x) (h1 : x < m + 5 + 64) (h2 : G1_2 = G1_0 + 2) (h3 : G1_0 + 7 ≤ 160) : x < m + 276 + 2 * G1_2 ∨ m + 276 + 2 * G1_2 + 2 ≤ x := by omega
theorem zx_X16_gcdK_140 {G1_0 G1_4 m x : Nat} (h0 : m + 5 ≤ x) (h1 : x < m + 5 + 64) (h2 : G1_4 = G1_0 + 4) (h3 : G1_0 + 7 ≤ 160) : x < m + 276 + 2 * G1_4 ∨ m + 276 + 2 * G1_4 + (320 - 2 * G1_4) ≤ x := by omega
theorem zx_X16_gcdK_141 {G1_0 m x : Nat} (h0 : m + 276 + 2 * G1_0 ≤ x) (h1 : x < m + 276 + 2 * G1_0 + 2) (h2 : G1_0 + 7 ≤ 160) : x < m ∨ m + 1 ≤ x := by omega
theorem zx_X16_gcdK_142 {G1_0 G1_1 m x : Nat} (h0 : m + 276 + 2 * G1_1 ≤ x) (h1 : x < m + 276 + 2 * G1_1 + 2) (h2 : G1_1 = G1_0 + 1) (h3 : G1_0 + 7 ≤ 160) : x < m ∨ m + 1 ≤ x := by omega
theorem zx_X16_gcdK_143 {G1_0 G1_1 G1_3 m x : Nat} (h0 : m + 276 + 2 * G1_1 ≤ x) (h1 : x < m + 276 + 2 * G1_1 + 2) (h2 : G1_1 = G1_0 + 1) (h3 : G1_3 = G1_0 + 3) (h4 : G1_0 + 7 ≤ 160) : x < m + 276 + 2 * G1_3 ∨ m + 276 + 2 * G1_3 + 2 ≤ x := by omega
theorem zx_X16_gcdK_144 {G1_0 G1_1 G3_0 m x : Nat} (h0 : m + 276 + 2 * G1_1 ≤ x) (h1 : x < m + 276 + 2 * G1_1 + 2) (h2 : G1_1 = G1_0 + 1) (h3 : G1_0 + 7 ≤ 160) (h4 : G3_0 + 2 ≤ 44) : x < m + 596 + 130 * G3_0 ∨ m + 596 + 130 * G3_0 + 130 ≤ x := by omega
theorem zx_X16_gcdK_145 {G1_0 G1_2 m x : Nat} (h0 : m + 276 + 2 * G1_2 ≤ x) (h1 : x < m + 276 + 2 * G1_2 + 2) (h2 : G1_2 = G1_0 + 2) (h3 : G1_0 + 7 ≤ 160) : x < m ∨ m + 1 ≤ x := by omega
theorem zx_X16_gcdK_146 {G1_0 G1_2 G1_3 m x : Nat} (h0 : m + 276 + 2 * G1_2 ≤ x) (h1 : x < m + 276 + 2 * G1_2 + 2) (h2 : G1_2 = G1_0 + 2) (h3 : G1_3 = G1_0 + 3) (h4 : G1_0 + 7 ≤ 160) : x < m + 276 + 2 * G1_3 ∨ m + 276 + 2 * G1_3 + 2 ≤ x := by omega
theorem zx_X16_gcdK_147 {G1_0 G1_2 G3_0 m x : Nat} (h0 : m + 276 + 2 * G1_2 ≤ x) (h1 : x < m + 276 + 2 * G1_2 + 2) (h2 : G1_2 = G1_0 + 2) (h3 : G1_0 + 7 ≤ 160) (h4 : G3_0 + 2 ≤ 44) : x < m + 596 + 130 * G3_0 ∨ m + 596 + 130 * G3_0 + 130 ≤ x := by omega
theorem zx_X16_gcdK_148 {G1_0 G1_3 m x : Nat} (h0 : m + 276 + 2 * G1_3 ≤ x) (h1 : x < m + 276 + 2 * G1_3 + 2) (h2 : G1_3 = G1_0 + 3) (h3 : G1_0 + 7 ≤ 160) : x < m ∨ m + 1 ≤ x := by omega
theorem zx_X16_gcdK_149 {G1_0 G1_3 G3_0 m x : Nat} (h0 : m + 276 + 2 * G1_3 ≤ x) (h1 : x < m + 276 + 2 * G1_3 + 2) (h2 : G1_3 = G1_0 + 3) (h3 : G1_0 + 7 ≤ 160) (h4 : G3_0 + 2 ≤ 44) : x < m + 596 + 130 * G3_0 ∨ m + 596 + 130 * G3_0 + 130 ≤ x := by omega
set_option maxHeartbeats 8000000 in
set_option maxRecDepth 100000 in
theorem c_X16_gcdK {w : zM} {g : Nat → Int32} {r : Nat → Value} {p q : zA2} {g1 : Int32} {g3 : Int32} (m : Nat) (to : Nat) (a : Nat) (b : Nat) (hm : w m = some (.inl (15, zMo m g r))) (hR_m : zR m w) (hBo_to : zBo w to) (hB_a : zB w a p) (hB_b : zB w b q) (hut : 0 ≤ g1.toInt ∧ g1.toInt + 7 ≤ 160) (hbt : 0 ≤ g3.toInt ∧ g3.toInt + 2 ≤ 44) (hta : to + 130 ≤ a ∨ a + 130 ≤ to) (htb : to + 130 ≤ b ∨ b + 130 ≤ to) (hmt : m + 596 ≤ to ∧ to + 130 ≤ m + 596 + 130 * g3.toNatClampNeg) (hma : m + 596 ≤ a ∧ a + 130 ≤ m + 596 + 130 * g3.toNatClampNeg) (hmb : m + 596 ≤ b ∧ b + 130 ≤ m + 596 + 130 * g3.toNatClampNeg) (hp0 : 0 < zrw p) (hq0 : 0 < zrw q) (hpd : zdn p ≤ 99) (hqd : zdn q ≤ 99) (hpq : zdn p ≤ 50 ∨ zdn q ≤ 50) (hg1 : g 1 = g1) (hg3 : g 3 = g3) : zCon 7 zq_X16_gcdK [.ref m, .ref to, .ref a, .ref b] w (fun v9 w9' => ∃ An : zA2, zSI w w9' ∧ (∀ x, (x < to ∨ to + 130 ≤ x) ∧ (x < m + 276 + 2 * g1.toNatClampNeg ∨ m + 276 + 2 * g1.toNatClampNeg + (320 - 2 * g1.toNatClampNeg) ≤ x) ∧ (x < m + 596 + 130 * g3.toNatClampNeg ∨ m + 596 + 130 * g3.toNatClampNeg + (5720 - 130 * g3.toNatClampNeg) ≤ x) ∧ (x < m + 3 ∨ m + 3 + 1 ≤ x) ∧ (x < m + 5 ∨ m + 5 + 64 ≤ x) → w9' x = w x) ∧ zB w9' to An ∧ ((∃ s, p = zbM s An) ∧ (∃ s, q = zbM s An) ∧ 0 < zrw An ∧ ∀ d9 : zA2, (∃ s, p = zbM s d9) → (∃ s, q = zbM s d9) → zrw d9 ≤ zrw An) ∧ v9 = none) := by
  subst hg1
  subst hg3
  intro d sz hd
  obtain ⟨d, rfl⟩ : ∃ d9, d = d9 + 1 := ⟨d - 1, by omega⟩
  generalize hPost : (fun (r9' : Option (Option Value)) (w9' : zM) (z9 : Nat) => z9 = sz ∧ ∃ v9, r9' = some v9 ∧ (∃ An : zA2, zSI w w9' ∧ (∀ x, (x < to ∨ to + 130 ≤ x) ∧ (x < m + 276 + 2 * (g 1).toNatClampNeg ∨ m + 276 + 2 * (g 1).toNatClampNeg + (320 - 2 * (g 1).toNatClampNeg) ≤ x) ∧ (x < m + 596 + 130 * (g 3).toNatClampNeg ∨ m + 596 + 130 * (g 3).toNatClampNeg + (5720 - 130 * (g 3).toNatClampNeg) ≤ x) ∧ (x < m + 3 ∨ m + 3 + 1 ≤ x) ∧ (x < m + 5 ∨ m + 5 + 64 ≤ x) → w9' x = w x) ∧ zB w9' to An ∧ ((∃ s, p = zbM s An) ∧ (∃ s, q = zbM s An) ∧ 0 < zrw An ∧ ∀ d9 : zA2, (∃ s, p = zbM s d9) → (∃ s, q = zbM s d9) → zrw d9 ≤ zrw An) ∧ v9 = none)) = Post
  show zP (d + 1) zq_X16_gcdK 0 [(0, .ref m), (1, .ref to), (2, .ref a), (3, .ref b)] [] w sz 0 0 Post
  have k1 := zrng (g 1)
  have hz2 : ((g 1).toNatClampNeg : Int) = (g 1).toInt := znat (by first | omega | decide)
  have hgb1 : (g 1).toNatClampNeg + 7 ≤ 160 := by omega
  have k3 := zrng (g 3)
  have hz4 : ((g 3).toNatClampNeg : Int) = (g 3).toInt := znat (by first | omega | decide)
  have hgb3 : (g 3).toNatClampNeg + 2 ≤ 44 := by omega
  have hmn9 : zHid (min (zdn p) (zdn q) ≤ 50) := zHid.i (by omega)
  clear hpq
  have hp6 := hB_a.rows
  have hq6 := hB_b.rows
  have hlp := zdn_le p (zrw p - 1)
  have hlq := zdn_le q (zrw q - 1)
  have hlp0 := zln_nz (zrw_hd hp0)
  have hlq0 := zln_nz (zrw_hd hq0)
  have hgl := @zgcd_le1 (p.1 (zrw p - 1)) (q.1 (zrw q - 1)) hlp0
  have hgl2 := (@zgcd_le2 (p.1 (zrw p - 1)) (q.1 (zrw q - 1)) hlq0).2
  obtain ⟨G, f9, g9, u9, v9, r9, P9, hpf, hqg, hf0, hg0, hG0, hr0, hr9, hP0, hP1, hP2⟩ := zgK_all p q hp0 hq0 (by omega) (by omega) hpd hqd
  have hG6 : zrw G ≤ 64 := by
    have h9 := (zrw_M hf0 hG0).1
    rw [← hpf] at h9
    omega
  refine zp_seg (pc' := 1) (lv' := [(0, .ref m), (1, .ref to), (2, .ref a), (3, .ref b)]) (st' := [.ref m]) [(0, .aload_n 0)] (by decide +kernel) rfl ?_
  refine zr_get (idx := 21) (k := 1) (v := .int (g 1)) (by decide +kernel) (by decide +kernel) hm rfl ?_
  refine zp_seg (pc' := 7) (lv' := [(4, .int (g 1)), (0, .ref m), (1, .ref to), (2, .ref a), (3, .ref b)]) (st' := [.ref m]) [(4, .istore 4), (6, .aload_n 0)] (by decide +kernel) rfl ?_
  refine zr_get (idx := 90) (k := 3) (v := .int (g 3)) (by decide +kernel) (by decide +kernel) hm rfl ?_
  refine zp_seg (pc' := 13) (lv' := [(5, .int (g 3)), (4, .int (g 1)), (0, .ref m), (1, .ref to), (2, .ref a), (3, .ref b)]) (st' := [.ref m]) [(10, .istore 5), (12, .aload_n 0)] (by decide +kernel) rfl ?_
  refine zr_callV (idx := 74) (j := 263) (by decide +kernel) (by decide +kernel) (show zMe 263 = some zq_X16_newU from rfl) rfl rfl (Nat.le_of_ble_eq_true rfl) rfl rfl hm (Nat.le_of_ble_eq_true rfl) (Nat.le_of_ble_eq_true rfl) (c_X16_newU (w := w) (g1 := (g 1)) m hm hR_m (by first | omega | decide | assumption | exact zr1_1 | exact zr1_0) rfl) (by omega) (fun v13 w13 hp13 => ?_)
  obtain ⟨hsi13, heq13, hp13_0, hp13_1, rfl⟩ := hp13
  have hM13 : w13 m = some (.inl (15, zMo m (zs g 1 (g 1 + 1)) r)) := hp13_0
  show zP _ _ _ _ [.ref (m + 276 + 2 * (g 1).toNatClampNeg)] _ _ _ _ _
  refine zp_seg (pc' := 22) (lv' := [(6, .ref (m + 276 + 2 * (g 1).toNatClampNeg)), (5, .int (g 3)), (4, .int (g 1)), (0, .ref m), (1, .ref to), (2, .ref a), (3, .ref b)]) (st' := [.ref a, .ref (m + 276 + 2 * (g 1).toNatClampNeg), .ref m]) [(16, .astore 6), (18, .aload_n 0), (19, .aload 6), (21, .aload_n 2)] (by decide +kernel) rfl ?_
  have hb5 : zB w13 a p := hB_a.ag (fun x hx1 hx2 => (heq13 x ⟨(zx_X16_gcdK_0 hx1 hx2 hma hgb3), (zx_X16_gcdK_1 hx1 hx2 hma hgb1 hgb3)⟩))
  obtain ⟨n6, hb7, hb8, hb9, hb10, -⟩ := id hb5
  have kn6 := zrng n6
  refine zr_callV (idx := 144) (j := 246) (by decide +kernel) (by decide +kernel) (show zMe 246 = some zq_X12_lead from rfl) rfl rfl (Nat.le_of_ble_eq_true rfl) rfl rfl hb7 (Nat.le_of_ble_eq_true rfl) (Nat.le_of_ble_eq_true rfl) (c_X12_lead (w := w13) a hb5 (by first | omega | decide | assumption | exact zr1_1 | exact zr1_0)) (by omega) (fun v22 w22 hp22 => ?_)
  obtain ⟨hpw22, hp22_0, rfl⟩ := hp22
  replace hpw22 := hpw22.symm
  subst hpw22
  show zP _ _ _ _ [.ref (a + 2 + 2 * (zrw p - 1)), .ref (m + 276 + 2 * (g 1).toNatClampNeg), .ref m] _ _ _ _ _
  refine zp_seg (pc' := 26) (lv' := [(6, .ref (m + 276 + 2 * (g 1).toNatClampNeg)), (5, .int (g 3)), (4, .int (g 1)), (0, .ref m), (1, .ref to), (2, .ref a), (3, .ref b)]) (st' := [.ref b, .ref (a + 2 + 2 * (zrw p - 1)), .ref (m + 276 + 2 * (g 1).toNatClampNeg), .ref m]) [(25, .aload_n 3)] (by decide +kernel) rfl ?_
  have hb11 : zB w13 b q := hB_b.ag (fun x hx1 hx2 => (heq13 x ⟨(zx_X16_gcdK_2 hx1 hx2 hmb hgb3), (zx_X16_gcdK_3 hx1 hx2 hmb hgb1 hgb3)⟩))
  obtain ⟨n12, hb13, hb14, hb15, hb16, -⟩ := id hb11
  have kn12 := zrng n12
  refine zr_callV (idx := 144) (j := 246) (by decide +kernel) (by decide +kernel) (show zMe 246 = some zq_X12_lead from rfl) rfl rfl (Nat.le_of_ble_eq_true rfl) rfl rfl hb13 (Nat.le_of_ble_eq_true rfl) (Nat.le_of_ble_eq_true rfl) (c_X12_lead (w := w13) b hb11 (by first | omega | decide | assumption | exact zr1_1 | exact zr1_0)) (by omega) (fun v26 w26 hp26 => ?_)
  obtain ⟨hpw26, hp26_0, rfl⟩ := hp26
  replace hpw26 := hpw26.symm
  subst hpw26
  show zP _ _ _ _ [.ref (b + 2 + 2 * (zrw q - 1)), .ref (a + 2 + 2 * (zrw p - 1)), .ref (m + 276 + 2 * (g 1).toNatClampNeg), .ref m] _ _ _ _ _
  have k18 := zaddC (g 1) 1 (n := 1) (by decide) (by omega) (by omega)
  have hz19 : ((g 1 + 1).toNatClampNeg : Int) = (g 1 + 1).toInt := znat (by first | omega | decide)
  have hgn1_1 : (g 1 + 1).toNatClampNeg = (g 1).toNatClampNeg + 1 := by omega
  have hb20 := hR_m.si hsi13
  have ho29_to := zU.o hp13_1
  refine zr_callV (idx := 125) (j := 270) (by decide +kernel) (by decide +kernel) (show zMe 270 = some zq_X16_gcd from rfl) rfl rfl (Nat.le_of_ble_eq_true rfl) rfl rfl hM13 (Nat.le_of_ble_eq_true rfl) (Nat.le_of_ble_eq_true rfl) (c_X16_gcd (w := w13) (g1 := (g 1 + 1)) m (m + 276 + 2 * (g 1).toNatClampNeg) (a + 2 + 2 * (zrw p - 1)) (b + 2 + 2 * (zrw q - 1)) hM13 hb20 ho29_to hp22_0 hp26_0 (by first | omega | decide | assumption | exact zr1_1 | exact zr1_0) (by first | omega | decide | assumption | exact zr1_1 | exact zr1_0) (by first | omega | decide | assumption | exact zr1_1 | exact zr1_0) (by first | omega | decide | assumption | exact zr1_1 | exact zr1_0) (by first | omega | decide | assumption | exact zr1_1 | exact zr1_0) (by first | omega | decide | assumption | exact zr1_1 | exact zr1_0) (by first | omega | decide | assumption | exact zr1_1 | exact zr1_0) rfl) (by omega) (fun v29 w29 hp29 => ?_)
  obtain ⟨hsi29, heq29, hp29_0, rfl⟩ := hp29
  show zP _ _ _ _ [] _ _ _ _ _
  refine zp_seg (pc' := 33) (lv' := [(6, .ref (m + 276 + 2 * (g 1).toNatClampNeg)), (5, .int (g 3)), (4, .int (g 1)), (0, .ref m), (1, .ref to), (2, .ref a), (3, .ref b)]) (st' := [.ref m]) [(32, .aload_n 0)] (by decide +kernel) rfl ?_
  have hb21 : w29 m = some (.inl (15, zMo m (zs g 1 (g 1 + 1)) r)) := (heq29 m ⟨(zx_X16_gcdK_4 hgb1), (zx_X16_gcdK_5 hgn1_1 hgb1)⟩).trans hM13
  have hb22 := hb20.si hsi29
  refine zr_callV (idx := 74) (j := 263) (by decide +kernel) (by decide +kernel) (show zMe 263 = some zq_X16_newU from rfl) rfl rfl (Nat.le_of_ble_eq_true rfl) rfl rfl hb21 (Nat.le_of_ble_eq_true rfl) (Nat.le_of_ble_eq_true rfl) (c_X16_newU (w := w29) (g1 := (g 1 + 1)) m hb21 hb22 (by first | omega | decide | assumption | exact zr1_1 | exact zr1_0) rfl) (by omega) (fun v33 w33 hp33 => ?_)
  obtain ⟨hsi33, heq33, hp33_0, hp33_1, rfl⟩ := hp33
  have hM33 : w33 m = some (.inl (15, zMo m (zs g 1 (g 1 + 1 + 1)) r)) := hp33_0
  show zP _ _ _ _ [.ref (m + 276 + 2 * (g 1 + 1).toNatClampNeg)] _ _ _ _ _
  refine zp_seg (pc' := 39) (lv' := [(7, .ref (m + 276 + 2 * (g 1 + 1).toNatClampNeg)), (6, .ref (m + 276 + 2 * (g 1).toNatClampNeg)), (5, .int (g 3)), (4, .int (g 1)), (0, .ref m), (1, .ref to), (2, .ref a), (3, .ref b)]) (st' := [.ref m]) [(36, .astore 7), (38, .aload_n 0)] (by decide +kernel) rfl ?_
  have k23 := zaddC (g 1 + 1) 1 (n := 1) (by decide) (by omega) (by omega)
  have hz24 : ((g 1 + 1 + 1).toNatClampNeg : Int) = (g 1 + 1 + 1).toInt := znat (by first | omega | decide)
  have hgn1_2 : (g 1 + 1 + 1).toNatClampNeg = (g 1).toNatClampNeg + 2 := by omega
  have hb25 := hb22.si hsi33
  refine zr_callV (idx := 74) (j := 263) (by decide +kernel) (by decide +kernel) (show zMe 263 = some zq_X16_newU from rfl) rfl rfl (Nat.le_of_ble_eq_true rfl) rfl rfl hM33 (Nat.le_of_ble_eq_true rfl) (Nat.le_of_ble_eq_true rfl) (c_X16_newU (w := w33) (g1 := (g 1 + 1 + 1)) m hM33 hb25 (by first | omega | decide | assumption | exact zr1_1 | exact zr1_0) rfl) (by omega) (fun v39 w39 hp39 => ?_)
  obtain ⟨hsi39, heq39, hp39_0, hp39_1, rfl⟩ := hp39
  have hM39 : w39 m = some (.inl (15, zMo m (zs g 1 (g 1 + 1 + 1 + 1)) r)) := hp39_0
  show zP _ _ _ _ [.ref (m + 276 + 2 * (g 1 + 1 + 1).toNatClampNeg)] _ _ _ _ _
  refine zp_seg (pc' := 45) (lv' := [(8, .ref (m + 276 + 2 * (g 1 + 1 + 1).toNatClampNeg)), (7, .ref (m + 276 + 2 * (g 1 + 1).toNatClampNeg)), (6, .ref (m + 276 + 2 * (g 1).toNatClampNeg)), (5, .int (g 3)), (4, .int (g 1)), (0, .ref m), (1, .ref to), (2, .ref a), (3, .ref b)]) (st' := [.ref m]) [(42, .astore 8), (44, .aload_n 0)] (by decide +kernel) rfl ?_
  have k26 := zaddC (g 1 + 1 + 1) 1 (n := 1) (by decide) (by omega) (by omega)
  have hz27 : ((g 1 + 1 + 1 + 1).toNatClampNeg : Int) = (g 1 + 1 + 1 + 1).toInt := znat (by first | omega | decide)
  have hgn1_3 : (g 1 + 1 + 1 + 1).toNatClampNeg = (g 1).toNatClampNeg + 3 := by omega
  have hb28 := hb25.si hsi39
  refine zr_callV (idx := 74) (j := 263) (by decide +kernel) (by decide +kernel) (show zMe 263 = some zq_X16_newU from rfl) rfl rfl (Nat.le_of_ble_eq_true rfl) rfl rfl hM39 (Nat.le_of_ble_eq_true rfl) (Nat.le_of_ble_eq_true rfl) (c_X16_newU (w := w39) (g1 := (g 1 + 1 + 1 + 1)) m hM39 hb28 (by first | omega | decide | assumption | exact zr1_1 | exact zr1_0) rfl) (by omega) (fun v45 w45 hp45 => ?_)
  obtain ⟨hsi45, heq45, hp45_0, hp45_1, rfl⟩ := hp45
  have hM45 : w45 m = some (.inl (15, zMo m (zs g 1 (g 1 + 1 + 1 + 1 + 1)) r)) := hp45_0
  show zP _ _ _ _ [.ref (m + 276 + 2 * (g 1 + 1 + 1 + 1).toNatClampNeg)] _ _ _ _ _
  refine zp_seg (pc' := 51) (lv' := [(9, .ref (m + 276 + 2 * (g 1 + 1 + 1 + 1).toNatClampNeg)), (8, .ref (m + 276 + 2 * (g 1 + 1 + 1).toNatClampNeg)), (7, .ref (m + 276 + 2 * (g 1 + 1).toNatClampNeg)), (6, .ref (m + 276 + 2 * (g 1).toNatClampNeg)), (5, .int (g 3)), (4, .int (g 1)), (0, .ref m), (1, .ref to), (2, .ref a), (3, .ref b)]) (st' := [.ref m]) [(48, .astore 9), (50, .aload_n 0)] (by decide +kernel) rfl ?_
  have hb29 := hb28.si hsi45
  refine zr_callV (idx := 140) (j := 274) (by decide +kernel) (by decide +kernel) (show zMe 274 = some zq_X16_newB from rfl) rfl rfl (Nat.le_of_ble_eq_true rfl) rfl rfl hM45 (Nat.le_of_ble_eq_true rfl) (Nat.le_of_ble_eq_true rfl) (c_X16_newB (w := w45) (g3 := (g 3)) m hM45 hb29 (by first | omega | decide | assumption | exact zr1_1 | exact zr1_0) rfl) (by omega) (fun v51 w51 hp51 => ?_)
  obtain ⟨hsi51, heq51, hp51_0, hp51_1, rfl⟩ := hp51
  have hM51 : w51 m = some (.inl (15, zMo m (zs (zs g 1 (g 1 + 1 + 1 + 1 + 1)) 3 (g 3 + 1)) r)) := hp51_0
  show zP _ _ _ _ [.ref (m + 596 + 130 * (g 3).toNatClampNeg)] _ _ _ _ _
  refine zp_seg (pc' := 57) (lv' := [(10, .ref (m + 596 + 130 * (g 3).toNatClampNeg)), (9, .ref (m + 276 + 2 * (g 1 + 1 + 1 + 1).toNatClampNeg)), (8, .ref (m + 276 + 2 * (g 1 + 1 + 1).toNatClampNeg)), (7, .ref (m + 276 + 2 * (g 1 + 1).toNatClampNeg)), (6, .ref (m + 276 + 2 * (g 1).toNatClampNeg)), (5, .int (g 3)), (4, .int (g 1)), (0, .ref m), (1, .ref to), (2, .ref a), (3, .ref b)]) (st' := [.ref a]) [(54, .astore 10), (56, .aload_n 2)] (by decide +kernel) rfl ?_
  have hb30 : zB w51 a p := hb5.ag (fun x hx1 hx2 => ((heq51 x ⟨(zx_X16_gcdK_0 hx1 hx2 hma hgb3), (zx_X16_gcdK_10 hx1 hx2 hma hgb3)⟩).trans ((heq45 x ⟨(zx_X16_gcdK_0 hx1 hx2 hma hgb3), (zx_X16_gcdK_9 hx1 hx2 hma hgn1_3 hgb1 hgb3)⟩).trans ((heq39 x ⟨(zx_X16_gcdK_0 hx1 hx2 hma hgb3), (zx_X16_gcdK_8 hx1 hx2 hma hgn1_2 hgb1 hgb3)⟩).trans ((heq33 x ⟨(zx_X16_gcdK_0 hx1 hx2 hma hgb3), (zx_X16_gcdK_7 hx1 hx2 hma hgn1_1 hgb1 hgb3)⟩).trans (heq29 x ⟨(zx_X16_gcdK_1 hx1 hx2 hma hgb1 hgb3), (zx_X16_gcdK_6 hx1 hx2 hma hgn1_1 hgb1 hgb3)⟩))))))
  have hb31 : w51 a = some (.inl (11, [.ref (a + 1), .int n6])) := ((heq51 a ⟨(zx_X16_gcdK_13 hma hgb3), (zx_X16_gcdK_17 hma hgb3)⟩).trans ((heq45 a ⟨(zx_X16_gcdK_13 hma hgb3), (zx_X16_gcdK_16 hma hgn1_3 hgb1 hgb3)⟩).trans ((heq39 a ⟨(zx_X16_gcdK_13 hma hgb3), (zx_X16_gcdK_15 hma hgn1_2 hgb1 hgb3)⟩).trans ((heq33 a ⟨(zx_X16_gcdK_13 hma hgb3), (zx_X16_gcdK_14 hma hgn1_1 hgb1 hgb3)⟩).trans (heq29 a ⟨(zx_X16_gcdK_11 hma hgb1 hgb3), (zx_X16_gcdK_12 hma hgn1_1 hgb1 hgb3)⟩))))).trans hb7
  refine zr_callV (idx := 119) (j := 248) (by decide +kernel) (by decide +kernel) (show zMe 248 = some zq_X12_degreeN from rfl) rfl rfl (Nat.le_of_ble_eq_true rfl) rfl rfl hb31 (Nat.le_of_ble_eq_true rfl) (Nat.le_of_ble_eq_true rfl) (c_X12_degreeN (w := w51) a hb30) (by omega) (fun v57 w57 hp57 => ?_)
  obtain ⟨hpw57, r57, rfl, hr57⟩ := hp57
  replace hpw57 := hpw57.symm
  subst hpw57
  have kr57 := zrng r57
  show zP _ _ _ _ [.int r57] _ _ _ _ _
  refine zp_seg (pc' := 61) (lv' := [(10, .ref (m + 596 + 130 * (g 3).toNatClampNeg)), (9, .ref (m + 276 + 2 * (g 1 + 1 + 1 + 1).toNatClampNeg)), (8, .ref (m + 276 + 2 * (g 1 + 1 + 1).toNatClampNeg)), (7, .ref (m + 276 + 2 * (g 1 + 1).toNatClampNeg)), (6, .ref (m + 276 + 2 * (g 1).toNatClampNeg)), (5, .int (g 3)), (4, .int (g 1)), (0, .ref m), (1, .ref to), (2, .ref a), (3, .ref b)]) (st' := [.ref b, .int r57]) [(60, .aload_n 3)] (by decide +kernel) rfl ?_
  have hb32 : zB w51 b q := hb11.ag (fun x hx1 hx2 => ((heq51 x ⟨(zx_X16_gcdK_2 hx1 hx2 hmb hgb3), (zx_X16_gcdK_22 hx1 hx2 hmb hgb3)⟩).trans ((heq45 x ⟨(zx_X16_gcdK_2 hx1 hx2 hmb hgb3), (zx_X16_gcdK_21 hx1 hx2 hmb hgn1_3 hgb1 hgb3)⟩).trans ((heq39 x ⟨(zx_X16_gcdK_2 hx1 hx2 hmb hgb3), (zx_X16_gcdK_20 hx1 hx2 hmb hgn1_2 hgb1 hgb3)⟩).trans ((heq33 x ⟨(zx_X16_gcdK_2 hx1 hx2 hmb hgb3), (zx_X16_gcdK_19 hx1 hx2 hmb hgn1_1 hgb1 hgb3)⟩).trans (heq29 x ⟨(zx_X16_gcdK_3 hx1 hx2 hmb hgb1 hgb3), (zx_X16_gcdK_18 hx1 hx2 hmb hgn1_1 hgb1 hgb3)⟩))))))
  have hb33 : w51 b = some (.inl (11, [.ref (b + 1), .int n12])) := ((heq51 b ⟨(zx_X16_gcdK_25 hmb hgb3), (zx_X16_gcdK_29 hmb hgb3)⟩).trans ((heq45 b ⟨(zx_X16_gcdK_25 hmb hgb3), (zx_X16_gcdK_28 hmb hgn1_3 hgb1 hgb3)⟩).trans ((heq39 b ⟨(zx_X16_gcdK_25 hmb hgb3), (zx_X16_gcdK_27 hmb hgn1_2 hgb1 hgb3)⟩).trans ((heq33 b ⟨(zx_X16_gcdK_25 hmb hgb3), (zx_X16_gcdK_26 hmb hgn1_1 hgb1 hgb3)⟩).trans (heq29 b ⟨(zx_X16_gcdK_23 hmb hgb1 hgb3), (zx_X16_gcdK_24 hmb hgn1_1 hgb1 hgb3)⟩))))).trans hb13
  refine zr_callV (idx := 119) (j := 248) (by decide +kernel) (by decide +kernel) (show zMe 248 = some zq_X12_degreeN from rfl) rfl rfl (Nat.le_of_ble_eq_true rfl) rfl rfl hb33 (Nat.le_of_ble_eq_true rfl) (Nat.le_of_ble_eq_true rfl) (c_X12_degreeN (w := w51) b hb32) (by omega) (fun v61 w61 hp61 => ?_)
  obtain ⟨hpw61, r61, rfl, hr61⟩ := hp61
  replace hpw61 := hpw61.symm
  subst hpw61
  have kr61 := zrng r61
  show zP _ _ _ _ [.int r61, .int r57] _ _ _ _ _
  refine zr_min (idx := 59) (by decide +kernel) (by decide +kernel) (by omega) (Nat.le_of_ble_eq_true rfl) ?_
  obtain ⟨m34, em34, hm34⟩ := zminI r57 r61
  rw [← em34]
  have km34 := zrng m34
  refine zp_seg (pc' := 69) (lv' := [(10, .ref (m + 596 + 130 * (g 3).toNatClampNeg)), (9, .ref (m + 276 + 2 * (g 1 + 1 + 1 + 1).toNatClampNeg)), (8, .ref (m + 276 + 2 * (g 1 + 1 + 1).toNatClampNeg)), (7, .ref (m + 276 + 2 * (g 1 + 1).toNatClampNeg)), (6, .ref (m + 276 + 2 * (g 1).toNatClampNeg)), (5, .int (g 3)), (4, .int (g 1)), (0, .ref m), (1, .ref to), (2, .ref a), (3, .ref b)]) (st' := [.ref (m + 276 + 2 * (g 1).toNatClampNeg), .int m34]) [(67, .aload 6)] (by decide +kernel) rfl ?_
  obtain ⟨n35, f36, hu37, hu38, hu39, hu40, hu41⟩ := id hp29_0
  have kn35 := zrng n35
  have hb42 : w51 (m + 276 + 2 * (g 1).toNatClampNeg) = some (.inl (14, [.ref (m + 276 + 2 * (g 1).toNatClampNeg + 1), .int n35])) := ((heq51 (m + 276 + 2 * (g 1).toNatClampNeg) ⟨(zx_X16_gcdK_30 hgb1), (zx_X16_gcdK_34 hgb1 hgb3)⟩).trans ((heq45 (m + 276 + 2 * (g 1).toNatClampNeg) ⟨(zx_X16_gcdK_30 hgb1), (zx_X16_gcdK_33 hgn1_3 hgb1)⟩).trans ((heq39 (m + 276 + 2 * (g 1).toNatClampNeg) ⟨(zx_X16_gcdK_30 hgb1), (zx_X16_gcdK_32 hgn1_2 hgb1)⟩).trans (heq33 (m + 276 + 2 * (g 1).toNatClampNeg) ⟨(zx_X16_gcdK_30 hgb1), (zx_X16_gcdK_31 hgn1_1 hgb1)⟩)))).trans hu37
  refine zr_get (idx := 25) (k := 1) (v := .int n35) (by decide +kernel) (by decide +kernel) hb42 rfl ?_
  refine zp_seg (pc' := 73) (lv' := [(10, .ref (m + 596 + 130 * (g 3).toNatClampNeg)), (9, .ref (m + 276 + 2 * (g 1 + 1 + 1 + 1).toNatClampNeg)), (8, .ref (m + 276 + 2 * (g 1 + 1 + 1).toNatClampNeg)), (7, .ref (m + 276 + 2 * (g 1 + 1).toNatClampNeg)), (6, .ref (m + 276 + 2 * (g 1).toNatClampNeg)), (5, .int (g 3)), (4, .int (g 1)), (0, .ref m), (1, .ref to), (2, .ref a), (3, .ref b)]) (st' := [.int (m34 + n35)]) [(72, .iadd)] (by decide +kernel) rfl ?_
  have k43 := zadd m34 n35 (by omega) (by omega)
  generalize ev73 : (m34 + n35 : Int32) = v73 at k43 ⊢
  have kv73 := zrng v73
  refine zp_seg (pc' := 75) (lv' := [(11, .int v73), (10, .ref (m + 596 + 130 * (g 3).toNatClampNeg)), (9, .ref (m + 276 + 2 * (g 1 + 1 + 1 + 1).toNatClampNeg)), (8, .ref (m + 276 + 2 * (g 1 + 1 + 1).toNatClampNeg)), (7, .ref (m + 276 + 2 * (g 1 + 1).toNatClampNeg)), (6, .ref (m + 276 + 2 * (g 1).toNatClampNeg)), (5, .int (g 3)), (4, .int (g 1)), (0, .ref m), (1, .ref to), (2, .ref a), (3, .ref b)]) (st' := []) [(73, .istore 11)] (by decide +kernel) rfl ?_
  have hb44 := hb29.si hsi51
  obtain ⟨fx9, hfx9⟩ := (hb44).ia_3
  obtain ⟨LIM, hLIM⟩ : ∃ x : Nat, x = min (zdn p) (zdn q) + zln (zgcd (p.1 (zrw p - 1)) (q.1 (zrw q - 1))) := ⟨_, rfl⟩
  have hL11 : v73.toInt = (LIM : Int) := by omega
  have hLM : 0 < LIM ∧ LIM ≤ 101 := by
    have h9 := hmn9.o
    omega
  replace hLIM := zHid.i hLIM
  clear hm34
  refine zp_seg (pc' := 88) (lv' := [(15, .int 0), (14, .int 0), (13, .int 0), (12, .int 65), (11, .int v73), (10, .ref (m + 596 + 130 * (g 3).toNatClampNeg)), (9, .ref (m + 276 + 2 * (g 1 + 1 + 1 + 1).toNatClampNeg)), (8, .ref (m + 276 + 2 * (g 1 + 1 + 1).toNatClampNeg)), (7, .ref (m + 276 + 2 * (g 1 + 1).toNatClampNeg)), (6, .ref (m + 276 + 2 * (g 1).toNatClampNeg)), (5, .int (g 3)), (4, .int (g 1)), (0, .ref m), (1, .ref to), (2, .ref a), (3, .ref b)]) (st' := []) [(75, .bipush 65), (77, .istore 12), (79, .iconst 0), (80, .istore 13), (82, .iconst 0), (83, .istore 14), (85, .iconst 0), (86, .istore 15)] (by decide +kernel) rfl ?_
  have hL88 : ∀ (mm88 : Nat) (wL88 : zM) (y12_88 : Int32) (y13_88 : Int32) (y14_88 : Int32) (y15_88 : Int32) (F : Nat → Int32) (An : zA2), (zSI w51 wL88) → (∀ x, ((x < m + 276 + 2 * (g 1).toNatClampNeg ∨ m + 276 + 2 * (g 1).toNatClampNeg + (320 - 2 * (g 1).toNatClampNeg) ≤ x) ∧ (x < m + 596 + 130 * (g 3).toNatClampNeg ∨ m + 596 + 130 * (g 3).toNatClampNeg + (5720 - 130 * (g 3).toNatClampNeg) ≤ x) ∧ (x < to ∨ to + 130 ≤ x) ∧ (x < m + 3 ∨ m + 3 + 1 ≤ x) ∧ (x < m + 5 ∨ m + 5 + 64 ≤ x)) ∧ x ≠ m → wL88 x = w51 x) → ((y15_88 = 0 ∨ y15_88 = 1)) → (0 ≤ y14_88.toInt) → (y14_88.toInt ≤ 13102) → ((zrw G : Int) ≤ y12_88.toInt) → (y12_88.toInt ≤ 65) → (0 ≤ y13_88.toInt) → (y13_88.toInt ≤ 102) → (zU wL88 (m + 276 + 2 * (g 1).toNatClampNeg) 1000 (zgcd (p.1 (zrw p - 1)) (q.1 (zrw q - 1)))) → (zUo wL88 (m + 276 + 2 * (g 1 + 1).toNatClampNeg) 1000) → (zUo wL88 (m + 276 + 2 * (g 1 + 1 + 1).toNatClampNeg) 1000) → (zUo wL88 (m + 276 + 2 * (g 1 + 1 + 1 + 1).toNatClampNeg) 1000) → (wL88 (m + 3) = some (.inr (0, 700, .inl F))) → (zBo wL88 (m + 596 + 130 * (g 3).toNatClampNeg)) → (wL88 m = some (.inl (15, zMo m (zs (zs g 1 (g 1 + 1 + 1 + 1 + 1)) 3 (g 3 + 1)) r))) → (y15_88 = 0 → zgI p q (zrw G) y14_88.toNatClampNeg y12_88.toNatClampNeg y13_88.toNatClampNeg ∧ y13_88.toNatClampNeg < LIM) → (y15_88 = 0 → zgF p q F y14_88.toNatClampNeg y12_88.toNatClampNeg y13_88.toNatClampNeg) → (y15_88 = 0 → zgY wL88 m p q (zgcd (p.1 (zrw p - 1)) (q.1 (zrw q - 1))) F y12_88.toNatClampNeg y13_88.toNatClampNeg 0) → (y15_88 = 1 → zB wL88 to An ∧ (∃ s, p = zbM s An) ∧ (∃ s, q = zbM s An) ∧ 0 < zrw An ∧ zrw G ≤ zrw An) → 13103 - y14_88.toNatClampNeg < mm88 → zP (d + 1) zq_X16_gcdK 88 [(0, .ref m), (1, .ref to), (2, .ref a), (3, .ref b), (4, .int (g 1)), (5, .int (g 3)), (6, .ref (m + 276 + 2 * (g 1).toNatClampNeg)), (7, .ref (m + 276 + 2 * (g 1 + 1).toNatClampNeg)), (8, .ref (m + 276 + 2 * (g 1 + 1 + 1).toNatClampNeg)), (9, .ref (m + 276 + 2 * (g 1 + 1 + 1 + 1).toNatClampNeg)), (10, .ref (m + 596 + 130 * (g 3).toNatClampNeg)), (11, .int v73), (12, .int y12_88), (13, .int y13_88), (14, .int y14_88), (15, .int y15_88)] [] wL88 sz 0 0 Post := by
    intro mm88
    induction mm88 with
    | zero => intros; omega
    | succ mm88 ih88 =>
    intro wL88 y12_88 y13_88 y14_88 y15_88 F An hsiL88 heqL88 hi88_0 hi88_1 hi88_2 hi88_3 hi88_4 hi88_5 hi88_6 hUl hUx hUy hUz hAx hBo0 hmL88 hI hF hY hAn hmu88
    have ky12_88 := zrng y12_88
    have ky13_88 := zrng y13_88
    have ky14_88 := zrng y14_88
    have ky15_88 := zrng y15_88
    refine zp_seg (pc' := 90) (lv' := [(0, .ref m), (1, .ref to), (2, .ref a), (3, .ref b), (4, .int (g 1)), (5, .int (g 3)), (6, .ref (m + 276 + 2 * (g 1).toNatClampNeg)), (7, .ref (m + 276 + 2 * (g 1 + 1).toNatClampNeg)), (8, .ref (m + 276 + 2 * (g 1 + 1 + 1).toNatClampNeg)), (9, .ref (m + 276 + 2 * (g 1 + 1 + 1 + 1).toNatClampNeg)), (10, .ref (m + 596 + 130 * (g 3).toNatClampNeg)), (11, .int v73), (12, .int y12_88), (13, .int y13_88), (14, .int y14_88), (15, .int y15_88)]) (st' := [.int y15_88]) [(88, .iload 15)] (by decide +kernel) rfl ?_
    refine zp_if (i := .ifCond .ne 286) (c := ¬ y15_88 = 0) (t := 376) (e := 93) (lv' := [(0, .ref m), (1, .ref to), (2, .ref a), (3, .ref b), (4, .int (g 1)), (5, .int (g 3)), (6, .ref (m + 276 + 2 * (g 1).toNatClampNeg)), (7, .ref (m + 276 + 2 * (g 1 + 1).toNatClampNeg)), (8, .ref (m + 276 + 2 * (g 1 + 1 + 1).toNatClampNeg)), (9, .ref (m + 276 + 2 * (g 1 + 1 + 1 + 1).toNatClampNeg)), (10, .ref (m + 596 + 130 * (g 3).toNatClampNeg)), (11, .int v73), (12, .int y12_88), (13, .int y13_88), (14, .int y14_88), (15, .int y15_88)]) (st' := []) (by decide +kernel) rfl (fun cc90 => ?_) (fun cc90 => ?_)
    ·
      have f46 := zneI cc90
      rw [show (0 : Int32).toInt = 0 from by decide] at f46
      have hA9 := hAn (hi88_0.resolve_left cc90)
      refine zp_seg (pc' := 379) (lv' := [(0, .ref m), (1, .ref to), (2, .ref a), (3, .ref b), (4, .int (g 1)), (5, .int (g 3)), (6, .ref (m + 276 + 2 * (g 1).toNatClampNeg)), (7, .ref (m + 276 + 2 * (g 1 + 1).toNatClampNeg)), (8, .ref (m + 276 + 2 * (g 1 + 1 + 1).toNatClampNeg)), (9, .ref (m + 276 + 2 * (g 1 + 1 + 1 + 1).toNatClampNeg)), (10, .ref (m + 596 + 130 * (g 3).toNatClampNeg)), (11, .int v73), (12, .int y12_88), (13, .int y13_88), (14, .int y14_88), (15, .int y15_88)]) (st' := [.int (g 3), .ref m]) [(376, .aload_n 0), (377, .iload 5)] (by decide +kernel) rfl ?_
      refine zr_put2 (idx := 90) (k := 3) (fs2 := zMo m (zs g 1 (g 1 + 1 + 1 + 1 + 1)) r) (by decide +kernel) (by decide +kernel) hmL88 (Nat.le_of_ble_eq_true rfl) rfl rfl rfl ?_
      show zP (d + 1) zq_X16_gcdK 382 [(0, .ref m), (1, .ref to), (2, .ref a), (3, .ref b), (4, .int (g 1)), (5, .int (g 3)), (6, .ref (m + 276 + 2 * (g 1).toNatClampNeg)), (7, .ref (m + 276 + 2 * (g 1 + 1).toNatClampNeg)), (8, .ref (m + 276 + 2 * (g 1 + 1 + 1).toNatClampNeg)), (9, .ref (m + 276 + 2 * (g 1 + 1 + 1 + 1).toNatClampNeg)), (10, .ref (m + 596 + 130 * (g 3).toNatClampNeg)), (11, .int v73), (12, .int y12_88), (13, .int y13_88), (14, .int y14_88), (15, .int y15_88)] [] (zup wL88 m (.inl (15, zMo m (zs g 1 (g 1 + 1 + 1 + 1 + 1)) r))) sz 0 0 Post
      obtain ⟨w379, ew379⟩ : ∃ wz9, wz9 = zup wL88 m (.inl (15, zMo m (zs g 1 (g 1 + 1 + 1 + 1 + 1)) r)) := ⟨_, rfl⟩
      have hsi379 : zSI wL88 w379 := by rw [ew379]; exact zSI.setG hmL88 _ _
      have heq379 : ∀ x, x ≠ m → w379 x = wL88 x := fun x hx => by rw [ew379]; exact zup_n hx
      have hc379 : w379 m = some (.inl (15, zMo m (zs g 1 (g 1 + 1 + 1 + 1 + 1)) r)) := by rw [ew379]; exact zup_s
      rw [← ew379]
      clear ew379
      refine zp_seg (pc' := 385) (lv' := [(0, .ref m), (1, .ref to), (2, .ref a), (3, .ref b), (4, .int (g 1)), (5, .int (g 3)), (6, .ref (m + 276 + 2 * (g 1).toNatClampNeg)), (7, .ref (m + 276 + 2 * (g 1 + 1).toNatClampNeg)), (8, .ref (m + 276 + 2 * (g 1 + 1 + 1).toNatClampNeg)), (9, .ref (m + 276 + 2 * (g 1 + 1 + 1 + 1).toNatClampNeg)), (10, .ref (m + 596 + 130 * (g 3).toNatClampNeg)), (11, .int v73), (12, .int y12_88), (13, .int y13_88), (14, .int y14_88), (15, .int y15_88)]) (st' := [.int (g 1), .ref m]) [(382, .aload_n 0), (383, .iload 4)] (by decide +kernel) rfl ?_
      refine zr_put2 (idx := 21) (k := 1) (fs2 := zMo m g r) (by decide +kernel) (by decide +kernel) hc379 (Nat.le_of_ble_eq_true rfl) rfl rfl rfl ?_
      show zP (d + 1) zq_X16_gcdK 388 [(0, .ref m), (1, .ref to), (2, .ref a), (3, .ref b), (4, .int (g 1)), (5, .int (g 3)), (6, .ref (m + 276 + 2 * (g 1).toNatClampNeg)), (7, .ref (m + 276 + 2 * (g 1 + 1).toNatClampNeg)), (8, .ref (m + 276 + 2 * (g 1 + 1 + 1).toNatClampNeg)), (9, .ref (m + 276 + 2 * (g 1 + 1 + 1 + 1).toNatClampNeg)), (10, .ref (m + 596 + 130 * (g 3).toNatClampNeg)), (11, .int v73), (12, .int y12_88), (13, .int y13_88), (14, .int y14_88), (15, .int y15_88)] [] (zup w379 m (.inl (15, zMo m g r))) sz 0 0 Post
      obtain ⟨w385, ew385⟩ : ∃ wz9, wz9 = zup w379 m (.inl (15, zMo m g r)) := ⟨_, rfl⟩
      have hsi385 : zSI w379 w385 := by rw [ew385]; exact zSI.setG hc379 _ _
      have heq385 : ∀ x, x ≠ m → w385 x = w379 x := fun x hx => by rw [ew385]; exact zup_n hx
      have hc385 : w385 m = some (.inl (15, zMo m g r)) := by rw [ew385]; exact zup_s
      rw [← ew385]
      clear ew385
      have hmend : w385 m = w m := by rw [hc385, hm]
      have hoffend : ∀ x, (x < to ∨ to + 130 ≤ x) ∧ (x < m + 276 + 2 * (g 1).toNatClampNeg ∨ m + 276 + 2 * (g 1).toNatClampNeg + (320 - 2 * (g 1).toNatClampNeg) ≤ x) ∧ (x < m + 596 + 130 * (g 3).toNatClampNeg ∨ m + 596 + 130 * (g 3).toNatClampNeg + (5720 - 130 * (g 3).toNatClampNeg) ≤ x) ∧ (x < m + 3 ∨ m + 3 + 1 ≤ x) ∧ (x < m + 5 ∨ m + 5 + 64 ≤ x) → w385 x = w x := fun x hx => by
          by_cases ex : x = m
          · rw [ex]; exact hmend
          · exact ((heq385 x ex).trans ((heq379 x ex).trans ((heqL88 x ⟨⟨hx.2.1, hx.2.2.1, hx.1, hx.2.2.2.1, hx.2.2.2.2⟩, ex⟩).trans ((heq51 x ⟨(zx_X16_gcdK_35 ex), (zx_X16_gcdK_41 hx.2.2.1 hx.2.2.2.2 hgb3)⟩).trans ((heq45 x ⟨(zx_X16_gcdK_35 ex), (zx_X16_gcdK_40 hx.2.1 hgn1_3 hgb1)⟩).trans ((heq39 x ⟨(zx_X16_gcdK_35 ex), (zx_X16_gcdK_39 hx.2.1 hgn1_2 hgb1)⟩).trans ((heq33 x ⟨(zx_X16_gcdK_35 ex), (zx_X16_gcdK_38 hx.2.1 hgn1_1 hgb1)⟩).trans ((heq29 x ⟨(zx_X16_gcdK_36 hx.2.1 hgb1), (zx_X16_gcdK_37 hx.2.1 hgn1_1 hgb1)⟩).trans (heq13 x ⟨(zx_X16_gcdK_35 ex), (zx_X16_gcdK_36 hx.2.1 hgb1)⟩)))))))))
      have hb47 : zB w385 to An := hA9.1.ag (fun x hx1 hx2 => ((heq385 x (zx_X16_gcdK_42 hx1 hx2 hmt hgb3)).trans (heq379 x (zx_X16_gcdK_42 hx1 hx2 hmt hgb3))))
      refine zr_retV (by decide +kernel) rfl ?_
      rw [← hPost]; exact ⟨rfl, _, rfl, An, ((((((((hsi13.tr hsi29).tr hsi33).tr hsi39).tr hsi45).tr hsi51).tr hsiL88).tr hsi379).tr hsi385), hoffend, hb47, (by
            exact ⟨hA9.2.1, hA9.2.2.1, hA9.2.2.2.1, fun d9 ⟨s1, hs1⟩ ⟨s2, hs2⟩ => Nat.le_trans (zgB_rw hG0 hr0 hr9 (hpf.symm.trans hs1) (hqg.symm.trans hs2)) hA9.2.2.2.2⟩), rfl⟩
    ·
      replace cc90 := Classical.not_not.mp cc90
      have f49 := zeqI cc90
      rw [show (0 : Int32).toInt = 0 from by decide] at f49
      obtain ⟨hI9, hl9⟩ := hI cc90
      have hF9 := hF cc90
      have hY9 := hY cc90
      have hz50 : (y12_88.toNatClampNeg : Int) = y12_88.toInt := znat (by first | omega | decide)
      have hz51 : (y13_88.toNatClampNeg : Int) = y13_88.toInt := znat (by first | omega | decide)
      have hz52 : (y14_88.toNatClampNeg : Int) = y14_88.toInt := znat (by first | omega | decide)
      have hlen9 := zgI_t hI9 hP0 (fun x hx => ⟨⟨(hP2 x hx).1, (hP2 x hx).2.1⟩, (hP2 x hx).2.2⟩) (by omega)
      refine zp_seg (pc' := 96) (lv' := [(14, .int (y14_88 + 1)), (0, .ref m), (1, .ref to), (2, .ref a), (3, .ref b), (4, .int (g 1)), (5, .int (g 3)), (6, .ref (m + 276 + 2 * (g 1).toNatClampNeg)), (7, .ref (m + 276 + 2 * (g 1 + 1).toNatClampNeg)), (8, .ref (m + 276 + 2 * (g 1 + 1 + 1).toNatClampNeg)), (9, .ref (m + 276 + 2 * (g 1 + 1 + 1 + 1).toNatClampNeg)), (10, .ref (m + 596 + 130 * (g 3).toNatClampNeg)), (11, .int v73), (12, .int y12_88), (13, .int y13_88), (15, .int y15_88)]) (st' := []) [(93, .iinc 14 1)] (by decide +kernel) rfl ?_
      have k53 := zaddC y14_88 1 (n := 1) (by decide) (by omega) (by omega)
      generalize ev96 : (y14_88 + 1 : Int32) = v96 at k53 ⊢
      have kv96 := zrng v96
      have hzr9 : zr1 v96 := ⟨by omega, by omega⟩
      refine zp_seg (pc' := 97) (lv' := [(14, .int v96), (0, .ref m), (1, .ref to), (2, .ref a), (3, .ref b), (4, .int (g 1)), (5, .int (g 3)), (6, .ref (m + 276 + 2 * (g 1).toNatClampNeg)), (7, .ref (m + 276 + 2 * (g 1 + 1).toNatClampNeg)), (8, .ref (m + 276 + 2 * (g 1 + 1 + 1).toNatClampNeg)), (9, .ref (m + 276 + 2 * (g 1 + 1 + 1 + 1).toNatClampNeg)), (10, .ref (m + 596 + 130 * (g 3).toNatClampNeg)), (11, .int v73), (12, .int y12_88), (13, .int y13_88), (15, .int y15_88)]) (st' := [.ref a]) [(96, .aload_n 2)] (by decide +kernel) rfl ?_
      have hb54 : zB wL88 a p := hb30.ag (fun x hx1 hx2 => (heqL88 x ⟨⟨(zx_X16_gcdK_43 hx1 hx2 hma hgb1 hgb3), (zx_X16_gcdK_44 hx1 hx2 hma hgb3), (zx_X16_gcdK_45 hx1 hx2 hta hmt hma hgb3), (zx_X16_gcdK_46 hx1 hx2 hma hgb3), (zx_X16_gcdK_47 hx1 hx2 hma hgb3)⟩, (zx_X16_gcdK_48 hx1 hx2 hma hgb3)⟩))
      have hb55 : wL88 a = some (.inl (11, [.ref (a + 1), .int n6])) := (heqL88 a ⟨⟨(zx_X16_gcdK_49 hma hgb1 hgb3), (zx_X16_gcdK_50 hma hgb3), (zx_X16_gcdK_51 hta hmt hma hgb3), (zx_X16_gcdK_52 hma hgb3), (zx_X16_gcdK_53 hma hgb3)⟩, (zx_X16_gcdK_54 hma hgb3)⟩).trans hb31
      refine zr_callV (idx := 144) (j := 246) (by decide +kernel) (by decide +kernel) (show zMe 246 = some zq_X12_lead from rfl) rfl rfl (Nat.le_of_ble_eq_true rfl) rfl rfl hb55 (Nat.le_of_ble_eq_true rfl) (Nat.le_of_ble_eq_true rfl) (c_X12_lead (w := wL88) a hb54 (by first | omega | decide | assumption | exact zr1_1 | exact zr1_0)) (by omega) (fun v97 w97 hp97 => ?_)
      obtain ⟨hpw97, hp97_0, rfl⟩ := hp97
      replace hpw97 := hpw97.symm
      subst hpw97
      show zP _ _ _ _ [.ref (a + 2 + 2 * (zrw p - 1))] _ _ _ _ _
      refine zp_seg (pc' := 102) (lv' := [(14, .int v96), (0, .ref m), (1, .ref to), (2, .ref a), (3, .ref b), (4, .int (g 1)), (5, .int (g 3)), (6, .ref (m + 276 + 2 * (g 1).toNatClampNeg)), (7, .ref (m + 276 + 2 * (g 1 + 1).toNatClampNeg)), (8, .ref (m + 276 + 2 * (g 1 + 1 + 1).toNatClampNeg)), (9, .ref (m + 276 + 2 * (g 1 + 1 + 1 + 1).toNatClampNeg)), (10, .ref (m + 596 + 130 * (g 3).toNatClampNeg)), (11, .int v73), (12, .int y12_88), (13, .int y13_88), (15, .int y15_88)]) (st' := [.int v96, .ref (a + 2 + 2 * (zrw p - 1))]) [(100, .iload 14)] (by decide +kernel) rfl ?_
      refine zr_callS (idx := 136) (j := 272) (by decide +kernel) (by decide +kernel) (by decide) (show zMe 272 = some zq_X16_eval from rfl) rfl rfl (Nat.le_of_ble_eq_true rfl) rfl rfl (Nat.le_of_ble_eq_true rfl) (Nat.le_of_ble_eq_true rfl) (c_X16_eval (w := wL88) (a + 2 + 2 * (zrw p - 1)) v96 hp97_0 (by first | omega | decide | assumption | exact zr1_1 | exact zr1_0) (by first | omega | decide | assumption | exact zr1_1 | exact zr1_0)) (by omega) (fun v102 w102 hp102 => ?_)
      obtain ⟨hpw102, r102, rfl, hr102⟩ := hp102
      replace hpw102 := hpw102.symm
      subst hpw102
      have kr102 := zrng r102
      show zP _ _ _ _ [.int r102] _ _ _ _ _
      refine zp_if (i := .ifCond .eq (-17)) (c := r102 = 0) (t := 88) (e := 108) (lv' := [(14, .int v96), (0, .ref m), (1, .ref to), (2, .ref a), (3, .ref b), (4, .int (g 1)), (5, .int (g 3)), (6, .ref (m + 276 + 2 * (g 1).toNatClampNeg)), (7, .ref (m + 276 + 2 * (g 1 + 1).toNatClampNeg)), (8, .ref (m + 276 + 2 * (g 1 + 1 + 1).toNatClampNeg)), (9, .ref (m + 276 + 2 * (g 1 + 1 + 1 + 1).toNatClampNeg)), (10, .ref (m + 596 + 130 * (g 3).toNatClampNeg)), (11, .int v73), (12, .int y12_88), (13, .int y13_88), (15, .int y15_88)]) (st' := []) (by decide +kernel) rfl (fun cc105 => ?_) (fun cc105 => ?_)
      ·
        have f56 := zeqI cc105
        rw [show (0 : Int32).toInt = 0 from by decide] at f56
        have hz57 : (v96.toNatClampNeg : Int) = v96.toInt := znat (by first | omega | decide)
        exact (ih88 wL88 y12_88 y13_88 v96 y15_88 (F) (An) hsiL88 (fun x hx => (heqL88 x ⟨⟨hx.1.1, hx.1.2.1, hx.1.2.2.1, hx.1.2.2.2.1, hx.1.2.2.2.2⟩, hx.2⟩)) (by first | assumption | omega | decide) (by first | assumption | omega | decide) (by first | assumption | omega | decide) (by first | assumption | omega | decide) (by first | assumption | omega | decide) (by first | assumption | omega | decide) (by first | assumption | omega | decide) hUl hUx hUy hUz hAx (by
              exact hBo0) hmL88 (by
              exact fun _ => ⟨zgI_p2 hI9 (by omega) (by omega) (fun k => by
                first
                | exact k.2 (by rw [← hr114.2, cc117]; exact zf_0)
                | exact k.1 (by rw [← hr102.2, cc105]; exact zf_0)), hl9⟩) (by
              exact fun _ => hF9.t (by omega)) (by
              exact fun _ => hY9) (by
              exact fun h => absurd (cc90.symm.trans h) (by decide)) (by omega)).more (zfa1 rfl (zfa1 rfl (zfa1 rfl (zfa1 rfl (zfa1 rfl (zfa1 rfl (zfa1 rfl (zfa1 rfl (zfa1 rfl (zfa1 rfl (zfa1 rfl (zfa1 rfl (zfa1 rfl (zfa1 rfl (zfa1 rfl (zfa1 rfl (zfa0)))))))))))))))))
      ·
        have f58 := zneI cc105
        rw [show (0 : Int32).toInt = 0 from by decide] at f58
        refine zp_seg (pc' := 109) (lv' := [(14, .int v96), (0, .ref m), (1, .ref to), (2, .ref a), (3, .ref b), (4, .int (g 1)), (5, .int (g 3)), (6, .ref (m + 276 + 2 * (g 1).toNatClampNeg)), (7, .ref (m + 276 + 2 * (g 1 + 1).toNatClampNeg)), (8, .ref (m + 276 + 2 * (g 1 + 1 + 1).toNatClampNeg)), (9, .ref (m + 276 + 2 * (g 1 + 1 + 1 + 1).toNatClampNeg)), (10, .ref (m + 596 + 130 * (g 3).toNatClampNeg)), (11, .int v73), (12, .int y12_88), (13, .int y13_88), (15, .int y15_88)]) (st' := [.ref b]) [(108, .aload_n 3)] (by decide +kernel) rfl ?_
        have hb59 : zB wL88 b q := hb32.ag (fun x hx1 hx2 => (heqL88 x ⟨⟨(zx_X16_gcdK_55 hx1 hx2 hmb hgb1 hgb3), (zx_X16_gcdK_56 hx1 hx2 hmb hgb3), (zx_X16_gcdK_57 hx1 hx2 htb hmt hmb hgb3), (zx_X16_gcdK_58 hx1 hx2 hmb hgb3), (zx_X16_gcdK_59 hx1 hx2 hmb hgb3)⟩, (zx_X16_gcdK_60 hx1 hx2 hmb hgb3)⟩))
        have hb60 : wL88 b = some (.inl (11, [.ref (b + 1), .int n12])) := (heqL88 b ⟨⟨(zx_X16_gcdK_61 hmb hgb1 hgb3), (zx_X16_gcdK_62 hmb hgb3), (zx_X16_gcdK_63 htb hmt hmb hgb3), (zx_X16_gcdK_64 hmb hgb3), (zx_X16_gcdK_65 hmb hgb3)⟩, (zx_X16_gcdK_66 hmb hgb3)⟩).trans hb33
        refine zr_callV (idx := 144) (j := 246) (by decide +kernel) (by decide +kernel) (show zMe 246 = some zq_X12_lead from rfl) rfl rfl (Nat.le_of_ble_eq_true rfl) rfl rfl hb60 (Nat.le_of_ble_eq_true rfl) (Nat.le_of_ble_eq_true rfl) (c_X12_lead (w := wL88) b hb59 (by first | omega | decide | assumption | exact zr1_1 | exact zr1_0)) (by omega) (fun v109 w109 hp109 => ?_)
        obtain ⟨hpw109, hp109_0, rfl⟩ := hp109
        replace hpw109 := hpw109.symm
        subst hpw109
        show zP _ _ _ _ [.ref (b + 2 + 2 * (zrw q - 1))] _ _ _ _ _
        refine zp_seg (pc' := 114) (lv' := [(14, .int v96), (0, .ref m), (1, .ref to), (2, .ref a), (3, .ref b), (4, .int (g 1)), (5, .int (g 3)), (6, .ref (m + 276 + 2 * (g 1).toNatClampNeg)), (7, .ref (m + 276 + 2 * (g 1 + 1).toNatClampNeg)), (8, .ref (m + 276 + 2 * (g 1 + 1 + 1).toNatClampNeg)), (9, .ref (m + 276 + 2 * (g 1 + 1 + 1 + 1).toNatClampNeg)), (10, .ref (m + 596 + 130 * (g 3).toNatClampNeg)), (11, .int v73), (12, .int y12_88), (13, .int y13_88), (15, .int y15_88)]) (st' := [.int v96, .ref (b + 2 + 2 * (zrw q - 1))]) [(112, .iload 14)] (by decide +kernel) rfl ?_
        refine zr_callS (idx := 136) (j := 272) (by decide +kernel) (by decide +kernel) (by decide) (show zMe 272 = some zq_X16_eval from rfl) rfl rfl (Nat.le_of_ble_eq_true rfl) rfl rfl (Nat.le_of_ble_eq_true rfl) (Nat.le_of_ble_eq_true rfl) (c_X16_eval (w := wL88) (b + 2 + 2 * (zrw q - 1)) v96 hp109_0 (by first | omega | decide | assumption | exact zr1_1 | exact zr1_0) (by first | omega | decide | assumption | exact zr1_1 | exact zr1_0)) (by omega) (fun v114 w114 hp114 => ?_)
        obtain ⟨hpw114, r114, rfl, hr114⟩ := hp114
        replace hpw114 := hpw114.symm
        subst hpw114
        have kr114 := zrng r114
        show zP _ _ _ _ [.int r114] _ _ _ _ _
        refine zp_if (i := .ifCond .ne 6) (c := ¬ r114 = 0) (t := 123) (e := 120) (lv' := [(14, .int v96), (0, .ref m), (1, .ref to), (2, .ref a), (3, .ref b), (4, .int (g 1)), (5, .int (g 3)), (6, .ref (m + 276 + 2 * (g 1).toNatClampNeg)), (7, .ref (m + 276 + 2 * (g 1 + 1).toNatClampNeg)), (8, .ref (m + 276 + 2 * (g 1 + 1 + 1).toNatClampNeg)), (9, .ref (m + 276 + 2 * (g 1 + 1 + 1 + 1).toNatClampNeg)), (10, .ref (m + 596 + 130 * (g 3).toNatClampNeg)), (11, .int v73), (12, .int y12_88), (13, .int y13_88), (15, .int y15_88)]) (st' := []) (by decide +kernel) rfl (fun cc117 => ?_) (fun cc117 => ?_)
        ·
          have f61 := zneI cc117
          rw [show (0 : Int32).toInt = 0 from by decide] at f61
          have hz62 : (v96.toNatClampNeg : Int) = v96.toInt := znat (by first | omega | decide)
          have hPa9 : zPas p q (zf v96) := ⟨fun k => cc105 (zf_z hr102.1 (hr102.2.trans k)), fun k => cc117 (zf_z hr114.1 (hr114.2.trans k))⟩
          have hge9 := zgK_ge (g := g9) hf0 hG0 (x := zf v96) (by rw [← hpf]; exact hPa9.1)
          rw [← hpf, ← hqg] at hge9
          have hxp9 := zMp_top hPa9.1
          have hxq9 := zMp_top hPa9.2
          have hD1 := (@zgcd_le1 (zMp (zf v96) p) (zMp (zf v96) q) (by omega)).2
          have hs9 := zgI_s2 hI9 (by omega) (by omega) hPa9 hge9
          refine zp_seg (pc' := 128) (lv' := [(14, .int v96), (0, .ref m), (1, .ref to), (2, .ref a), (3, .ref b), (4, .int (g 1)), (5, .int (g 3)), (6, .ref (m + 276 + 2 * (g 1).toNatClampNeg)), (7, .ref (m + 276 + 2 * (g 1 + 1).toNatClampNeg)), (8, .ref (m + 276 + 2 * (g 1 + 1 + 1).toNatClampNeg)), (9, .ref (m + 276 + 2 * (g 1 + 1 + 1 + 1).toNatClampNeg)), (10, .ref (m + 596 + 130 * (g 3).toNatClampNeg)), (11, .int v73), (12, .int y12_88), (13, .int y13_88), (15, .int y15_88)]) (st' := [.int v96, .ref a, .ref (m + 276 + 2 * (g 1 + 1).toNatClampNeg)]) [(123, .aload 7), (125, .aload_n 2), (126, .iload 14)] (by decide +kernel) rfl ?_
          refine zr_callS (idx := 154) (j := 286) (by decide +kernel) (by decide +kernel) (by decide) (show zMe 286 = some zq_X16_atN from rfl) rfl rfl (Nat.le_of_ble_eq_true rfl) rfl rfl (Nat.le_of_ble_eq_true rfl) (Nat.le_of_ble_eq_true rfl) (c_X16_atN (w := wL88) (m + 276 + 2 * (g 1 + 1).toNatClampNeg) a v96 hUx hb54 (by first | omega | decide | assumption | exact zr1_1 | exact zr1_0) (by first | omega | decide | assumption | exact zr1_1 | exact zr1_0) (by first | omega | decide | assumption | exact zr1_1 | exact zr1_0)) (by omega) (fun v128 w128 hp128 => ?_)
          obtain ⟨hsi128, heq128, hp128_0, rfl⟩ := hp128
          show zP _ _ _ _ [] _ _ _ _ _
          refine zp_seg (pc' := 136) (lv' := [(14, .int v96), (0, .ref m), (1, .ref to), (2, .ref a), (3, .ref b), (4, .int (g 1)), (5, .int (g 3)), (6, .ref (m + 276 + 2 * (g 1).toNatClampNeg)), (7, .ref (m + 276 + 2 * (g 1 + 1).toNatClampNeg)), (8, .ref (m + 276 + 2 * (g 1 + 1 + 1).toNatClampNeg)), (9, .ref (m + 276 + 2 * (g 1 + 1 + 1 + 1).toNatClampNeg)), (10, .ref (m + 596 + 130 * (g 3).toNatClampNeg)), (11, .int v73), (12, .int y12_88), (13, .int y13_88), (15, .int y15_88)]) (st' := [.int v96, .ref b, .ref (m + 276 + 2 * (g 1 + 1 + 1).toNatClampNeg)]) [(131, .aload 8), (133, .aload_n 3), (134, .iload 14)] (by decide +kernel) rfl ?_
          have hb63 := hUy.si hsi128
          have hb64 : zB w128 b q := hb59.ag (fun x hx1 hx2 => (heq128 x (zx_X16_gcdK_19 hx1 hx2 hmb hgn1_1 hgb1 hgb3)))
          refine zr_callS (idx := 154) (j := 286) (by decide +kernel) (by decide +kernel) (by decide) (show zMe 286 = some zq_X16_atN from rfl) rfl rfl (Nat.le_of_ble_eq_true rfl) rfl rfl (Nat.le_of_ble_eq_true rfl) (Nat.le_of_ble_eq_true rfl) (c_X16_atN (w := w128) (m + 276 + 2 * (g 1 + 1 + 1).toNatClampNeg) b v96 hb63 hb64 (by first | omega | decide | assumption | exact zr1_1 | exact zr1_0) (by first | omega | decide | assumption | exact zr1_1 | exact zr1_0) (by first | omega | decide | assumption | exact zr1_1 | exact zr1_0)) (by omega) (fun v136 w136 hp136 => ?_)
          obtain ⟨hsi136, heq136, hp136_0, rfl⟩ := hp136
          show zP _ _ _ _ [] _ _ _ _ _
          refine zp_seg (pc' := 146) (lv' := [(14, .int v96), (0, .ref m), (1, .ref to), (2, .ref a), (3, .ref b), (4, .int (g 1)), (5, .int (g 3)), (6, .ref (m + 276 + 2 * (g 1).toNatClampNeg)), (7, .ref (m + 276 + 2 * (g 1 + 1).toNatClampNeg)), (8, .ref (m + 276 + 2 * (g 1 + 1 + 1).toNatClampNeg)), (9, .ref (m + 276 + 2 * (g 1 + 1 + 1 + 1).toNatClampNeg)), (10, .ref (m + 596 + 130 * (g 3).toNatClampNeg)), (11, .int v73), (12, .int y12_88), (13, .int y13_88), (15, .int y15_88)]) (st' := [.ref (m + 276 + 2 * (g 1 + 1 + 1).toNatClampNeg), .ref (m + 276 + 2 * (g 1 + 1).toNatClampNeg), .ref (m + 276 + 2 * (g 1 + 1).toNatClampNeg), .ref m]) [(139, .aload_n 0), (140, .aload 7), (142, .aload 7), (144, .aload 8)] (by decide +kernel) rfl ?_
          have hb65 : w136 m = some (.inl (15, zMo m (zs (zs g 1 (g 1 + 1 + 1 + 1 + 1)) 3 (g 3 + 1)) r)) := ((heq136 m (zx_X16_gcdK_68 hgn1_2 hgb1)).trans (heq128 m (zx_X16_gcdK_67 hgn1_1 hgb1))).trans hmL88
          have k66 := zaddC (g 1 + 1 + 1 + 1) 1 (n := 1) (by decide) (by omega) (by omega)
          have hz67 : ((g 1 + 1 + 1 + 1 + 1).toNatClampNeg : Int) = (g 1 + 1 + 1 + 1 + 1).toInt := znat (by first | omega | decide)
          have hgn1_4 : (g 1 + 1 + 1 + 1 + 1).toNatClampNeg = (g 1).toNatClampNeg + 4 := by omega
          have hb68 := hb44.si ((hsiL88.tr hsi128).tr hsi136)
          have hb69 : zU w136 (m + 276 + 2 * (g 1 + 1).toNatClampNeg) 1000 (zMp (zf v96) p) := hp128_0.ag (fun x hx1 hx2 => (heq136 x (zx_X16_gcdK_69 hx1 hx2 hgn1_1 hgn1_2 hgb1)))
          have ho146_to := zU.o hb69
          refine zr_callV (idx := 125) (j := 270) (by decide +kernel) (by decide +kernel) (show zMe 270 = some zq_X16_gcd from rfl) rfl rfl (Nat.le_of_ble_eq_true rfl) rfl rfl hb65 (Nat.le_of_ble_eq_true rfl) (Nat.le_of_ble_eq_true rfl) (c_X16_gcd (w := w136) (g1 := (g 1 + 1 + 1 + 1 + 1)) m (m + 276 + 2 * (g 1 + 1).toNatClampNeg) (m + 276 + 2 * (g 1 + 1).toNatClampNeg) (m + 276 + 2 * (g 1 + 1 + 1).toNatClampNeg) hb65 hb68 ho146_to hb69 hp136_0 (by first | omega | decide | assumption | exact zr1_1 | exact zr1_0) (by first | omega | decide | assumption | exact zr1_1 | exact zr1_0) (by first | omega | decide | assumption | exact zr1_1 | exact zr1_0) (by first | omega | decide | assumption | exact zr1_1 | exact zr1_0) (by first | omega | decide | assumption | exact zr1_1 | exact zr1_0) (by first | omega | decide | assumption | exact zr1_1 | exact zr1_0) (by first | omega | decide | assumption | exact zr1_1 | exact zr1_0) rfl) (by omega) (fun v146 w146 hp146 => ?_)
          obtain ⟨hsi146, heq146, hp146_0, rfl⟩ := hp146
          show zP _ _ _ _ [] _ _ _ _ _
          refine zp_seg (pc' := 151) (lv' := [(14, .int v96), (0, .ref m), (1, .ref to), (2, .ref a), (3, .ref b), (4, .int (g 1)), (5, .int (g 3)), (6, .ref (m + 276 + 2 * (g 1).toNatClampNeg)), (7, .ref (m + 276 + 2 * (g 1 + 1).toNatClampNeg)), (8, .ref (m + 276 + 2 * (g 1 + 1 + 1).toNatClampNeg)), (9, .ref (m + 276 + 2 * (g 1 + 1 + 1 + 1).toNatClampNeg)), (10, .ref (m + 596 + 130 * (g 3).toNatClampNeg)), (11, .int v73), (12, .int y12_88), (13, .int y13_88), (15, .int y15_88)]) (st' := [.ref (m + 276 + 2 * (g 1 + 1).toNatClampNeg)]) [(149, .aload 7)] (by decide +kernel) rfl ?_
          obtain ⟨n70, f71, hu72, hu73, hu74, hu75, hu76⟩ := id hp146_0
          have kn70 := zrng n70
          refine zr_get (idx := 25) (k := 1) (v := .int n70) (by decide +kernel) (by decide +kernel) hu72 rfl ?_
          refine zp_seg (pc' := 155) (lv' := [(14, .int v96), (0, .ref m), (1, .ref to), (2, .ref a), (3, .ref b), (4, .int (g 1)), (5, .int (g 3)), (6, .ref (m + 276 + 2 * (g 1).toNatClampNeg)), (7, .ref (m + 276 + 2 * (g 1 + 1).toNatClampNeg)), (8, .ref (m + 276 + 2 * (g 1 + 1 + 1).toNatClampNeg)), (9, .ref (m + 276 + 2 * (g 1 + 1 + 1 + 1).toNatClampNeg)), (10, .ref (m + 596 + 130 * (g 3).toNatClampNeg)), (11, .int v73), (12, .int y12_88), (13, .int y13_88), (15, .int y15_88)]) (st' := [.int 1, .int n70]) [(154, .iconst 1)] (by decide +kernel) rfl ?_
          refine zp_if (i := .if_icmp .ne 14) (c := ¬ n70 = 1) (t := 169) (e := 158) (lv' := [(14, .int v96), (0, .ref m), (1, .ref to), (2, .ref a), (3, .ref b), (4, .int (g 1)), (5, .int (g 3)), (6, .ref (m + 276 + 2 * (g 1).toNatClampNeg)), (7, .ref (m + 276 + 2 * (g 1 + 1).toNatClampNeg)), (8, .ref (m + 276 + 2 * (g 1 + 1 + 1).toNatClampNeg)), (9, .ref (m + 276 + 2 * (g 1 + 1 + 1 + 1).toNatClampNeg)), (10, .ref (m + 596 + 130 * (g 3).toNatClampNeg)), (11, .int v73), (12, .int y12_88), (13, .int y13_88), (15, .int y15_88)]) (st' := []) (by decide +kernel) rfl (fun cc155 => ?_) (fun cc155 => ?_)
          ·
            have f77 := zneI cc155
            rw [show (1 : Int32).toInt = 1 from by decide] at f77
            refine zp_seg (pc' := 171) (lv' := [(14, .int v96), (0, .ref m), (1, .ref to), (2, .ref a), (3, .ref b), (4, .int (g 1)), (5, .int (g 3)), (6, .ref (m + 276 + 2 * (g 1).toNatClampNeg)), (7, .ref (m + 276 + 2 * (g 1 + 1).toNatClampNeg)), (8, .ref (m + 276 + 2 * (g 1 + 1 + 1).toNatClampNeg)), (9, .ref (m + 276 + 2 * (g 1 + 1 + 1 + 1).toNatClampNeg)), (10, .ref (m + 596 + 130 * (g 3).toNatClampNeg)), (11, .int v73), (12, .int y12_88), (13, .int y13_88), (15, .int y15_88)]) (st' := [.ref (m + 276 + 2 * (g 1 + 1).toNatClampNeg)]) [(169, .aload 7)] (by decide +kernel) rfl ?_
            refine zr_get (idx := 25) (k := 1) (v := .int n70) (by decide +kernel) (by decide +kernel) hu72 rfl ?_
            refine zp_seg (pc' := 176) (lv' := [(14, .int v96), (0, .ref m), (1, .ref to), (2, .ref a), (3, .ref b), (4, .int (g 1)), (5, .int (g 3)), (6, .ref (m + 276 + 2 * (g 1).toNatClampNeg)), (7, .ref (m + 276 + 2 * (g 1 + 1).toNatClampNeg)), (8, .ref (m + 276 + 2 * (g 1 + 1 + 1).toNatClampNeg)), (9, .ref (m + 276 + 2 * (g 1 + 1 + 1 + 1).toNatClampNeg)), (10, .ref (m + 596 + 130 * (g 3).toNatClampNeg)), (11, .int v73), (12, .int y12_88), (13, .int y13_88), (15, .int y15_88)]) (st' := [.int y12_88, .int n70]) [(174, .iload 12)] (by decide +kernel) rfl ?_
            have hJ189 : ∀ (y12_189 : Int32) (y13_189 : Int32), ((zrw G : Int) ≤ y12_189.toInt) → (y12_189.toInt ≤ 64) → (0 ≤ y13_189.toInt) → (y13_189.toInt ≤ 101) → (y12_189.toInt ≤ (zln (zgcd (zMp (zf v96) p) (zMp (zf v96) q)) : Int)) → ((y12_189.toNatClampNeg = zln (zgcd (zMp (zf v96) p) (zMp (zf v96) q)) → zgI p q (zrw G) v96.toNatClampNeg y12_189.toNatClampNeg (y13_189.toNatClampNeg + 1)) ∧ (y12_189.toNatClampNeg < zln (zgcd (zMp (zf v96) p) (zMp (zf v96) q)) → zgI p q (zrw G) v96.toNatClampNeg y12_189.toNatClampNeg y13_189.toNatClampNeg) ∧ y13_189.toNatClampNeg < LIM) → (zgF p q F y14_88.toNatClampNeg y12_189.toNatClampNeg y13_189.toNatClampNeg) → (zgY w146 m p q (zgcd (p.1 (zrw p - 1)) (q.1 (zrw q - 1))) F y12_189.toNatClampNeg y13_189.toNatClampNeg 0) → zP (d + 1) zq_X16_gcdK 189 [(0, .ref m), (1, .ref to), (2, .ref a), (3, .ref b), (4, .int (g 1)), (5, .int (g 3)), (6, .ref (m + 276 + 2 * (g 1).toNatClampNeg)), (7, .ref (m + 276 + 2 * (g 1 + 1).toNatClampNeg)), (8, .ref (m + 276 + 2 * (g 1 + 1 + 1).toNatClampNeg)), (9, .ref (m + 276 + 2 * (g 1 + 1 + 1 + 1).toNatClampNeg)), (10, .ref (m + 596 + 130 * (g 3).toNatClampNeg)), (11, .int v73), (12, .int y12_189), (13, .int y13_189), (14, .int v96), (15, .int y15_88)] [] w146 sz 0 0 Post := by
              intro y12_189 y13_189 hi189_0 hi189_1 hi189_2 hi189_3 hi189_4 hI1 hF1 hY1
              have ky12_189 := zrng y12_189
              have ky13_189 := zrng y13_189
              refine zp_seg (pc' := 191) (lv' := [(0, .ref m), (1, .ref to), (2, .ref a), (3, .ref b), (4, .int (g 1)), (5, .int (g 3)), (6, .ref (m + 276 + 2 * (g 1).toNatClampNeg)), (7, .ref (m + 276 + 2 * (g 1 + 1).toNatClampNeg)), (8, .ref (m + 276 + 2 * (g 1 + 1 + 1).toNatClampNeg)), (9, .ref (m + 276 + 2 * (g 1 + 1 + 1 + 1).toNatClampNeg)), (10, .ref (m + 596 + 130 * (g 3).toNatClampNeg)), (11, .int v73), (12, .int y12_189), (13, .int y13_189), (14, .int v96), (15, .int y15_88)]) (st' := [.ref (m + 276 + 2 * (g 1 + 1).toNatClampNeg)]) [(189, .aload 7)] (by decide +kernel) rfl ?_
              refine zr_get (idx := 25) (k := 1) (v := .int n70) (by decide +kernel) (by decide +kernel) hu72 rfl ?_
              refine zp_seg (pc' := 196) (lv' := [(0, .ref m), (1, .ref to), (2, .ref a), (3, .ref b), (4, .int (g 1)), (5, .int (g 3)), (6, .ref (m + 276 + 2 * (g 1).toNatClampNeg)), (7, .ref (m + 276 + 2 * (g 1 + 1).toNatClampNeg)), (8, .ref (m + 276 + 2 * (g 1 + 1 + 1).toNatClampNeg)), (9, .ref (m + 276 + 2 * (g 1 + 1 + 1 + 1).toNatClampNeg)), (10, .ref (m + 596 + 130 * (g 3).toNatClampNeg)), (11, .int v73), (12, .int y12_189), (13, .int y13_189), (14, .int v96), (15, .int y15_88)]) (st' := [.int y12_189, .int n70]) [(194, .iload 12)] (by decide +kernel) rfl ?_
              have hb78 : w146 m = some (.inl (15, zMo m (zs (zs g 1 (g 1 + 1 + 1 + 1 + 1)) 3 (g 3 + 1)) r)) := (heq146 m ⟨(zx_X16_gcdK_67 hgn1_1 hgb1), (zx_X16_gcdK_70 hgn1_4 hgb1)⟩).trans hb65
              have hJ259 : ∀ (wL259 : zM) (y13_259 : Int32) (F2 : Nat → Int32), (zSI w146 wL259) → (∀ x, ((x < m + 3 ∨ m + 3 + 1 ≤ x) ∧ (x < m + 5 ∨ m + 5 + 64 ≤ x)) ∧ x ≠ m → wL259 x = w146 x) → (0 ≤ y13_259.toInt) → (y13_259.toInt ≤ 102) → (wL259 (m + 3) = some (.inr (0, 700, .inl F2))) → (wL259 m = some (.inl (15, zMo m (zs (zs g 1 (g 1 + 1 + 1 + 1 + 1)) 3 (g 3 + 1)) r))) → (zgI p q (zrw G) v96.toNatClampNeg y12_189.toNatClampNeg y13_259.toNatClampNeg ∧ y13_259.toNatClampNeg ≤ LIM) → (zgF p q F2 v96.toNatClampNeg y12_189.toNatClampNeg y13_259.toNatClampNeg) → (zgY wL259 m p q (zgcd (p.1 (zrw p - 1)) (q.1 (zrw q - 1))) F2 y12_189.toNatClampNeg y13_259.toNatClampNeg 0) → zP (d + 1) zq_X16_gcdK 259 [(0, .ref m), (1, .ref to), (2, .ref a), (3, .ref b), (4, .int (g 1)), (5, .int (g 3)), (6, .ref (m + 276 + 2 * (g 1).toNatClampNeg)), (7, .ref (m + 276 + 2 * (g 1 + 1).toNatClampNeg)), (8, .ref (m + 276 + 2 * (g 1 + 1 + 1).toNatClampNeg)), (9, .ref (m + 276 + 2 * (g 1 + 1 + 1 + 1).toNatClampNeg)), (10, .ref (m + 596 + 130 * (g 3).toNatClampNeg)), (11, .int v73), (12, .int y12_189), (13, .int y13_259), (14, .int v96), (15, .int y15_88)] [] wL259 sz 0 0 Post := by
                intro wL259 y13_259 F2 hsiL259 heqL259 hi259_0 hi259_1 hAx2 hmL259 hI2 hF2 hY3
                have ky13_259 := zrng y13_259
                refine zp_seg (pc' := 263) (lv' := [(0, .ref m), (1, .ref to), (2, .ref a), (3, .ref b), (4, .int (g 1)), (5, .int (g 3)), (6, .ref (m + 276 + 2 * (g 1).toNatClampNeg)), (7, .ref (m + 276 + 2 * (g 1 + 1).toNatClampNeg)), (8, .ref (m + 276 + 2 * (g 1 + 1 + 1).toNatClampNeg)), (9, .ref (m + 276 + 2 * (g 1 + 1 + 1 + 1).toNatClampNeg)), (10, .ref (m + 596 + 130 * (g 3).toNatClampNeg)), (11, .int v73), (12, .int y12_189), (13, .int y13_259), (14, .int v96), (15, .int y15_88)]) (st' := [.int v73, .int y13_259]) [(259, .iload 13), (261, .iload 11)] (by decide +kernel) rfl ?_
                refine zp_if (i := .if_icmp .ne (-175)) (c := ¬ y13_259 = v73) (t := 88) (e := 266) (lv' := [(0, .ref m), (1, .ref to), (2, .ref a), (3, .ref b), (4, .int (g 1)), (5, .int (g 3)), (6, .ref (m + 276 + 2 * (g 1).toNatClampNeg)), (7, .ref (m + 276 + 2 * (g 1 + 1).toNatClampNeg)), (8, .ref (m + 276 + 2 * (g 1 + 1 + 1).toNatClampNeg)), (9, .ref (m + 276 + 2 * (g 1 + 1 + 1 + 1).toNatClampNeg)), (10, .ref (m + 596 + 130 * (g 3).toNatClampNeg)), (11, .int v73), (12, .int y12_189), (13, .int y13_259), (14, .int v96), (15, .int y15_88)]) (st' := []) (by decide +kernel) rfl (fun cc263 => ?_) (fun cc263 => ?_)
                ·
                  have f79 := zneI cc263
                  have hz80 : (y12_189.toNatClampNeg : Int) = y12_189.toInt := znat (by first | omega | decide)
                  have hz81 : (y13_259.toNatClampNeg : Int) = y13_259.toInt := znat (by first | omega | decide)
                  have hb82 : zU wL259 (m + 276 + 2 * (g 1).toNatClampNeg) 1000 (zgcd (p.1 (zrw p - 1)) (q.1 (zrw q - 1))) := hUl.ag (fun x hx1 hx2 => ((heqL259 x ⟨⟨(zx_X16_gcdK_75 hx1 hx2 hgb1), (zx_X16_gcdK_76 hx1 hx2 hgb1)⟩, (zx_X16_gcdK_77 hx1 hx2 hgb1)⟩).trans ((heq146 x ⟨(zx_X16_gcdK_72 hx1 hx2 hgn1_1 hgb1), (zx_X16_gcdK_74 hx1 hx2 hgn1_4 hgb1)⟩).trans ((heq136 x (zx_X16_gcdK_73 hx1 hx2 hgn1_2 hgb1)).trans (heq128 x (zx_X16_gcdK_72 hx1 hx2 hgn1_1 hgb1))))))
                  have hb83 := hUx.si (((hsi128.tr hsi136).tr hsi146).tr hsiL259)
                  have hb84 := hb63.si ((hsi136.tr hsi146).tr hsiL259)
                  have hb85 := hUz.si (((hsi128.tr hsi136).tr hsi146).tr hsiL259)
                  have hb86 := hBo0.si (((hsi128.tr hsi136).tr hsi146).tr hsiL259)
                  exact (ih88 wL259 y12_189 y13_259 v96 y15_88 (F2) (An) ((((hsiL88.tr hsi128).tr hsi136).tr hsi146).tr hsiL259) (fun x hx => ((heqL259 x ⟨⟨hx.1.2.2.2.1, hx.1.2.2.2.2⟩, hx.2⟩).trans ((heq146 x ⟨(zx_X16_gcdK_38 hx.1.1 hgn1_1 hgb1), (zx_X16_gcdK_71 hx.1.1 hgn1_4 hgb1)⟩).trans ((heq136 x (zx_X16_gcdK_39 hx.1.1 hgn1_2 hgb1)).trans ((heq128 x (zx_X16_gcdK_38 hx.1.1 hgn1_1 hgb1)).trans (heqL88 x ⟨⟨hx.1.1, hx.1.2.1, hx.1.2.2.1, hx.1.2.2.2.1, hx.1.2.2.2.2⟩, hx.2⟩)))))) (by first | assumption | omega | decide) (by first | assumption | omega | decide) (by first | assumption | omega | decide) (by first | assumption | omega | decide) (by first | assumption | omega | decide) (by first | assumption | omega | decide) (by first | assumption | omega | decide) hb82 hb83 hb84 hb85 hAx2 (by
                        exact hb86) hmL259 (by
                        exact fun _ => ⟨hI2.1, by omega⟩) (by
                        exact fun _ => hF2) (by
                        exact fun _ => hY3) (by
                        exact fun h => absurd (cc90.symm.trans h) (by decide)) (by omega)).more (zfa1 rfl (zfa1 rfl (zfa1 rfl (zfa1 rfl (zfa1 rfl (zfa1 rfl (zfa1 rfl (zfa1 rfl (zfa1 rfl (zfa1 rfl (zfa1 rfl (zfa1 rfl (zfa1 rfl (zfa1 rfl (zfa1 rfl (zfa1 rfl (zfa0)))))))))))))))))
                ·
                  replace cc263 := Classical.not_not.mp cc263
                  have f87 := zeqI cc263
                  refine zp_seg (pc' := 269) (lv' := [(16, .int 0), (0, .ref m), (1, .ref to), (2, .ref a), (3, .ref b), (4, .int (g 1)), (5, .int (g 3)), (6, .ref (m + 276 + 2 * (g 1).toNatClampNeg)), (7, .ref (m + 276 + 2 * (g 1 + 1).toNatClampNeg)), (8, .ref (m + 276 + 2 * (g 1 + 1 + 1).toNatClampNeg)), (9, .ref (m + 276 + 2 * (g 1 + 1 + 1 + 1).toNatClampNeg)), (10, .ref (m + 596 + 130 * (g 3).toNatClampNeg)), (11, .int v73), (12, .int y12_189), (13, .int y13_259), (14, .int v96), (15, .int y15_88)]) (st' := []) [(266, .iconst 0), (267, .istore 16)] (by decide +kernel) rfl ?_
                  have hL269 : ∀ (mm269 : Nat) (wL269 : zM) (y16_269 : Int32) (T : Nat → zA1), (zSI wL259 wL269) → (∀ x, ((x < m + 276 + 2 * (g 1 + 1 + 1 + 1).toNatClampNeg ∨ m + 276 + 2 * (g 1 + 1 + 1 + 1).toNatClampNeg + (320 - 2 * (g 1 + 1 + 1 + 1).toNatClampNeg) ≤ x) ∧ (x < to + 2 ∨ to + 2 + 128 ≤ x)) ∧ x ≠ m → wL269 x = wL259 x) → (0 ≤ y16_269.toInt) → (y16_269.toInt ≤ y12_189.toInt) → (zUo wL269 (m + 276 + 2 * (g 1 + 1 + 1 + 1).toNatClampNeg) 1000) → (wL269 m = some (.inl (15, zMo m (zs (zs g 1 (g 1 + 1 + 1 + 1 + 1)) 3 (g 3 + 1)) r))) → (∀ j, j < y16_269.toNatClampNeg → zU wL269 (to + 2 + 2 * j) 200 (T j) ∧ zln (T j) ≤ y13_259.toNatClampNeg ∧ ∀ i, i < y13_259.toNatClampNeg → zVl (zf (F2 i)) (T j) = zVl (zf (F2 i)) (zgcd (p.1 (zrw p - 1)) (q.1 (zrw q - 1))) * (zgcd (zMp (zf (F2 i)) p) (zMp (zf (F2 i)) q)).1 j) → (2147483647 - y16_269.toInt).toNat < mm269 → zP (d + 1) zq_X16_gcdK 269 [(0, .ref m), (1, .ref to), (2, .ref a), (3, .ref b), (4, .int (g 1)), (5, .int (g 3)), (6, .ref (m + 276 + 2 * (g 1).toNatClampNeg)), (7, .ref (m + 276 + 2 * (g 1 + 1).toNatClampNeg)), (8, .ref (m + 276 + 2 * (g 1 + 1 + 1).toNatClampNeg)), (9, .ref (m + 276 + 2 * (g 1 + 1 + 1 + 1).toNatClampNeg)), (10, .ref (m + 596 + 130 * (g 3).toNatClampNeg)), (11, .int v73), (12, .int y12_189), (13, .int y13_259), (14, .int v96), (16, .int y16_269)] [] wL269 sz 0 0 Post := by
                    intro mm269
                    induction mm269 with
                    | zero => intros; omega
                    | succ mm269 ih269 =>
                    intro wL269 y16_269 T hsiL269 heqL269 hi269_0 hi269_1 hUz3 hmL269 hT hmu269
                    have ky16_269 := zrng y16_269
                    refine zp_seg (pc' := 273) (lv' := [(0, .ref m), (1, .ref to), (2, .ref a), (3, .ref b), (4, .int (g 1)), (5, .int (g 3)), (6, .ref (m + 276 + 2 * (g 1).toNatClampNeg)), (7, .ref (m + 276 + 2 * (g 1 + 1).toNatClampNeg)), (8, .ref (m + 276 + 2 * (g 1 + 1 + 1).toNatClampNeg)), (9, .ref (m + 276 + 2 * (g 1 + 1 + 1 + 1).toNatClampNeg)), (10, .ref (m + 596 + 130 * (g 3).toNatClampNeg)), (11, .int v73), (12, .int y12_189), (13, .int y13_259), (14, .int v96), (16, .int y16_269)]) (st' := [.int y12_189, .int y16_269]) [(269, .iload 16), (271, .iload 12)] (by decide +kernel) rfl ?_
                    refine zp_if (i := .if_icmp .ge 36) (c := y12_189 ≤ y16_269) (t := 309) (e := 276) (lv' := [(0, .ref m), (1, .ref to), (2, .ref a), (3, .ref b), (4, .int (g 1)), (5, .int (g 3)), (6, .ref (m + 276 + 2 * (g 1).toNatClampNeg)), (7, .ref (m + 276 + 2 * (g 1 + 1).toNatClampNeg)), (8, .ref (m + 276 + 2 * (g 1 + 1 + 1).toNatClampNeg)), (9, .ref (m + 276 + 2 * (g 1 + 1 + 1 + 1).toNatClampNeg)), (10, .ref (m + 596 + 130 * (g 3).toNatClampNeg)), (11, .int v73), (12, .int y12_189), (13, .int y13_259), (14, .int v96), (16, .int y16_269)]) (st' := []) (by decide +kernel) rfl (fun cc273 => ?_) (fun cc273 => ?_)
                    ·
                      have f88 := zleI cc273
                      refine zp_seg (pc' := 312) (lv' := [(0, .ref m), (1, .ref to), (2, .ref a), (3, .ref b), (4, .int (g 1)), (5, .int (g 3)), (6, .ref (m + 276 + 2 * (g 1).toNatClampNeg)), (7, .ref (m + 276 + 2 * (g 1 + 1).toNatClampNeg)), (8, .ref (m + 276 + 2 * (g 1 + 1 + 1).toNatClampNeg)), (9, .ref (m + 276 + 2 * (g 1 + 1 + 1 + 1).toNatClampNeg)), (10, .ref (m + 596 + 130 * (g 3).toNatClampNeg)), (11, .int v73), (12, .int y12_189), (13, .int y13_259), (14, .int v96), (16, .int y16_269)]) (st' := [.int y12_189, .ref to]) [(309, .aload_n 1), (310, .iload 12)] (by decide +kernel) rfl ?_
                      have hb94 := hBo_to.si (((((((((((hsi13.tr hsi29).tr hsi33).tr hsi39).tr hsi45).tr hsi51).tr hsiL88).tr hsi128).tr hsi136).tr hsi146).tr hsiL259).tr hsiL269)
                      obtain ⟨n89, hb90, hb91, -⟩ := id hb94
                      have kn89 := zrng n89
                      refine zr_put2 (idx := 93) (k := 1) (fs2 := [.ref (to + 1), .int y12_189]) (by decide +kernel) (by decide +kernel) hb90 (Nat.le_of_ble_eq_true rfl) rfl rfl rfl ?_
                      show zP (d + 1) zq_X16_gcdK 315 [(0, .ref m), (1, .ref to), (2, .ref a), (3, .ref b), (4, .int (g 1)), (5, .int (g 3)), (6, .ref (m + 276 + 2 * (g 1).toNatClampNeg)), (7, .ref (m + 276 + 2 * (g 1 + 1).toNatClampNeg)), (8, .ref (m + 276 + 2 * (g 1 + 1 + 1).toNatClampNeg)), (9, .ref (m + 276 + 2 * (g 1 + 1 + 1 + 1).toNatClampNeg)), (10, .ref (m + 596 + 130 * (g 3).toNatClampNeg)), (11, .int v73), (12, .int y12_189), (13, .int y13_259), (14, .int v96), (16, .int y16_269)] [] (zup wL269 to (.inl (11, [.ref (to + 1), .int y12_189]))) sz 0 0 Post
                      obtain ⟨w312, ew312⟩ : ∃ wz9, wz9 = zup wL269 to (.inl (11, [.ref (to + 1), .int y12_189])) := ⟨_, rfl⟩
                      have hsi312 : zSI wL269 w312 := by rw [ew312]; exact zSI.setB hb90
                      have heq312 : ∀ x, x ≠ to → w312 x = wL269 x := fun x hx => by rw [ew312]; exact zup_n hx
                      have hc312 : w312 to = some (.inl (11, [.ref (to + 1), .int y12_189])) := by rw [ew312]; exact zup_s
                      rw [← ew312]
                      clear ew312
                      have hz95 : (y12_189.toNatClampNeg : Int) = y12_189.toInt := znat (by first | omega | decide)
                      have hz96 : (y16_269.toNatClampNeg : Int) = y16_269.toInt := znat (by first | omega | decide)
                      have hb97 := hb94.si hsi312
                      have hBn9 : zBw w312 to y12_189.toNatClampNeg (zbOf T y12_189.toNatClampNeg) := zBw.mk hb97 hc312 (by omega) (by omega) (fun j hj => by
                        rw [zbOf_y hj]
                        exact (hT j (by omega)).1.ag (fun x g1 g2 => (heq312 x (by omega)))) (fun j hj => zbOf_n hj)
                      refine zp_seg (pc' := 316) (lv' := [(0, .ref m), (1, .ref to), (2, .ref a), (3, .ref b), (4, .int (g 1)), (5, .int (g 3)), (6, .ref (m + 276 + 2 * (g 1).toNatClampNeg)), (7, .ref (m + 276 + 2 * (g 1 + 1).toNatClampNeg)), (8, .ref (m + 276 + 2 * (g 1 + 1 + 1).toNatClampNeg)), (9, .ref (m + 276 + 2 * (g 1 + 1 + 1 + 1).toNatClampNeg)), (10, .ref (m + 596 + 130 * (g 3).toNatClampNeg)), (11, .int v73), (12, .int y12_189), (13, .int y13_259), (14, .int v96), (16, .int y16_269)]) (st' := [.ref to]) [(315, .aload_n 1)] (by decide +kernel) rfl ?_
                      refine zr_callV (idx := 105) (j := 244) (by decide +kernel) (by decide +kernel) (show zMe 244 = some zq_X12_trim from rfl) rfl rfl (Nat.le_of_ble_eq_true rfl) rfl rfl hc312 (Nat.le_of_ble_eq_true rfl) (Nat.le_of_ble_eq_true rfl) (c_X12_trim (w := w312) to hBn9) (by omega) (fun v316 w316 hp316 => ?_)
                      obtain ⟨hsi316, heq316, hp316_0, rfl⟩ := hp316
                      show zP _ _ _ _ [] _ _ _ _ _
                      have hz98 : (y13_259.toNatClampNeg : Int) = y13_259.toInt := znat (by first | omega | decide)
                      have hgo9 := zgB_go (l := zgcd (p.1 (zrw p - 1)) (q.1 (zrw q - 1))) (F := F2) (T := T) hpf hqg hf0 hg0 hG0 hr0 hr9 rfl (show y13_259.toNatClampNeg = _ by
                        have h9 := hLIM.o
                        omega) hF2 (show 0 < y12_189.toNatClampNeg by omega) (fun j hj => (hT j (by omega)).2)
                      have hH0 : 0 < zrw (zprim (zbOf T y12_189.toNatClampNeg)) := by rw [zprim_rw, hgo9.1]; omega
                      have hHd := zprim_dn (zbOf T y12_189.toNatClampNeg)
                      have hHe : zdn (zbOf T y12_189.toNatClampNeg) ≤ 100 := zbOf_dn (fun j hj => by have h9 := (hT j (by omega)).2.1; omega)
                      refine zp_seg (pc' := 324) (lv' := [(0, .ref m), (1, .ref to), (2, .ref a), (3, .ref b), (4, .int (g 1)), (5, .int (g 3)), (6, .ref (m + 276 + 2 * (g 1).toNatClampNeg)), (7, .ref (m + 276 + 2 * (g 1 + 1).toNatClampNeg)), (8, .ref (m + 276 + 2 * (g 1 + 1 + 1).toNatClampNeg)), (9, .ref (m + 276 + 2 * (g 1 + 1 + 1 + 1).toNatClampNeg)), (10, .ref (m + 596 + 130 * (g 3).toNatClampNeg)), (11, .int v73), (12, .int y12_189), (13, .int y13_259), (14, .int v96), (16, .int y16_269)]) (st' := [.ref (m + 276 + 2 * (g 1 + 1 + 1 + 1).toNatClampNeg), .ref to, .ref to, .ref m]) [(319, .aload_n 0), (320, .aload_n 1), (321, .aload_n 1), (322, .aload 9)] (by decide +kernel) rfl ?_
                      have hb99 : w316 m = some (.inl (15, zMo m (zs (zs g 1 (g 1 + 1 + 1 + 1 + 1)) 3 (g 3 + 1)) r)) := ((heq316 m (zx_X16_gcdK_79 hmt hgb3)).trans (heq312 m (zx_X16_gcdK_78 hmt hgb3))).trans hmL269
                      have hb100 := hb68.si ((((hsi146.tr hsiL259).tr hsiL269).tr hsi312).tr hsi316)
                      have ho324_to := zB.o hp316_0
                      have hb101 := hUz3.si (hsi312.tr hsi316)
                      refine zr_callV (idx := 167) (j := 285) (by decide +kernel) (by decide +kernel) (show zMe 285 = some zq_X16_primitive from rfl) rfl rfl (Nat.le_of_ble_eq_true rfl) rfl rfl hb99 (Nat.le_of_ble_eq_true rfl) (Nat.le_of_ble_eq_true rfl) (c_X16_primitive (w := w316) (g1 := (g 1 + 1 + 1 + 1 + 1)) m to to (m + 276 + 2 * (g 1 + 1 + 1 + 1).toNatClampNeg) hb99 hb100 ho324_to hp316_0 hb101 (by first | omega | decide | assumption | exact zr1_1 | exact zr1_0) (by first | omega | decide | assumption | exact zr1_1 | exact zr1_0) (by first | omega | decide | assumption | exact zr1_1 | exact zr1_0) (by first | omega | decide | assumption | exact zr1_1 | exact zr1_0) (by first | omega | decide | assumption | exact zr1_1 | exact zr1_0) (by first | omega | decide | assumption | exact zr1_1 | exact zr1_0) (by first | omega | decide | assumption | exact zr1_1 | exact zr1_0) (by first | omega | decide | assumption | exact zr1_1 | exact zr1_0) rfl) (by omega) (fun v324 w324 hp324 => ?_)
                      obtain ⟨hsi324, heq324, hp324_0, hp324_1, rfl⟩ := hp324
                      show zP _ _ _ _ [] _ _ _ _ _
                      refine zp_seg (pc' := 332) (lv' := [(0, .ref m), (1, .ref to), (2, .ref a), (3, .ref b), (4, .int (g 1)), (5, .int (g 3)), (6, .ref (m + 276 + 2 * (g 1).toNatClampNeg)), (7, .ref (m + 276 + 2 * (g 1 + 1).toNatClampNeg)), (8, .ref (m + 276 + 2 * (g 1 + 1 + 1).toNatClampNeg)), (9, .ref (m + 276 + 2 * (g 1 + 1 + 1 + 1).toNatClampNeg)), (10, .ref (m + 596 + 130 * (g 3).toNatClampNeg)), (11, .int v73), (12, .int y12_189), (13, .int y13_259), (14, .int v96), (16, .int y16_269)]) (st' := [.ref to, .ref a, .ref (m + 596 + 130 * (g 3).toNatClampNeg), .ref m]) [(327, .aload_n 0), (328, .aload 10), (330, .aload_n 2), (331, .aload_n 1)] (by decide +kernel) rfl ?_
                      have hb102 : w324 m = some (.inl (15, zMo m (zs (zs g 1 (g 1 + 1 + 1 + 1 + 1)) 3 (g 3 + 1)) r)) := (heq324 m ⟨(zx_X16_gcdK_80 hmt hgb3), (zx_X16_gcdK_81 hgn1_3 hgb1), (zx_X16_gcdK_70 hgn1_4 hgb1)⟩).trans hb99
                      have k103 := zaddC (g 3) 1 (n := 1) (by decide) (by omega) (by omega)
                      have hz104 : ((g 3 + 1).toNatClampNeg : Int) = (g 3 + 1).toInt := znat (by first | omega | decide)
                      have hgn3_1 : (g 3 + 1).toNatClampNeg = (g 3).toNatClampNeg + 1 := by omega
                      have hb105 := hb100.si hsi324
                      have hb106 := hBo0.si (((((((hsi128.tr hsi136).tr hsi146).tr hsiL259).tr hsiL269).tr hsi312).tr hsi316).tr hsi324)
                      have hb107 : zB w324 a p := hb54.ag (fun x hx1 hx2 => ((heq324 x ⟨(zx_X16_gcdK_45 hx1 hx2 hta hmt hma hgb3), (zx_X16_gcdK_9 hx1 hx2 hma hgn1_3 hgb1 hgb3), (zx_X16_gcdK_82 hx1 hx2 hma hgn1_4 hgb1 hgb3)⟩).trans ((heq316 x (zx_X16_gcdK_86 hx1 hx2 hta hmt hma hgb3)).trans ((heq312 x (zx_X16_gcdK_85 hx1 hx2 hta hmt hma hgb3)).trans ((heqL269 x ⟨⟨(zx_X16_gcdK_83 hx1 hx2 hma hgn1_3 hgb1 hgb3), (zx_X16_gcdK_84 hx1 hx2 hta hmt hma hgb3)⟩, (zx_X16_gcdK_48 hx1 hx2 hma hgb3)⟩).trans ((heqL259 x ⟨⟨(zx_X16_gcdK_46 hx1 hx2 hma hgb3), (zx_X16_gcdK_47 hx1 hx2 hma hgb3)⟩, (zx_X16_gcdK_48 hx1 hx2 hma hgb3)⟩).trans ((heq146 x ⟨(zx_X16_gcdK_7 hx1 hx2 hma hgn1_1 hgb1 hgb3), (zx_X16_gcdK_82 hx1 hx2 hma hgn1_4 hgb1 hgb3)⟩).trans ((heq136 x (zx_X16_gcdK_8 hx1 hx2 hma hgn1_2 hgb1 hgb3)).trans (heq128 x (zx_X16_gcdK_7 hx1 hx2 hma hgn1_1 hgb1 hgb3))))))))))
                      refine zr_callV (idx := 170) (j := 288) (by decide +kernel) (by decide +kernel) (show zMe 288 = some zq_X16_divides from rfl) rfl rfl (Nat.le_of_ble_eq_true rfl) rfl rfl hb102 (Nat.le_of_ble_eq_true rfl) (Nat.le_of_ble_eq_true rfl) (c_X16_divides (w := w324) (g1 := (g 1 + 1 + 1 + 1 + 1)) (g3 := (g 3 + 1)) m (m + 596 + 130 * (g 3).toNatClampNeg) a to hb102 hb105 hb106 hb107 hp324_0 (by first | omega | decide | assumption | exact zr1_1 | exact zr1_0) (by first | omega | decide | assumption | exact zr1_1 | exact zr1_0) (by first | omega | decide | assumption | exact zr1_1 | exact zr1_0) (by first | omega | decide | assumption | exact zr1_1 | exact zr1_0) (by first | omega | decide | assumption | exact zr1_1 | exact zr1_0) (by first | omega | decide | assumption | exact zr1_1 | exact zr1_0) (by first | omega | decide | assumption | exact zr1_1 | exact zr1_0) (by first | omega | decide | assumption | exact zr1_1 | exact zr1_0) (by first | omega | decide | assumption | exact zr1_1 | exact zr1_0) rfl rfl) (by omega) (fun v332 w332 hp332 => ?_)
                      obtain ⟨Q_332, hsi332, heq332, hp332_0, r332, rfl, hrb332, hr332⟩ := hp332
                      have kr332 := zrng r332
                      show zP _ _ _ _ [.int r332] _ _ _ _ _
                      refine zp_if (i := .ifCond .eq 18) (c := r332 = 0) (t := 353) (e := 338) (lv' := [(0, .ref m), (1, .ref to), (2, .ref a), (3, .ref b), (4, .int (g 1)), (5, .int (g 3)), (6, .ref (m + 276 + 2 * (g 1).toNatClampNeg)), (7, .ref (m + 276 + 2 * (g 1 + 1).toNatClampNeg)), (8, .ref (m + 276 + 2 * (g 1 + 1 + 1).toNatClampNeg)), (9, .ref (m + 276 + 2 * (g 1 + 1 + 1 + 1).toNatClampNeg)), (10, .ref (m + 596 + 130 * (g 3).toNatClampNeg)), (11, .int v73), (12, .int y12_189), (13, .int y13_259), (14, .int v96), (16, .int y16_269)]) (st' := []) (by decide +kernel) rfl (fun cc335 => ?_) (fun cc335 => ?_)
                      ·
                        have f108 := zeqI cc335
                        rw [show (0 : Int32).toInt = 0 from by decide] at f108
                        refine zp_seg (pc' := 361) (lv' := [(13, .int 0), (15, .int 0), (0, .ref m), (1, .ref to), (2, .ref a), (3, .ref b), (4, .int (g 1)), (5, .int (g 3)), (6, .ref (m + 276 + 2 * (g 1).toNatClampNeg)), (7, .ref (m + 276 + 2 * (g 1 + 1).toNatClampNeg)), (8, .ref (m + 276 + 2 * (g 1 + 1 + 1).toNatClampNeg)), (9, .ref (m + 276 + 2 * (g 1 + 1 + 1 + 1).toNatClampNeg)), (10, .ref (m + 596 + 130 * (g 3).toNatClampNeg)), (11, .int v73), (12, .int y12_189), (14, .int v96), (16, .int y16_269)]) (st' := [.int 0]) [(353, .iconst 0), (354, .istore 15), (356, .iconst 0), (357, .istore 13), (359, .iload 15)] (by decide +kernel) rfl ?_
                        refine zp_pure (pc' := 369) (lv' := [(13, .int 0), (15, .int 0), (0, .ref m), (1, .ref to), (2, .ref a), (3, .ref b), (4, .int (g 1)), (5, .int (g 3)), (6, .ref (m + 276 + 2 * (g 1).toNatClampNeg)), (7, .ref (m + 276 + 2 * (g 1 + 1).toNatClampNeg)), (8, .ref (m + 276 + 2 * (g 1 + 1 + 1).toNatClampNeg)), (9, .ref (m + 276 + 2 * (g 1 + 1 + 1 + 1).toNatClampNeg)), (10, .ref (m + 596 + 130 * (g 3).toNatClampNeg)), (11, .int v73), (12, .int y12_189), (14, .int v96), (16, .int y16_269)]) (st' := []) (i := .ifCond .eq 8) (by decide +kernel) rfl ?_
                        refine zp_seg (pc' := 88) (lv' := [(12, .int 65), (13, .int 0), (15, .int 0), (0, .ref m), (1, .ref to), (2, .ref a), (3, .ref b), (4, .int (g 1)), (5, .int (g 3)), (6, .ref (m + 276 + 2 * (g 1).toNatClampNeg)), (7, .ref (m + 276 + 2 * (g 1 + 1).toNatClampNeg)), (8, .ref (m + 276 + 2 * (g 1 + 1 + 1).toNatClampNeg)), (9, .ref (m + 276 + 2 * (g 1 + 1 + 1 + 1).toNatClampNeg)), (10, .ref (m + 596 + 130 * (g 3).toNatClampNeg)), (11, .int v73), (14, .int v96), (16, .int y16_269)]) (st' := []) [(369, .bipush 65), (371, .istore 12), (373, .goto (-285))] (by decide +kernel) rfl ?_
                        have hl109 : (65 : Int32).toInt = 65 := by decide
                        have hl110 : (0 : Int32).toInt = 0 := by decide
                        have hz111 : ((65 : Int32).toNatClampNeg : Int) = 65 := by decide
                        have hz112 : ((0 : Int32).toNatClampNeg : Int) = 0 := by decide
                        have hb113 : zU w332 (m + 276 + 2 * (g 1).toNatClampNeg) 1000 (zgcd (p.1 (zrw p - 1)) (q.1 (zrw q - 1))) := hUl.ag (fun x hx1 hx2 => ((heq332 x ⟨(zx_X16_gcdK_98 hx1 hx2 hgb1 hgb3), (zx_X16_gcdK_74 hx1 hx2 hgn1_4 hgb1), (zx_X16_gcdK_99 hx1 hx2 hgn3_1 hgb1 hgb3)⟩).trans ((heq324 x ⟨(zx_X16_gcdK_96 hx1 hx2 hmt hgb1 hgb3), (zx_X16_gcdK_97 hx1 hx2 hgn1_3 hgb1), (zx_X16_gcdK_74 hx1 hx2 hgn1_4 hgb1)⟩).trans ((heq316 x (zx_X16_gcdK_95 hx1 hx2 hmt hgb1 hgb3)).trans ((heq312 x (zx_X16_gcdK_94 hx1 hx2 hmt hgb1 hgb3)).trans ((heqL269 x ⟨⟨(zx_X16_gcdK_92 hx1 hx2 hgn1_3 hgb1), (zx_X16_gcdK_93 hx1 hx2 hmt hgb1 hgb3)⟩, (zx_X16_gcdK_77 hx1 hx2 hgb1)⟩).trans ((heqL259 x ⟨⟨(zx_X16_gcdK_75 hx1 hx2 hgb1), (zx_X16_gcdK_76 hx1 hx2 hgb1)⟩, (zx_X16_gcdK_77 hx1 hx2 hgb1)⟩).trans ((heq146 x ⟨(zx_X16_gcdK_72 hx1 hx2 hgn1_1 hgb1), (zx_X16_gcdK_74 hx1 hx2 hgn1_4 hgb1)⟩).trans ((heq136 x (zx_X16_gcdK_73 hx1 hx2 hgn1_2 hgb1)).trans (heq128 x (zx_X16_gcdK_72 hx1 hx2 hgn1_1 hgb1)))))))))))
                        have hb114 := hUx.si ((((((((hsi128.tr hsi136).tr hsi146).tr hsiL259).tr hsiL269).tr hsi312).tr hsi316).tr hsi324).tr hsi332)
                        have hb115 := hb63.si (((((((hsi136.tr hsi146).tr hsiL259).tr hsiL269).tr hsi312).tr hsi316).tr hsi324).tr hsi332)
                        have hb116 := hb101.si (hsi324.tr hsi332)
                        have hb117 : w332 (m + 3) = some (.inr (0, 700, .inl F2)) := ((heq332 (m + 3) ⟨(zx_X16_gcdK_108 hgb3), (zx_X16_gcdK_107 hgn1_4 hgb1), (zx_X16_gcdK_109 hgn3_1 hgb3)⟩).trans ((heq324 (m + 3) ⟨(zx_X16_gcdK_105 hmt hgb3), (zx_X16_gcdK_106 hgn1_3 hgb1), (zx_X16_gcdK_107 hgn1_4 hgb1)⟩).trans ((heq316 (m + 3) (zx_X16_gcdK_104 hmt hgb3)).trans ((heq312 (m + 3) (zx_X16_gcdK_103 hmt hgb3)).trans (heqL269 (m + 3) ⟨⟨(zx_X16_gcdK_100 hgn1_3 hgb1), (zx_X16_gcdK_101 hmt hgb3)⟩, (zx_X16_gcdK_102)⟩))))).trans hAx2
                        have hb118 := hb106.si hsi332
                        have hb119 : w332 m = some (.inl (15, zMo m (zs (zs g 1 (g 1 + 1 + 1 + 1 + 1)) 3 (g 3 + 1)) r)) := (heq332 m ⟨(zx_X16_gcdK_110 hgb3), (zx_X16_gcdK_70 hgn1_4 hgb1), (zx_X16_gcdK_111 hgn3_1 hgb3)⟩).trans hb102
                        have hb120 := hb105.si hsi332
                        exact (ih88 w332 65 0 v96 0 (F2) (An) (((((((((hsiL88.tr hsi128).tr hsi136).tr hsi146).tr hsiL259).tr hsiL269).tr hsi312).tr hsi316).tr hsi324).tr hsi332) (fun x hx => ((heq332 x ⟨(zx_X16_gcdK_41 hx.1.2.1 hx.1.2.2.2.2 hgb3), (zx_X16_gcdK_71 hx.1.1 hgn1_4 hgb1), (zx_X16_gcdK_91 hx.1.2.1 hx.1.2.2.2.2 hgn3_1 hgb3)⟩).trans ((heq324 x ⟨hx.1.2.2.1, (zx_X16_gcdK_40 hx.1.1 hgn1_3 hgb1), (zx_X16_gcdK_71 hx.1.1 hgn1_4 hgb1)⟩).trans ((heq316 x (zx_X16_gcdK_90 hx.1.2.2.1 hmt hgb3)).trans ((heq312 x (zx_X16_gcdK_89 hx.1.2.2.1 hmt hgb3)).trans ((heqL269 x ⟨⟨(zx_X16_gcdK_87 hx.1.1 hgn1_3 hgb1), (zx_X16_gcdK_88 hx.1.2.2.1 hmt hgb3)⟩, hx.2⟩).trans ((heqL259 x ⟨⟨hx.1.2.2.2.1, hx.1.2.2.2.2⟩, hx.2⟩).trans ((heq146 x ⟨(zx_X16_gcdK_38 hx.1.1 hgn1_1 hgb1), (zx_X16_gcdK_71 hx.1.1 hgn1_4 hgb1)⟩).trans ((heq136 x (zx_X16_gcdK_39 hx.1.1 hgn1_2 hgb1)).trans ((heq128 x (zx_X16_gcdK_38 hx.1.1 hgn1_1 hgb1)).trans (heqL88 x ⟨⟨hx.1.1, hx.1.2.1, hx.1.2.2.1, hx.1.2.2.2.1, hx.1.2.2.2.2⟩, hx.2⟩))))))))))) (by first | assumption | omega | decide) (by first | assumption | omega | decide) (by first | assumption | omega | decide) (by first | assumption | omega | decide) (by first | assumption | omega | decide) (by first | assumption | omega | decide) (by first | assumption | omega | decide) hb113 hb114 hb115 hb116 hb117 (by
                              exact hb118) hb119 (by
                              intro _
                              rw [show (65 : Int32).toNatClampNeg = 65 from by decide, show (0 : Int32).toNatClampNeg = 0 from by decide]
                              refine ⟨zgI_f hI2.1 (fun e => ?_) (by omega), by omega⟩
                              first
                              | (obtain ⟨c9, hc9⟩ := (hgo9.2.1 e).1
                                 exact absurd (cc335.symm.trans (hr332.2 ⟨c9, hc9, zdvb hp0 hH0 hpd hc9⟩)) (by decide))
                              | (obtain ⟨c9, hc9⟩ := (hgo9.2.1 e).2
                                 exact absurd (cc346.symm.trans (hr343.2 ⟨c9, hc9, zdvb hq0 hH0 hqd hc9⟩)) (by decide))) (by
                              exact fun _ => zgF_0 p q _ _ _) (by
                              exact fun _ => zgY_0 hb120) (by
                              exact fun h => absurd h (by decide)) (by omega)).more (zfa1 rfl (zfa1 rfl (zfa1 rfl (zfa1 rfl (zfa1 rfl (zfa1 rfl (zfa1 rfl (zfa1 rfl (zfa1 rfl (zfa1 rfl (zfa1 rfl (zfa1 rfl (zfa1 rfl (zfa1 rfl (zfa1 rfl (zfa1 rfl (zfa0)))))))))))))))))
                      ·
                        have f121 := zneI cc335
                        rw [show (0 : Int32).toInt = 0 from by decide] at f121
                        refine zp_seg (pc' := 343) (lv' := [(0, .ref m), (1, .ref to), (2, .ref a), (3, .ref b), (4, .int (g 1)), (5, .int (g 3)), (6, .ref (m + 276 + 2 * (g 1).toNatClampNeg)), (7, .ref (m + 276 + 2 * (g 1 + 1).toNatClampNeg)), (8, .ref (m + 276 + 2 * (g 1 + 1 + 1).toNatClampNeg)), (9, .ref (m + 276 + 2 * (g 1 + 1 + 1 + 1).toNatClampNeg)), (10, .ref (m + 596 + 130 * (g 3).toNatClampNeg)), (11, .int v73), (12, .int y12_189), (13, .int y13_259), (14, .int v96), (16, .int y16_269)]) (st' := [.ref to, .ref b, .ref (m + 596 + 130 * (g 3).toNatClampNeg), .ref m]) [(338, .aload_n 0), (339, .aload 10), (341, .aload_n 3), (342, .aload_n 1)] (by decide +kernel) rfl ?_
                        have hb122 : w332 m = some (.inl (15, zMo m (zs (zs g 1 (g 1 + 1 + 1 + 1 + 1)) 3 (g 3 + 1)) r)) := (heq332 m ⟨(zx_X16_gcdK_110 hgb3), (zx_X16_gcdK_70 hgn1_4 hgb1), (zx_X16_gcdK_111 hgn3_1 hgb3)⟩).trans hb102
                        have hb123 := hb105.si hsi332
                        have ho343_q := zB.o hp332_0
                        have hb124 : zB w332 b q := hb64.ag (fun x hx1 hx2 => ((heq332 x ⟨(zx_X16_gcdK_22 hx1 hx2 hmb hgb3), (zx_X16_gcdK_112 hx1 hx2 hmb hgn1_4 hgb1 hgb3), (zx_X16_gcdK_117 hx1 hx2 hmb hgn3_1 hgb3)⟩).trans ((heq324 x ⟨(zx_X16_gcdK_57 hx1 hx2 htb hmt hmb hgb3), (zx_X16_gcdK_21 hx1 hx2 hmb hgn1_3 hgb1 hgb3), (zx_X16_gcdK_112 hx1 hx2 hmb hgn1_4 hgb1 hgb3)⟩).trans ((heq316 x (zx_X16_gcdK_116 hx1 hx2 htb hmt hmb hgb3)).trans ((heq312 x (zx_X16_gcdK_115 hx1 hx2 htb hmt hmb hgb3)).trans ((heqL269 x ⟨⟨(zx_X16_gcdK_113 hx1 hx2 hmb hgn1_3 hgb1 hgb3), (zx_X16_gcdK_114 hx1 hx2 htb hmt hmb hgb3)⟩, (zx_X16_gcdK_60 hx1 hx2 hmb hgb3)⟩).trans ((heqL259 x ⟨⟨(zx_X16_gcdK_58 hx1 hx2 hmb hgb3), (zx_X16_gcdK_59 hx1 hx2 hmb hgb3)⟩, (zx_X16_gcdK_60 hx1 hx2 hmb hgb3)⟩).trans ((heq146 x ⟨(zx_X16_gcdK_19 hx1 hx2 hmb hgn1_1 hgb1 hgb3), (zx_X16_gcdK_112 hx1 hx2 hmb hgn1_4 hgb1 hgb3)⟩).trans (heq136 x (zx_X16_gcdK_20 hx1 hx2 hmb hgn1_2 hgb1 hgb3))))))))))
                        have hb125 : zB w332 to (zprim (zbOf T y12_189.toNatClampNeg)) := hp324_0.ag (fun x hx1 hx2 => (heq332 x ⟨(zx_X16_gcdK_118 hx1 hx2 hmt hgb3), (zx_X16_gcdK_119 hx1 hx2 hmt hgn1_4 hgb1 hgb3), (zx_X16_gcdK_120 hx1 hx2 hmt hgn3_1 hgb3)⟩))
                        refine zr_callV (idx := 170) (j := 288) (by decide +kernel) (by decide +kernel) (show zMe 288 = some zq_X16_divides from rfl) rfl rfl (Nat.le_of_ble_eq_true rfl) rfl rfl hb122 (Nat.le_of_ble_eq_true rfl) (Nat.le_of_ble_eq_true rfl) (c_X16_divides (w := w332) (g1 := (g 1 + 1 + 1 + 1 + 1)) (g3 := (g 3 + 1)) m (m + 596 + 130 * (g 3).toNatClampNeg) b to hb122 hb123 ho343_q hb124 hb125 (by first | omega | decide | assumption | exact zr1_1 | exact zr1_0) (by first | omega | decide | assumption | exact zr1_1 | exact zr1_0) (by first | omega | decide | assumption | exact zr1_1 | exact zr1_0) (by first | omega | decide | assumption | exact zr1_1 | exact zr1_0) (by first | omega | decide | assumption | exact zr1_1 | exact zr1_0) (by first | omega | decide | assumption | exact zr1_1 | exact zr1_0) (by first | omega | decide | assumption | exact zr1_1 | exact zr1_0) (by first | omega | decide | assumption | exact zr1_1 | exact zr1_0) (by first | omega | decide | assumption | exact zr1_1 | exact zr1_0) rfl rfl) (by omega) (fun v343 w343 hp343 => ?_)
                        obtain ⟨Q_343, hsi343, heq343, hp343_0, r343, rfl, hrb343, hr343⟩ := hp343
                        have kr343 := zrng r343
                        show zP _ _ _ _ [.int r343] _ _ _ _ _
                        refine zp_if (i := .ifCond .eq 7) (c := r343 = 0) (t := 353) (e := 349) (lv' := [(0, .ref m), (1, .ref to), (2, .ref a), (3, .ref b), (4, .int (g 1)), (5, .int (g 3)), (6, .ref (m + 276 + 2 * (g 1).toNatClampNeg)), (7, .ref (m + 276 + 2 * (g 1 + 1).toNatClampNeg)), (8, .ref (m + 276 + 2 * (g 1 + 1 + 1).toNatClampNeg)), (9, .ref (m + 276 + 2 * (g 1 + 1 + 1 + 1).toNatClampNeg)), (10, .ref (m + 596 + 130 * (g 3).toNatClampNeg)), (11, .int v73), (12, .int y12_189), (13, .int y13_259), (14, .int v96), (16, .int y16_269)]) (st' := []) (by decide +kernel) rfl (fun cc346 => ?_) (fun cc346 => ?_)
                        ·
                          have f126 := zeqI cc346
                          rw [show (0 : Int32).toInt = 0 from by decide] at f126
                          refine zp_seg (pc' := 361) (lv' := [(13, .int 0), (15, .int 0), (0, .ref m), (1, .ref to), (2, .ref a), (3, .ref b), (4, .int (g 1)), (5, .int (g 3)), (6, .ref (m + 276 + 2 * (g 1).toNatClampNeg)), (7, .ref (m + 276 + 2 * (g 1 + 1).toNatClampNeg)), (8, .ref (m + 276 + 2 * (g 1 + 1 + 1).toNatClampNeg)), (9, .ref (m + 276 + 2 * (g 1 + 1 + 1 + 1).toNatClampNeg)), (10, .ref (m + 596 + 130 * (g 3).toNatClampNeg)), (11, .int v73), (12, .int y12_189), (14, .int v96), (16, .int y16_269)]) (st' := [.int 0]) [(353, .iconst 0), (354, .istore 15), (356, .iconst 0), (357, .istore 13), (359, .iload 15)] (by decide +kernel) rfl ?_
                          refine zp_pure (pc' := 369) (lv' := [(13, .int 0), (15, .int 0), (0, .ref m), (1, .ref to), (2, .ref a), (3, .ref b), (4, .int (g 1)), (5, .int (g 3)), (6, .ref (m + 276 + 2 * (g 1).toNatClampNeg)), (7, .ref (m + 276 + 2 * (g 1 + 1).toNatClampNeg)), (8, .ref (m + 276 + 2 * (g 1 + 1 + 1).toNatClampNeg)), (9, .ref (m + 276 + 2 * (g 1 + 1 + 1 + 1).toNatClampNeg)), (10, .ref (m + 596 + 130 * (g 3).toNatClampNeg)), (11, .int v73), (12, .int y12_189), (14, .int v96), (16, .int y16_269)]) (st' := []) (i := .ifCond .eq 8) (by decide +kernel) rfl ?_
                          refine zp_seg (pc' := 88) (lv' := [(12, .int 65), (13, .int 0), (15, .int 0), (0, .ref m), (1, .ref to), (2, .ref a), (3, .ref b), (4, .int (g 1)), (5, .int (g 3)), (6, .ref (m + 276 + 2 * (g 1).toNatClampNeg)), (7, .ref (m + 276 + 2 * (g 1 + 1).toNatClampNeg)), (8, .ref (m + 276 + 2 * (g 1 + 1 + 1).toNatClampNeg)), (9, .ref (m + 276 + 2 * (g 1 + 1 + 1 + 1).toNatClampNeg)), (10, .ref (m + 596 + 130 * (g 3).toNatClampNeg)), (11, .int v73), (14, .int v96), (16, .int y16_269)]) (st' := []) [(369, .bipush 65), (371, .istore 12), (373, .goto (-285))] (by decide +kernel) rfl ?_
                          have hl127 : (65 : Int32).toInt = 65 := by decide
                          have hl128 : (0 : Int32).toInt = 0 := by decide
                          have hz129 : ((65 : Int32).toNatClampNeg : Int) = 65 := by decide
                          have hz130 : ((0 : Int32).toNatClampNeg : Int) = 0 := by decide
                          have hb131 : zU w343 (m + 276 + 2 * (g 1).toNatClampNeg) 1000 (zgcd (p.1 (zrw p - 1)) (q.1 (zrw q - 1))) := hUl.ag (fun x hx1 hx2 => ((heq343 x ⟨(zx_X16_gcdK_98 hx1 hx2 hgb1 hgb3), (zx_X16_gcdK_74 hx1 hx2 hgn1_4 hgb1), (zx_X16_gcdK_99 hx1 hx2 hgn3_1 hgb1 hgb3)⟩).trans ((heq332 x ⟨(zx_X16_gcdK_98 hx1 hx2 hgb1 hgb3), (zx_X16_gcdK_74 hx1 hx2 hgn1_4 hgb1), (zx_X16_gcdK_99 hx1 hx2 hgn3_1 hgb1 hgb3)⟩).trans ((heq324 x ⟨(zx_X16_gcdK_96 hx1 hx2 hmt hgb1 hgb3), (zx_X16_gcdK_97 hx1 hx2 hgn1_3 hgb1), (zx_X16_gcdK_74 hx1 hx2 hgn1_4 hgb1)⟩).trans ((heq316 x (zx_X16_gcdK_95 hx1 hx2 hmt hgb1 hgb3)).trans ((heq312 x (zx_X16_gcdK_94 hx1 hx2 hmt hgb1 hgb3)).trans ((heqL269 x ⟨⟨(zx_X16_gcdK_92 hx1 hx2 hgn1_3 hgb1), (zx_X16_gcdK_93 hx1 hx2 hmt hgb1 hgb3)⟩, (zx_X16_gcdK_77 hx1 hx2 hgb1)⟩).trans ((heqL259 x ⟨⟨(zx_X16_gcdK_75 hx1 hx2 hgb1), (zx_X16_gcdK_76 hx1 hx2 hgb1)⟩, (zx_X16_gcdK_77 hx1 hx2 hgb1)⟩).trans ((heq146 x ⟨(zx_X16_gcdK_72 hx1 hx2 hgn1_1 hgb1), (zx_X16_gcdK_74 hx1 hx2 hgn1_4 hgb1)⟩).trans ((heq136 x (zx_X16_gcdK_73 hx1 hx2 hgn1_2 hgb1)).trans (heq128 x (zx_X16_gcdK_72 hx1 hx2 hgn1_1 hgb1))))))))))))
                          have hb132 := hUx.si (((((((((hsi128.tr hsi136).tr hsi146).tr hsiL259).tr hsiL269).tr hsi312).tr hsi316).tr hsi324).tr hsi332).tr hsi343)
                          have hb133 := hb63.si ((((((((hsi136.tr hsi146).tr hsiL259).tr hsiL269).tr hsi312).tr hsi316).tr hsi324).tr hsi332).tr hsi343)
                          have hb134 := hb101.si ((hsi324.tr hsi332).tr hsi343)
                          have hb135 : w343 (m + 3) = some (.inr (0, 700, .inl F2)) := ((heq343 (m + 3) ⟨(zx_X16_gcdK_108 hgb3), (zx_X16_gcdK_107 hgn1_4 hgb1), (zx_X16_gcdK_109 hgn3_1 hgb3)⟩).trans ((heq332 (m + 3) ⟨(zx_X16_gcdK_108 hgb3), (zx_X16_gcdK_107 hgn1_4 hgb1), (zx_X16_gcdK_109 hgn3_1 hgb3)⟩).trans ((heq324 (m + 3) ⟨(zx_X16_gcdK_105 hmt hgb3), (zx_X16_gcdK_106 hgn1_3 hgb1), (zx_X16_gcdK_107 hgn1_4 hgb1)⟩).trans ((heq316 (m + 3) (zx_X16_gcdK_104 hmt hgb3)).trans ((heq312 (m + 3) (zx_X16_gcdK_103 hmt hgb3)).trans (heqL269 (m + 3) ⟨⟨(zx_X16_gcdK_100 hgn1_3 hgb1), (zx_X16_gcdK_101 hmt hgb3)⟩, (zx_X16_gcdK_102)⟩)))))).trans hAx2
                          have hb136 := hb106.si (hsi332.tr hsi343)
                          have hb137 : w343 m = some (.inl (15, zMo m (zs (zs g 1 (g 1 + 1 + 1 + 1 + 1)) 3 (g 3 + 1)) r)) := (heq343 m ⟨(zx_X16_gcdK_110 hgb3), (zx_X16_gcdK_70 hgn1_4 hgb1), (zx_X16_gcdK_111 hgn3_1 hgb3)⟩).trans hb122
                          have hb138 := hb123.si hsi343
                          exact (ih88 w343 65 0 v96 0 (F2) (An) ((((((((((hsiL88.tr hsi128).tr hsi136).tr hsi146).tr hsiL259).tr hsiL269).tr hsi312).tr hsi316).tr hsi324).tr hsi332).tr hsi343) (fun x hx => ((heq343 x ⟨(zx_X16_gcdK_41 hx.1.2.1 hx.1.2.2.2.2 hgb3), (zx_X16_gcdK_71 hx.1.1 hgn1_4 hgb1), (zx_X16_gcdK_91 hx.1.2.1 hx.1.2.2.2.2 hgn3_1 hgb3)⟩).trans ((heq332 x ⟨(zx_X16_gcdK_41 hx.1.2.1 hx.1.2.2.2.2 hgb3), (zx_X16_gcdK_71 hx.1.1 hgn1_4 hgb1), (zx_X16_gcdK_91 hx.1.2.1 hx.1.2.2.2.2 hgn3_1 hgb3)⟩).trans ((heq324 x ⟨hx.1.2.2.1, (zx_X16_gcdK_40 hx.1.1 hgn1_3 hgb1), (zx_X16_gcdK_71 hx.1.1 hgn1_4 hgb1)⟩).trans ((heq316 x (zx_X16_gcdK_90 hx.1.2.2.1 hmt hgb3)).trans ((heq312 x (zx_X16_gcdK_89 hx.1.2.2.1 hmt hgb3)).trans ((heqL269 x ⟨⟨(zx_X16_gcdK_87 hx.1.1 hgn1_3 hgb1), (zx_X16_gcdK_88 hx.1.2.2.1 hmt hgb3)⟩, hx.2⟩).trans ((heqL259 x ⟨⟨hx.1.2.2.2.1, hx.1.2.2.2.2⟩, hx.2⟩).trans ((heq146 x ⟨(zx_X16_gcdK_38 hx.1.1 hgn1_1 hgb1), (zx_X16_gcdK_71 hx.1.1 hgn1_4 hgb1)⟩).trans ((heq136 x (zx_X16_gcdK_39 hx.1.1 hgn1_2 hgb1)).trans ((heq128 x (zx_X16_gcdK_38 hx.1.1 hgn1_1 hgb1)).trans (heqL88 x ⟨⟨hx.1.1, hx.1.2.1, hx.1.2.2.1, hx.1.2.2.2.1, hx.1.2.2.2.2⟩, hx.2⟩)))))))))))) (by first | assumption | omega | decide) (by first | assumption | omega | decide) (by first | assumption | omega | decide) (by first | assumption | omega | decide) (by first | assumption | omega | decide) (by first | assumption | omega | decide) (by first | assumption | omega | decide) hb131 hb132 hb133 hb134 hb135 (by
                                exact hb136) hb137 (by
                                intro _
                                rw [show (65 : Int32).toNatClampNeg = 65 from by decide, show (0 : Int32).toNatClampNeg = 0 from by decide]
                                refine ⟨zgI_f hI2.1 (fun e => ?_) (by omega), by omega⟩
                                first
                                | (obtain ⟨c9, hc9⟩ := (hgo9.2.1 e).1
                                   exact absurd (cc335.symm.trans (hr332.2 ⟨c9, hc9, zdvb hp0 hH0 hpd hc9⟩)) (by decide))
                                | (obtain ⟨c9, hc9⟩ := (hgo9.2.1 e).2
                                   exact absurd (cc346.symm.trans (hr343.2 ⟨c9, hc9, zdvb hq0 hH0 hqd hc9⟩)) (by decide))) (by
                                exact fun _ => zgF_0 p q _ _ _) (by
                                exact fun _ => zgY_0 hb138) (by
                                exact fun h => absurd h (by decide)) (by omega)).more (zfa1 rfl (zfa1 rfl (zfa1 rfl (zfa1 rfl (zfa1 rfl (zfa1 rfl (zfa1 rfl (zfa1 rfl (zfa1 rfl (zfa1 rfl (zfa1 rfl (zfa1 rfl (zfa1 rfl (zfa1 rfl (zfa1 rfl (zfa1 rfl (zfa0)))))))))))))))))
                        ·
                          have f139 := zneI cc346
                          rw [show (0 : Int32).toInt = 0 from by decide] at f139
                          refine zp_seg (pc' := 361) (lv' := [(13, .int 0), (15, .int 1), (0, .ref m), (1, .ref to), (2, .ref a), (3, .ref b), (4, .int (g 1)), (5, .int (g 3)), (6, .ref (m + 276 + 2 * (g 1).toNatClampNeg)), (7, .ref (m + 276 + 2 * (g 1 + 1).toNatClampNeg)), (8, .ref (m + 276 + 2 * (g 1 + 1 + 1).toNatClampNeg)), (9, .ref (m + 276 + 2 * (g 1 + 1 + 1 + 1).toNatClampNeg)), (10, .ref (m + 596 + 130 * (g 3).toNatClampNeg)), (11, .int v73), (12, .int y12_189), (14, .int v96), (16, .int y16_269)]) (st' := [.int 1]) [(349, .iconst 1), (350, .goto 4), (354, .istore 15), (356, .iconst 0), (357, .istore 13), (359, .iload 15)] (by decide +kernel) rfl ?_
                          refine zp_pure (pc' := 364) (lv' := [(13, .int 0), (15, .int 1), (0, .ref m), (1, .ref to), (2, .ref a), (3, .ref b), (4, .int (g 1)), (5, .int (g 3)), (6, .ref (m + 276 + 2 * (g 1).toNatClampNeg)), (7, .ref (m + 276 + 2 * (g 1 + 1).toNatClampNeg)), (8, .ref (m + 276 + 2 * (g 1 + 1 + 1).toNatClampNeg)), (9, .ref (m + 276 + 2 * (g 1 + 1 + 1 + 1).toNatClampNeg)), (10, .ref (m + 596 + 130 * (g 3).toNatClampNeg)), (11, .int v73), (12, .int y12_189), (14, .int v96), (16, .int y16_269)]) (st' := []) (i := .ifCond .eq 8) (by decide +kernel) rfl ?_
                          refine zp_seg (pc' := 88) (lv' := [(12, .int y12_189), (13, .int 0), (15, .int 1), (0, .ref m), (1, .ref to), (2, .ref a), (3, .ref b), (4, .int (g 1)), (5, .int (g 3)), (6, .ref (m + 276 + 2 * (g 1).toNatClampNeg)), (7, .ref (m + 276 + 2 * (g 1 + 1).toNatClampNeg)), (8, .ref (m + 276 + 2 * (g 1 + 1 + 1).toNatClampNeg)), (9, .ref (m + 276 + 2 * (g 1 + 1 + 1 + 1).toNatClampNeg)), (10, .ref (m + 596 + 130 * (g 3).toNatClampNeg)), (11, .int v73), (14, .int v96), (16, .int y16_269)]) (st' := []) [(364, .iload 12), (366, .goto 5), (371, .istore 12), (373, .goto (-285))] (by decide +kernel) rfl ?_
                          have hl140 : (0 : Int32).toInt = 0 := by decide
                          have hl141 : (1 : Int32).toInt = 1 := by decide
                          have hz142 : ((0 : Int32).toNatClampNeg : Int) = 0 := by decide
                          have hb143 : zU w343 (m + 276 + 2 * (g 1).toNatClampNeg) 1000 (zgcd (p.1 (zrw p - 1)) (q.1 (zrw q - 1))) := hUl.ag (fun x hx1 hx2 => ((heq343 x ⟨(zx_X16_gcdK_98 hx1 hx2 hgb1 hgb3), (zx_X16_gcdK_74 hx1 hx2 hgn1_4 hgb1), (zx_X16_gcdK_99 hx1 hx2 hgn3_1 hgb1 hgb3)⟩).trans ((heq332 x ⟨(zx_X16_gcdK_98 hx1 hx2 hgb1 hgb3), (zx_X16_gcdK_74 hx1 hx2 hgn1_4 hgb1), (zx_X16_gcdK_99 hx1 hx2 hgn3_1 hgb1 hgb3)⟩).trans ((heq324 x ⟨(zx_X16_gcdK_96 hx1 hx2 hmt hgb1 hgb3), (zx_X16_gcdK_97 hx1 hx2 hgn1_3 hgb1), (zx_X16_gcdK_74 hx1 hx2 hgn1_4 hgb1)⟩).trans ((heq316 x (zx_X16_gcdK_95 hx1 hx2 hmt hgb1 hgb3)).trans ((heq312 x (zx_X16_gcdK_94 hx1 hx2 hmt hgb1 hgb3)).trans ((heqL269 x ⟨⟨(zx_X16_gcdK_92 hx1 hx2 hgn1_3 hgb1), (zx_X16_gcdK_93 hx1 hx2 hmt hgb1 hgb3)⟩, (zx_X16_gcdK_77 hx1 hx2 hgb1)⟩).trans ((heqL259 x ⟨⟨(zx_X16_gcdK_75 hx1 hx2 hgb1), (zx_X16_gcdK_76 hx1 hx2 hgb1)⟩, (zx_X16_gcdK_77 hx1 hx2 hgb1)⟩).trans ((heq146 x ⟨(zx_X16_gcdK_72 hx1 hx2 hgn1_1 hgb1), (zx_X16_gcdK_74 hx1 hx2 hgn1_4 hgb1)⟩).trans ((heq136 x (zx_X16_gcdK_73 hx1 hx2 hgn1_2 hgb1)).trans (heq128 x (zx_X16_gcdK_72 hx1 hx2 hgn1_1 hgb1))))))))))))
                          have hb144 := hUx.si (((((((((hsi128.tr hsi136).tr hsi146).tr hsiL259).tr hsiL269).tr hsi312).tr hsi316).tr hsi324).tr hsi332).tr hsi343)
                          have hb145 := hb63.si ((((((((hsi136.tr hsi146).tr hsiL259).tr hsiL269).tr hsi312).tr hsi316).tr hsi324).tr hsi332).tr hsi343)
                          have hb146 := hb101.si ((hsi324.tr hsi332).tr hsi343)
                          have hb147 : w343 (m + 3) = some (.inr (0, 700, .inl F2)) := ((heq343 (m + 3) ⟨(zx_X16_gcdK_108 hgb3), (zx_X16_gcdK_107 hgn1_4 hgb1), (zx_X16_gcdK_109 hgn3_1 hgb3)⟩).trans ((heq332 (m + 3) ⟨(zx_X16_gcdK_108 hgb3), (zx_X16_gcdK_107 hgn1_4 hgb1), (zx_X16_gcdK_109 hgn3_1 hgb3)⟩).trans ((heq324 (m + 3) ⟨(zx_X16_gcdK_105 hmt hgb3), (zx_X16_gcdK_106 hgn1_3 hgb1), (zx_X16_gcdK_107 hgn1_4 hgb1)⟩).trans ((heq316 (m + 3) (zx_X16_gcdK_104 hmt hgb3)).trans ((heq312 (m + 3) (zx_X16_gcdK_103 hmt hgb3)).trans (heqL269 (m + 3) ⟨⟨(zx_X16_gcdK_100 hgn1_3 hgb1), (zx_X16_gcdK_101 hmt hgb3)⟩, (zx_X16_gcdK_102)⟩)))))).trans hAx2
                          have hb148 := hb106.si (hsi332.tr hsi343)
                          have hb149 : w343 m = some (.inl (15, zMo m (zs (zs g 1 (g 1 + 1 + 1 + 1 + 1)) 3 (g 3 + 1)) r)) := (heq343 m ⟨(zx_X16_gcdK_110 hgb3), (zx_X16_gcdK_70 hgn1_4 hgb1), (zx_X16_gcdK_111 hgn3_1 hgb3)⟩).trans hb122
                          have hb150 : zB w343 to (zprim (zbOf T y12_189.toNatClampNeg)) := hb125.ag (fun x hx1 hx2 => (heq343 x ⟨(zx_X16_gcdK_118 hx1 hx2 hmt hgb3), (zx_X16_gcdK_119 hx1 hx2 hmt hgn1_4 hgb1 hgb3), (zx_X16_gcdK_120 hx1 hx2 hmt hgn3_1 hgb3)⟩))
                          exact (ih88 w343 y12_189 0 v96 1 (F2) (zprim (zbOf T y12_189.toNatClampNeg)) ((((((((((hsiL88.tr hsi128).tr hsi136).tr hsi146).tr hsiL259).tr hsiL269).tr hsi312).tr hsi316).tr hsi324).tr hsi332).tr hsi343) (fun x hx => ((heq343 x ⟨(zx_X16_gcdK_41 hx.1.2.1 hx.1.2.2.2.2 hgb3), (zx_X16_gcdK_71 hx.1.1 hgn1_4 hgb1), (zx_X16_gcdK_91 hx.1.2.1 hx.1.2.2.2.2 hgn3_1 hgb3)⟩).trans ((heq332 x ⟨(zx_X16_gcdK_41 hx.1.2.1 hx.1.2.2.2.2 hgb3), (zx_X16_gcdK_71 hx.1.1 hgn1_4 hgb1), (zx_X16_gcdK_91 hx.1.2.1 hx.1.2.2.2.2 hgn3_1 hgb3)⟩).trans ((heq324 x ⟨hx.1.2.2.1, (zx_X16_gcdK_40 hx.1.1 hgn1_3 hgb1), (zx_X16_gcdK_71 hx.1.1 hgn1_4 hgb1)⟩).trans ((heq316 x (zx_X16_gcdK_90 hx.1.2.2.1 hmt hgb3)).trans ((heq312 x (zx_X16_gcdK_89 hx.1.2.2.1 hmt hgb3)).trans ((heqL269 x ⟨⟨(zx_X16_gcdK_87 hx.1.1 hgn1_3 hgb1), (zx_X16_gcdK_88 hx.1.2.2.1 hmt hgb3)⟩, hx.2⟩).trans ((heqL259 x ⟨⟨hx.1.2.2.2.1, hx.1.2.2.2.2⟩, hx.2⟩).trans ((heq146 x ⟨(zx_X16_gcdK_38 hx.1.1 hgn1_1 hgb1), (zx_X16_gcdK_71 hx.1.1 hgn1_4 hgb1)⟩).trans ((heq136 x (zx_X16_gcdK_39 hx.1.1 hgn1_2 hgb1)).trans ((heq128 x (zx_X16_gcdK_38 hx.1.1 hgn1_1 hgb1)).trans (heqL88 x ⟨⟨hx.1.1, hx.1.2.1, hx.1.2.2.1, hx.1.2.2.2.1, hx.1.2.2.2.2⟩, hx.2⟩)))))))))))) (by first | assumption | omega | decide) (by first | assumption | omega | decide) (by first | assumption | omega | decide) (by first | assumption | omega | decide) (by first | assumption | omega | decide) (by first | assumption | omega | decide) (by first | assumption | omega | decide) hb143 hb144 hb145 hb146 hb147 (by
                                exact hb148) hb149 (by
                                exact fun h => absurd h (by decide)) (by
                                exact fun h => absurd h (by decide)) (by
                                exact fun h => absurd h (by decide)) (by
                                intro _
                                have e1 := hr332.1 (hrb332.resolve_left cc335)
                                have e2 := hr343.1 (hrb343.resolve_left cc346)
                                exact ⟨hb150, ⟨_, e1⟩, ⟨_, e2⟩, hH0, by rw [zprim_rw, hgo9.1]; omega⟩) (by omega)).more (zfa1 rfl (zfa1 rfl (zfa1 rfl (zfa1 rfl (zfa1 rfl (zfa1 rfl (zfa1 rfl (zfa1 rfl (zfa1 rfl (zfa1 rfl (zfa1 rfl (zfa1 rfl (zfa1 rfl (zfa1 rfl (zfa1 rfl (zfa1 rfl (zfa0)))))))))))))))))
                    ·
                      have f151 := znleI cc273
                      refine zp_seg (pc' := 280) (lv' := [(0, .ref m), (1, .ref to), (2, .ref a), (3, .ref b), (4, .int (g 1)), (5, .int (g 3)), (6, .ref (m + 276 + 2 * (g 1).toNatClampNeg)), (7, .ref (m + 276 + 2 * (g 1 + 1).toNatClampNeg)), (8, .ref (m + 276 + 2 * (g 1 + 1 + 1).toNatClampNeg)), (9, .ref (m + 276 + 2 * (g 1 + 1 + 1 + 1).toNatClampNeg)), (10, .ref (m + 596 + 130 * (g 3).toNatClampNeg)), (11, .int v73), (12, .int y12_189), (13, .int y13_259), (14, .int v96), (16, .int y16_269)]) (st' := [.ref m, .ref (m + 276 + 2 * (g 1 + 1 + 1 + 1).toNatClampNeg), .ref m]) [(276, .aload_n 0), (277, .aload 9), (279, .aload_n 0)] (by decide +kernel) rfl ?_
                      refine zr_get (idx := 159) (k := 5) (v := .ref (m + 4)) (by decide +kernel) (by decide +kernel) hmL269 rfl ?_
                      refine zp_seg (pc' := 285) (lv' := [(0, .ref m), (1, .ref to), (2, .ref a), (3, .ref b), (4, .int (g 1)), (5, .int (g 3)), (6, .ref (m + 276 + 2 * (g 1).toNatClampNeg)), (7, .ref (m + 276 + 2 * (g 1 + 1).toNatClampNeg)), (8, .ref (m + 276 + 2 * (g 1 + 1 + 1).toNatClampNeg)), (9, .ref (m + 276 + 2 * (g 1 + 1 + 1 + 1).toNatClampNeg)), (10, .ref (m + 596 + 130 * (g 3).toNatClampNeg)), (11, .int v73), (12, .int y12_189), (13, .int y13_259), (14, .int v96), (16, .int y16_269)]) (st' := [.int y16_269, .ref (m + 4), .ref (m + 276 + 2 * (g 1 + 1 + 1 + 1).toNatClampNeg), .ref m]) [(283, .iload 16)] (by decide +kernel) rfl ?_
                      have hb152 := hb68.si ((hsi146.tr hsiL259).tr hsiL269)
                      have hb154 := hb152.ys
                      have hz155 : (y16_269.toNatClampNeg : Int) = y16_269.toInt := znat (by first | omega | decide)
                      refine zr_aald (v := .ref (m + 5 + y16_269.toNatClampNeg)) (by decide +kernel) hb154 (by decide) (zin (by first | omega | decide) (by first | omega | decide)) (zys_at (by omega)) ?_
                      refine zp_seg (pc' := 288) (lv' := [(0, .ref m), (1, .ref to), (2, .ref a), (3, .ref b), (4, .int (g 1)), (5, .int (g 3)), (6, .ref (m + 276 + 2 * (g 1).toNatClampNeg)), (7, .ref (m + 276 + 2 * (g 1 + 1).toNatClampNeg)), (8, .ref (m + 276 + 2 * (g 1 + 1 + 1).toNatClampNeg)), (9, .ref (m + 276 + 2 * (g 1 + 1 + 1 + 1).toNatClampNeg)), (10, .ref (m + 596 + 130 * (g 3).toNatClampNeg)), (11, .int v73), (12, .int y12_189), (13, .int y13_259), (14, .int v96), (16, .int y16_269)]) (st' := [.int y13_259, .ref (m + 5 + y16_269.toNatClampNeg), .ref (m + 276 + 2 * (g 1 + 1 + 1 + 1).toNatClampNeg), .ref m]) [(286, .iload 13)] (by decide +kernel) rfl ?_
                      have hz156 : (y12_189.toNatClampNeg : Int) = y12_189.toInt := znat (by first | omega | decide)
                      have hz157 : (y13_259.toNatClampNeg : Int) = y13_259.toInt := znat (by first | omega | decide)
                      obtain ⟨gy9, hgy9, hgv9⟩ := (hY3.ag (w' := wL269) (fun x g1 g2 => (heqL269 x ⟨⟨(zx_X16_gcdK_121 g1 g2 hgn1_3 hgb1), (zx_X16_gcdK_122 g1 g2 hmt hgb3)⟩, (zx_X16_gcdK_123 g1 g2)⟩))) y16_269.toNatClampNeg (by omega) (by omega)
                      have hxr9 : ∀ t, t < y13_259.toNatClampNeg → zr1 (F2 t) := fun t ht => (hF2.1 t ht).1
                      have hyr9 : ∀ t, t < y13_259.toNatClampNeg → zr1 (gy9 t) := fun t ht => (hgv9 t (by rw [if_neg (Nat.not_lt_zero _)]; exact ht)).1
                      have hxd9 : ∀ t u, t < y13_259.toNatClampNeg → u < y13_259.toNatClampNeg → zf (F2 t) = zf (F2 u) → t = u := zgF_d hF2
                      have hb158 : wL269 (m + 3) = some (.inr (0, 700, .inl F2)) := (heqL269 (m + 3) ⟨⟨(zx_X16_gcdK_100 hgn1_3 hgb1), (zx_X16_gcdK_101 hmt hgb3)⟩, (zx_X16_gcdK_102)⟩).trans hAx2
                      refine zr_callV (idx := 163) (j := 289) (by decide +kernel) (by decide +kernel) (show zMe 289 = some zq_X16_through from rfl) rfl rfl (Nat.le_of_ble_eq_true rfl) rfl rfl hmL269 (Nat.le_of_ble_eq_true rfl) (Nat.le_of_ble_eq_true rfl) (c_X16_through (w := wL269) (g1 := (g 1 + 1 + 1 + 1 + 1)) m (m + 276 + 2 * (g 1 + 1 + 1 + 1).toNatClampNeg) (m + 5 + y16_269.toNatClampNeg) y13_259 hmL269 hb152 hUz3 hb158 hgy9 (by first | omega | decide | assumption | exact zr1_1 | exact zr1_0) (by first | omega | decide | assumption | exact zr1_1 | exact zr1_0) (by first | omega | decide | assumption | exact zr1_1 | exact zr1_0) (by first | omega | decide | assumption | exact zr1_1 | exact zr1_0) (by first | omega | decide | assumption | exact zr1_1 | exact zr1_0) (by first | omega | decide | assumption | exact zr1_1 | exact zr1_0) (by first | omega | decide | assumption | exact zr1_1 | exact zr1_0) rfl) (by omega) (fun v288 w288 hp288 => ?_)
                      obtain ⟨T_288, Bx_288, hsi288, heq288, hp288_0, hp288_1, rfl⟩ := hp288
                      show zP _ _ _ _ [] _ _ _ _ _
                      have hTl9 := hp288_1.2.1
                      refine zp_seg (pc' := 292) (lv' := [(0, .ref m), (1, .ref to), (2, .ref a), (3, .ref b), (4, .int (g 1)), (5, .int (g 3)), (6, .ref (m + 276 + 2 * (g 1).toNatClampNeg)), (7, .ref (m + 276 + 2 * (g 1 + 1).toNatClampNeg)), (8, .ref (m + 276 + 2 * (g 1 + 1 + 1).toNatClampNeg)), (9, .ref (m + 276 + 2 * (g 1 + 1 + 1 + 1).toNatClampNeg)), (10, .ref (m + 596 + 130 * (g 3).toNatClampNeg)), (11, .int v73), (12, .int y12_189), (13, .int y13_259), (14, .int v96), (16, .int y16_269)]) (st' := [.ref to]) [(291, .aload_n 1)] (by decide +kernel) rfl ?_
                      have hb164 := hBo_to.si ((((((((((((hsi13.tr hsi29).tr hsi33).tr hsi39).tr hsi45).tr hsi51).tr hsiL88).tr hsi128).tr hsi136).tr hsi146).tr hsiL259).tr hsiL269).tr hsi288)
                      obtain ⟨n159, hb160, hb161, -⟩ := id hb164
                      have kn159 := zrng n159
                      refine zr_get (idx := 98) (k := 0) (v := .ref (to + 1)) (by decide +kernel) (by decide +kernel) hb160 rfl ?_
                      refine zp_seg (pc' := 297) (lv' := [(0, .ref m), (1, .ref to), (2, .ref a), (3, .ref b), (4, .int (g 1)), (5, .int (g 3)), (6, .ref (m + 276 + 2 * (g 1).toNatClampNeg)), (7, .ref (m + 276 + 2 * (g 1 + 1).toNatClampNeg)), (8, .ref (m + 276 + 2 * (g 1 + 1 + 1).toNatClampNeg)), (9, .ref (m + 276 + 2 * (g 1 + 1 + 1 + 1).toNatClampNeg)), (10, .ref (m + 596 + 130 * (g 3).toNatClampNeg)), (11, .int v73), (12, .int y12_189), (13, .int y13_259), (14, .int v96), (16, .int y16_269)]) (st' := [.int y16_269, .ref (to + 1)]) [(295, .iload 16)] (by decide +kernel) rfl ?_
                      refine zr_aald (v := .ref (to + 2 + 2 * y16_269.toNatClampNeg)) (by decide +kernel) hb161 (by decide) (zin (by first | omega | decide) (by first | omega | decide)) (zbr_at (by omega)) ?_
                      have hrow165 := hb164.rowo (y16_269.toNatClampNeg) (by omega)
                      refine zp_seg (pc' := 300) (lv' := [(0, .ref m), (1, .ref to), (2, .ref a), (3, .ref b), (4, .int (g 1)), (5, .int (g 3)), (6, .ref (m + 276 + 2 * (g 1).toNatClampNeg)), (7, .ref (m + 276 + 2 * (g 1 + 1).toNatClampNeg)), (8, .ref (m + 276 + 2 * (g 1 + 1 + 1).toNatClampNeg)), (9, .ref (m + 276 + 2 * (g 1 + 1 + 1 + 1).toNatClampNeg)), (10, .ref (m + 596 + 130 * (g 3).toNatClampNeg)), (11, .int v73), (12, .int y12_189), (13, .int y13_259), (14, .int v96), (16, .int y16_269)]) (st' := [.ref (m + 276 + 2 * (g 1 + 1 + 1 + 1).toNatClampNeg), .ref (to + 2 + 2 * y16_269.toNatClampNeg)]) [(298, .aload 9)] (by decide +kernel) rfl ?_
                      refine zr_callS (idx := 62) (j := 264) (by decide +kernel) (by decide +kernel) (by decide) (show zMe 264 = some zq_X16_set from rfl) rfl rfl (Nat.le_of_ble_eq_true rfl) rfl rfl (Nat.le_of_ble_eq_true rfl) (Nat.le_of_ble_eq_true rfl) (c_X16_set (w := w288) (to + 2 + 2 * y16_269.toNatClampNeg) (m + 276 + 2 * (g 1 + 1 + 1 + 1).toNatClampNeg) hrow165 hp288_0 (by first | omega | decide | assumption | exact zr1_1 | exact zr1_0) (by first | omega | decide | assumption | exact zr1_1 | exact zr1_0)) (by omega) (fun v300 w300 hp300 => ?_)
                      obtain ⟨hsi300, heq300, hp300_0, rfl⟩ := hp300
                      show zP _ _ _ _ [] _ _ _ _ _
                      refine zp_seg (pc' := 306) (lv' := [(16, .int (y16_269 + 1)), (0, .ref m), (1, .ref to), (2, .ref a), (3, .ref b), (4, .int (g 1)), (5, .int (g 3)), (6, .ref (m + 276 + 2 * (g 1).toNatClampNeg)), (7, .ref (m + 276 + 2 * (g 1 + 1).toNatClampNeg)), (8, .ref (m + 276 + 2 * (g 1 + 1 + 1).toNatClampNeg)), (9, .ref (m + 276 + 2 * (g 1 + 1 + 1 + 1).toNatClampNeg)), (10, .ref (m + 596 + 130 * (g 3).toNatClampNeg)), (11, .int v73), (12, .int y12_189), (13, .int y13_259), (14, .int v96)]) (st' := []) [(303, .iinc 16 1)] (by decide +kernel) rfl ?_
                      have k166 := zaddC y16_269 1 (n := 1) (by decide) (by omega) (by omega)
                      generalize ev306 : (y16_269 + 1 : Int32) = v306 at k166 ⊢
                      have kv306 := zrng v306
                      refine zp_seg (pc' := 269) (lv' := [(16, .int v306), (0, .ref m), (1, .ref to), (2, .ref a), (3, .ref b), (4, .int (g 1)), (5, .int (g 3)), (6, .ref (m + 276 + 2 * (g 1).toNatClampNeg)), (7, .ref (m + 276 + 2 * (g 1 + 1).toNatClampNeg)), (8, .ref (m + 276 + 2 * (g 1 + 1 + 1).toNatClampNeg)), (9, .ref (m + 276 + 2 * (g 1 + 1 + 1 + 1).toNatClampNeg)), (10, .ref (m + 596 + 130 * (g 3).toNatClampNeg)), (11, .int v73), (12, .int y12_189), (13, .int y13_259), (14, .int v96)]) (st' := []) [(306, .goto (-37))] (by decide +kernel) rfl ?_
                      have hz167 : (v306.toNatClampNeg : Int) = v306.toInt := znat (by first | omega | decide)
                      have hb168 := hUz3.si (hsi288.tr hsi300)
                      have hb169 : w300 m = some (.inl (15, zMo m (zs (zs g 1 (g 1 + 1 + 1 + 1 + 1)) 3 (g 3 + 1)) r)) := ((heq300 m (by omega)).trans (heq288 m ⟨(zx_X16_gcdK_81 hgn1_3 hgb1), (zx_X16_gcdK_70 hgn1_4 hgb1)⟩)).trans hmL269
                      exact (ih269 w300 v306 (fun j => if j = y16_269.toNatClampNeg then T_288 else T j) ((hsiL269.tr hsi288).tr hsi300) (fun x hx => ((heq300 x (by omega)).trans ((heq288 x ⟨(zx_X16_gcdK_124 hx.1.1 hgn1_3 hgb1), (zx_X16_gcdK_125 hx.1.1 hgn1_3 hgn1_4 hgb1)⟩).trans (heqL269 x ⟨⟨hx.1.1, hx.1.2⟩, hx.2⟩)))) (by first | assumption | omega | decide) (by first | assumption | omega | decide) hb168 hb169 (by
                            intro j hj
                            show zU w300 (to + 2 + 2 * j) 200 (if j = y16_269.toNatClampNeg then T_288 else T j) ∧ zln (if j = y16_269.toNatClampNeg then T_288 else T j) ≤ _ ∧ ∀ i, i < _ → zVl (zf (F2 i)) (if j = y16_269.toNatClampNeg then T_288 else T j) = _
                            by_cases e : j = y16_269.toNatClampNeg
                            · rw [if_pos e, e]
                              exact ⟨hp300_0, hTl9, fun i hi => (hp288_1.2.2.1 i hi).trans (hgv9 i (by rw [if_neg (Nat.not_lt_zero _)]; exact hi)).2⟩
                            · rw [if_neg e]
                              have h9 := hT j (by omega)
                              exact ⟨h9.1.ag (fun x g1 g2 => ((heq300 x (by omega)).trans (heq288 x (by omega)))), h9.2⟩) (by omega)).more (zfa1 rfl (zfa1 rfl (zfa1 rfl (zfa1 rfl (zfa1 rfl (zfa1 rfl (zfa1 rfl (zfa1 rfl (zfa1 rfl (zfa1 rfl (zfa1 rfl (zfa1 rfl (zfa1 rfl (zfa1 rfl (zfa1 rfl (zfa1 rfl (zfa0)))))))))))))))))
                  have hl170 : (0 : Int32).toInt = 0 := by decide
                  have hz171 : (y12_189.toNatClampNeg : Int) = y12_189.toInt := znat (by first | omega | decide)
                  have hz172 : (y13_259.toNatClampNeg : Int) = y13_259.toInt := znat (by first | omega | decide)
                  have hz173 : ((0 : Int32).toNatClampNeg : Int) = 0 := by decide
                  have hb174 := hUz.si (((hsi128.tr hsi136).tr hsi146).tr hsiL259)
                  exact (hL269 _ wL259 0 (fun _ => zaZ) zSI.rf (fun _ _ => rfl) (by first | assumption | omega | decide) (by first | assumption | omega | decide) hb174 hmL259 (by
                        exact fun j hj => absurd hj (by omega)) (Nat.lt_succ_self _)).more (zfa1 rfl (zfa1 rfl (zfa1 rfl (zfa1 rfl (zfa1 rfl (zfa1 rfl (zfa1 rfl (zfa1 rfl (zfa1 rfl (zfa1 rfl (zfa1 rfl (zfa1 rfl (zfa1 rfl (zfa1 rfl (zfa1 rfl (zfa1 rfl (zfa0)))))))))))))))))
              refine zp_if (i := .if_icmp .ne 63) (c := ¬ n70 = y12_189) (t := 259) (e := 199) (lv' := [(0, .ref m), (1, .ref to), (2, .ref a), (3, .ref b), (4, .int (g 1)), (5, .int (g 3)), (6, .ref (m + 276 + 2 * (g 1).toNatClampNeg)), (7, .ref (m + 276 + 2 * (g 1 + 1).toNatClampNeg)), (8, .ref (m + 276 + 2 * (g 1 + 1 + 1).toNatClampNeg)), (9, .ref (m + 276 + 2 * (g 1 + 1 + 1 + 1).toNatClampNeg)), (10, .ref (m + 596 + 130 * (g 3).toNatClampNeg)), (11, .int v73), (12, .int y12_189), (13, .int y13_189), (14, .int v96), (15, .int y15_88)]) (st' := []) (by decide +kernel) rfl (fun cc196 => ?_) (fun cc196 => ?_)
              ·
                have f175 := zneI cc196
                have hz176 : (y12_189.toNatClampNeg : Int) = y12_189.toInt := znat (by first | omega | decide)
                have hz177 : (y13_189.toNatClampNeg : Int) = y13_189.toInt := znat (by first | omega | decide)
                have hb178 : w146 (m + 3) = some (.inr (0, 700, .inl F)) := ((heq146 (m + 3) ⟨(zx_X16_gcdK_126 hgn1_1 hgb1), (zx_X16_gcdK_107 hgn1_4 hgb1)⟩).trans ((heq136 (m + 3) (zx_X16_gcdK_127 hgn1_2 hgb1)).trans (heq128 (m + 3) (zx_X16_gcdK_126 hgn1_1 hgb1)))).trans hAx
                exact (hJ259 w146 y13_189 (F) zSI.rf (fun _ _ => rfl) (by first | assumption | omega | decide) (by first | assumption | omega | decide) hb178 hb78 (by
                      exact ⟨hI1.2.1 (by omega), by have := hI1.2.2; omega⟩) (by
                      exact hF1.t (by omega)) (by
                      exact hY1)).more (zfa1 rfl (zfa1 rfl (zfa1 rfl (zfa1 rfl (zfa1 rfl (zfa1 rfl (zfa1 rfl (zfa1 rfl (zfa1 rfl (zfa1 rfl (zfa1 rfl (zfa1 rfl (zfa1 rfl (zfa1 rfl (zfa1 rfl (zfa1 rfl (zfa0)))))))))))))))))
              ·
                replace cc196 := Classical.not_not.mp cc196
                have f179 := zeqI cc196
                refine zp_seg (pc' := 203) (lv' := [(0, .ref m), (1, .ref to), (2, .ref a), (3, .ref b), (4, .int (g 1)), (5, .int (g 3)), (6, .ref (m + 276 + 2 * (g 1).toNatClampNeg)), (7, .ref (m + 276 + 2 * (g 1 + 1).toNatClampNeg)), (8, .ref (m + 276 + 2 * (g 1 + 1 + 1).toNatClampNeg)), (9, .ref (m + 276 + 2 * (g 1 + 1 + 1 + 1).toNatClampNeg)), (10, .ref (m + 596 + 130 * (g 3).toNatClampNeg)), (11, .int v73), (12, .int y12_189), (13, .int y13_189), (14, .int v96), (15, .int y15_88)]) (st' := [.int v96, .ref (m + 276 + 2 * (g 1).toNatClampNeg)]) [(199, .aload 6), (201, .iload 14)] (by decide +kernel) rfl ?_
                have hb180 : zU w146 (m + 276 + 2 * (g 1).toNatClampNeg) 1000 (zgcd (p.1 (zrw p - 1)) (q.1 (zrw q - 1))) := hUl.ag (fun x hx1 hx2 => ((heq146 x ⟨(zx_X16_gcdK_72 hx1 hx2 hgn1_1 hgb1), (zx_X16_gcdK_74 hx1 hx2 hgn1_4 hgb1)⟩).trans ((heq136 x (zx_X16_gcdK_73 hx1 hx2 hgn1_2 hgb1)).trans (heq128 x (zx_X16_gcdK_72 hx1 hx2 hgn1_1 hgb1)))))
                refine zr_callS (idx := 136) (j := 272) (by decide +kernel) (by decide +kernel) (by decide) (show zMe 272 = some zq_X16_eval from rfl) rfl rfl (Nat.le_of_ble_eq_true rfl) rfl rfl (Nat.le_of_ble_eq_true rfl) (Nat.le_of_ble_eq_true rfl) (c_X16_eval (w := w146) (m + 276 + 2 * (g 1).toNatClampNeg) v96 hb180 (by first | omega | decide | assumption | exact zr1_1 | exact zr1_0) (by first | omega | decide | assumption | exact zr1_1 | exact zr1_0)) (by omega) (fun v203 w203 hp203 => ?_)
                obtain ⟨hpw203, r203, rfl, hr203⟩ := hp203
                replace hpw203 := hpw203.symm
                subst hpw203
                have kr203 := zrng r203
                show zP _ _ _ _ [.int r203] _ _ _ _ _
                refine zp_seg (pc' := 209) (lv' := [(16, .int r203), (0, .ref m), (1, .ref to), (2, .ref a), (3, .ref b), (4, .int (g 1)), (5, .int (g 3)), (6, .ref (m + 276 + 2 * (g 1).toNatClampNeg)), (7, .ref (m + 276 + 2 * (g 1 + 1).toNatClampNeg)), (8, .ref (m + 276 + 2 * (g 1 + 1 + 1).toNatClampNeg)), (9, .ref (m + 276 + 2 * (g 1 + 1 + 1 + 1).toNatClampNeg)), (10, .ref (m + 596 + 130 * (g 3).toNatClampNeg)), (11, .int v73), (12, .int y12_189), (13, .int y13_189), (14, .int v96), (15, .int y15_88)]) (st' := [.ref m]) [(206, .istore 16), (208, .aload_n 0)] (by decide +kernel) rfl ?_
                refine zr_get (idx := 151) (k := 4) (v := .ref (m + 3)) (by decide +kernel) (by decide +kernel) hb78 rfl ?_
                refine zp_seg (pc' := 216) (lv' := [(16, .int r203), (0, .ref m), (1, .ref to), (2, .ref a), (3, .ref b), (4, .int (g 1)), (5, .int (g 3)), (6, .ref (m + 276 + 2 * (g 1).toNatClampNeg)), (7, .ref (m + 276 + 2 * (g 1 + 1).toNatClampNeg)), (8, .ref (m + 276 + 2 * (g 1 + 1 + 1).toNatClampNeg)), (9, .ref (m + 276 + 2 * (g 1 + 1 + 1 + 1).toNatClampNeg)), (10, .ref (m + 596 + 130 * (g 3).toNatClampNeg)), (11, .int v73), (12, .int y12_189), (13, .int y13_189), (14, .int v96), (15, .int y15_88)]) (st' := [.int v96, .int y13_189, .ref (m + 3)]) [(212, .iload 13), (214, .iload 14)] (by decide +kernel) rfl ?_
                have hb181 : w146 (m + 3) = some (.inr (0, 700, .inl F)) := ((heq146 (m + 3) ⟨(zx_X16_gcdK_126 hgn1_1 hgb1), (zx_X16_gcdK_107 hgn1_4 hgb1)⟩).trans ((heq136 (m + 3) (zx_X16_gcdK_127 hgn1_2 hgb1)).trans (heq128 (m + 3) (zx_X16_gcdK_126 hgn1_1 hgb1)))).trans hAx
                have hz182 : (y13_189.toNatClampNeg : Int) = y13_189.toInt := znat (by first | omega | decide)
                refine zr_iast (by decide +kernel) hb181 (zin (by first | omega | decide) (by first | omega | decide)) ?_
                show zP (d + 1) zq_X16_gcdK 217 [(16, .int r203), (0, .ref m), (1, .ref to), (2, .ref a), (3, .ref b), (4, .int (g 1)), (5, .int (g 3)), (6, .ref (m + 276 + 2 * (g 1).toNatClampNeg)), (7, .ref (m + 276 + 2 * (g 1 + 1).toNatClampNeg)), (8, .ref (m + 276 + 2 * (g 1 + 1 + 1).toNatClampNeg)), (9, .ref (m + 276 + 2 * (g 1 + 1 + 1 + 1).toNatClampNeg)), (10, .ref (m + 596 + 130 * (g 3).toNatClampNeg)), (11, .int v73), (12, .int y12_189), (13, .int y13_189), (14, .int v96), (15, .int y15_88)] [] (zup w146 (m + 3) (.inr (0, 700, .inl (upd F (y13_189.toNatClampNeg) v96)))) sz 0 0 Post
                obtain ⟨w216, ew216⟩ : ∃ wz9, wz9 = zup w146 (m + 3) (.inr (0, 700, .inl (upd F (y13_189.toNatClampNeg) v96))) := ⟨_, rfl⟩
                have hsi216 : zSI w146 w216 := by rw [ew216]; exact zSI.arr _ hb181
                have heq216 : ∀ x, x ≠ m + 3 → w216 x = w146 x := fun x hx => by rw [ew216]; exact zup_n hx
                have hc216 : w216 (m + 3) = some (.inr (0, 700, .inl (upd F (y13_189.toNatClampNeg) v96))) := by rw [ew216]; exact zup_s
                rw [← ew216]
                clear ew216
                refine zp_seg (pc' := 220) (lv' := [(17, .int 0), (16, .int r203), (0, .ref m), (1, .ref to), (2, .ref a), (3, .ref b), (4, .int (g 1)), (5, .int (g 3)), (6, .ref (m + 276 + 2 * (g 1).toNatClampNeg)), (7, .ref (m + 276 + 2 * (g 1 + 1).toNatClampNeg)), (8, .ref (m + 276 + 2 * (g 1 + 1 + 1).toNatClampNeg)), (9, .ref (m + 276 + 2 * (g 1 + 1 + 1 + 1).toNatClampNeg)), (10, .ref (m + 596 + 130 * (g 3).toNatClampNeg)), (11, .int v73), (12, .int y12_189), (13, .int y13_189), (14, .int v96), (15, .int y15_88)]) (st' := []) [(217, .iconst 0), (218, .istore 17)] (by decide +kernel) rfl ?_
                have hb183 : w216 m = some (.inl (15, zMo m (zs (zs g 1 (g 1 + 1 + 1 + 1 + 1)) 3 (g 3 + 1)) r)) := (heq216 m (zx_X16_gcdK_128)).trans hb78
                have hL220 : ∀ (mm220 : Nat) (wL220 : zM) (y17_220 : Int32), (zSI w216 wL220) → (∀ x, ((x < m + 5 ∨ m + 5 + 64 ≤ x)) ∧ x ≠ m → wL220 x = w216 x) → (0 ≤ y17_220.toInt) → (y17_220.toInt ≤ y12_189.toInt) → (wL220 m = some (.inl (15, zMo m (zs (zs g 1 (g 1 + 1 + 1 + 1 + 1)) 3 (g 3 + 1)) r))) → (zgY wL220 m p q (zgcd (p.1 (zrw p - 1)) (q.1 (zrw q - 1))) (upd F y13_189.toNatClampNeg v96) y12_189.toNatClampNeg y13_189.toNatClampNeg y17_220.toNatClampNeg) → (2147483647 - y17_220.toInt).toNat < mm220 → zP (d + 1) zq_X16_gcdK 220 [(0, .ref m), (1, .ref to), (2, .ref a), (3, .ref b), (4, .int (g 1)), (5, .int (g 3)), (6, .ref (m + 276 + 2 * (g 1).toNatClampNeg)), (7, .ref (m + 276 + 2 * (g 1 + 1).toNatClampNeg)), (8, .ref (m + 276 + 2 * (g 1 + 1 + 1).toNatClampNeg)), (9, .ref (m + 276 + 2 * (g 1 + 1 + 1 + 1).toNatClampNeg)), (10, .ref (m + 596 + 130 * (g 3).toNatClampNeg)), (11, .int v73), (12, .int y12_189), (13, .int y13_189), (14, .int v96), (15, .int y15_88), (16, .int r203), (17, .int y17_220)] [] wL220 sz 0 0 Post := by
                  intro mm220
                  induction mm220 with
                  | zero => intros; omega
                  | succ mm220 ih220 =>
                  intro wL220 y17_220 hsiL220 heqL220 hi220_0 hi220_1 hmL220 hY2 hmu220
                  have ky17_220 := zrng y17_220
                  refine zp_seg (pc' := 224) (lv' := [(0, .ref m), (1, .ref to), (2, .ref a), (3, .ref b), (4, .int (g 1)), (5, .int (g 3)), (6, .ref (m + 276 + 2 * (g 1).toNatClampNeg)), (7, .ref (m + 276 + 2 * (g 1 + 1).toNatClampNeg)), (8, .ref (m + 276 + 2 * (g 1 + 1 + 1).toNatClampNeg)), (9, .ref (m + 276 + 2 * (g 1 + 1 + 1 + 1).toNatClampNeg)), (10, .ref (m + 596 + 130 * (g 3).toNatClampNeg)), (11, .int v73), (12, .int y12_189), (13, .int y13_189), (14, .int v96), (15, .int y15_88), (16, .int r203), (17, .int y17_220)]) (st' := [.int y12_189, .int y17_220]) [(220, .iload 17), (222, .iload 12)] (by decide +kernel) rfl ?_
                  refine zp_if (i := .if_icmp .ge 32) (c := y12_189 ≤ y17_220) (t := 256) (e := 227) (lv' := [(0, .ref m), (1, .ref to), (2, .ref a), (3, .ref b), (4, .int (g 1)), (5, .int (g 3)), (6, .ref (m + 276 + 2 * (g 1).toNatClampNeg)), (7, .ref (m + 276 + 2 * (g 1 + 1).toNatClampNeg)), (8, .ref (m + 276 + 2 * (g 1 + 1 + 1).toNatClampNeg)), (9, .ref (m + 276 + 2 * (g 1 + 1 + 1 + 1).toNatClampNeg)), (10, .ref (m + 596 + 130 * (g 3).toNatClampNeg)), (11, .int v73), (12, .int y12_189), (13, .int y13_189), (14, .int v96), (15, .int y15_88), (16, .int r203), (17, .int y17_220)]) (st' := []) (by decide +kernel) rfl (fun cc224 => ?_) (fun cc224 => ?_)
                  ·
                    have f184 := zleI cc224
                    have hz185 : (y17_220.toNatClampNeg : Int) = y17_220.toInt := znat (by first | omega | decide)
                    have hz186 : (y12_189.toNatClampNeg : Int) = y12_189.toInt := znat (by first | omega | decide)
                    refine zp_seg (pc' := 259) (lv' := [(13, .int (y13_189 + 1)), (0, .ref m), (1, .ref to), (2, .ref a), (3, .ref b), (4, .int (g 1)), (5, .int (g 3)), (6, .ref (m + 276 + 2 * (g 1).toNatClampNeg)), (7, .ref (m + 276 + 2 * (g 1 + 1).toNatClampNeg)), (8, .ref (m + 276 + 2 * (g 1 + 1 + 1).toNatClampNeg)), (9, .ref (m + 276 + 2 * (g 1 + 1 + 1 + 1).toNatClampNeg)), (10, .ref (m + 596 + 130 * (g 3).toNatClampNeg)), (11, .int v73), (12, .int y12_189), (14, .int v96), (15, .int y15_88), (16, .int r203), (17, .int y17_220)]) (st' := []) [(256, .iinc 13 1)] (by decide +kernel) rfl ?_
                    have k187 := zaddC y13_189 1 (n := 1) (by decide) (by omega) (by omega)
                    generalize ev259 : (y13_189 + 1 : Int32) = v259 at k187 ⊢
                    have kv259 := zrng v259
                    have hz188 : (v259.toNatClampNeg : Int) = v259.toInt := znat (by first | omega | decide)
                    have hb189 : wL220 (m + 3) = some (.inr (0, 700, .inl (upd F (y13_189.toNatClampNeg) v96))) := (heqL220 (m + 3) ⟨(zx_X16_gcdK_130), (zx_X16_gcdK_102)⟩).trans hc216
                    exact (hJ259 wL220 v259 (upd F y13_189.toNatClampNeg v96) (hsi216.tr hsiL220) (fun x hx => ((heqL220 x ⟨hx.1.2, hx.2⟩).trans (heq216 x (zx_X16_gcdK_129 hx.1.1)))) (by first | assumption | omega | decide) (by first | assumption | omega | decide) hb189 hmL220 (by
                          rw [show v259.toNatClampNeg = y13_189.toNatClampNeg + 1 by omega]
                          exact ⟨hI1.1 (by omega), hI1.2.2⟩) (by
                          rw [show v259.toNatClampNeg = y13_189.toNatClampNeg + 1 by omega]
                          exact zgF_s2 hF1 (by omega) (by omega) (by omega) hPa9 (by omega)) (by
                          rw [show v259.toNatClampNeg = y13_189.toNatClampNeg + 1 by omega]
                          exact hY2.d (by omega))).more (zfa1 rfl (zfa1 rfl (zfa1 rfl (zfa1 rfl (zfa1 rfl (zfa1 rfl (zfa1 rfl (zfa1 rfl (zfa1 rfl (zfa1 rfl (zfa1 rfl (zfa1 rfl (zfa1 rfl (zfa1 rfl (zfa1 rfl (zfa1 rfl (zfa0)))))))))))))))))
                  ·
                    have f190 := znleI cc224
                    refine zp_seg (pc' := 228) (lv' := [(0, .ref m), (1, .ref to), (2, .ref a), (3, .ref b), (4, .int (g 1)), (5, .int (g 3)), (6, .ref (m + 276 + 2 * (g 1).toNatClampNeg)), (7, .ref (m + 276 + 2 * (g 1 + 1).toNatClampNeg)), (8, .ref (m + 276 + 2 * (g 1 + 1 + 1).toNatClampNeg)), (9, .ref (m + 276 + 2 * (g 1 + 1 + 1 + 1).toNatClampNeg)), (10, .ref (m + 596 + 130 * (g 3).toNatClampNeg)), (11, .int v73), (12, .int y12_189), (13, .int y13_189), (14, .int v96), (15, .int y15_88), (16, .int r203), (17, .int y17_220)]) (st' := [.ref m]) [(227, .aload_n 0)] (by decide +kernel) rfl ?_
                    refine zr_get (idx := 159) (k := 5) (v := .ref (m + 4)) (by decide +kernel) (by decide +kernel) hmL220 rfl ?_
                    refine zp_seg (pc' := 233) (lv' := [(0, .ref m), (1, .ref to), (2, .ref a), (3, .ref b), (4, .int (g 1)), (5, .int (g 3)), (6, .ref (m + 276 + 2 * (g 1).toNatClampNeg)), (7, .ref (m + 276 + 2 * (g 1 + 1).toNatClampNeg)), (8, .ref (m + 276 + 2 * (g 1 + 1 + 1).toNatClampNeg)), (9, .ref (m + 276 + 2 * (g 1 + 1 + 1 + 1).toNatClampNeg)), (10, .ref (m + 596 + 130 * (g 3).toNatClampNeg)), (11, .int v73), (12, .int y12_189), (13, .int y13_189), (14, .int v96), (15, .int y15_88), (16, .int r203), (17, .int y17_220)]) (st' := [.int y17_220, .ref (m + 4)]) [(231, .iload 17)] (by decide +kernel) rfl ?_
                    have hb191 := hb68.si ((hsi146.tr hsi216).tr hsiL220)
                    have hb193 := hb191.ys
                    have hz194 : (y17_220.toNatClampNeg : Int) = y17_220.toInt := znat (by first | omega | decide)
                    refine zr_aald (v := .ref (m + 5 + y17_220.toNatClampNeg)) (by decide +kernel) hb193 (by decide) (zin (by first | omega | decide) (by first | omega | decide)) (zys_at (by omega)) ?_
                    have hz195 : (y12_189.toNatClampNeg : Int) = y12_189.toInt := znat (by first | omega | decide)
                    obtain ⟨gz9, hgz9, hgw9⟩ := id hY2 y17_220.toNatClampNeg (by omega) (by omega)
                    refine zp_seg (pc' := 240) (lv' := [(0, .ref m), (1, .ref to), (2, .ref a), (3, .ref b), (4, .int (g 1)), (5, .int (g 3)), (6, .ref (m + 276 + 2 * (g 1).toNatClampNeg)), (7, .ref (m + 276 + 2 * (g 1 + 1).toNatClampNeg)), (8, .ref (m + 276 + 2 * (g 1 + 1 + 1).toNatClampNeg)), (9, .ref (m + 276 + 2 * (g 1 + 1 + 1 + 1).toNatClampNeg)), (10, .ref (m + 596 + 130 * (g 3).toNatClampNeg)), (11, .int v73), (12, .int y12_189), (13, .int y13_189), (14, .int v96), (15, .int y15_88), (16, .int r203), (17, .int y17_220)]) (st' := [.ref (m + 276 + 2 * (g 1 + 1).toNatClampNeg), .int r203, .int y13_189, .ref (m + 5 + y17_220.toNatClampNeg)]) [(234, .iload 13), (236, .iload 16), (238, .aload 7)] (by decide +kernel) rfl ?_
                    have hb196 : wL220 (m + 276 + 2 * (g 1 + 1).toNatClampNeg) = some (.inl (14, [.ref (m + 276 + 2 * (g 1 + 1).toNatClampNeg + 1), .int n70])) := ((heqL220 (m + 276 + 2 * (g 1 + 1).toNatClampNeg) ⟨(zx_X16_gcdK_132 hgn1_1 hgb1), (zx_X16_gcdK_133 hgn1_1 hgb1)⟩).trans (heq216 (m + 276 + 2 * (g 1 + 1).toNatClampNeg) (zx_X16_gcdK_131 hgn1_1 hgb1))).trans hu72
                    refine zr_get (idx := 30) (k := 0) (v := .ref (m + 276 + 2 * (g 1 + 1).toNatClampNeg + 1)) (by decide +kernel) (by decide +kernel) hb196 rfl ?_
                    refine zp_seg (pc' := 245) (lv' := [(0, .ref m), (1, .ref to), (2, .ref a), (3, .ref b), (4, .int (g 1)), (5, .int (g 3)), (6, .ref (m + 276 + 2 * (g 1).toNatClampNeg)), (7, .ref (m + 276 + 2 * (g 1 + 1).toNatClampNeg)), (8, .ref (m + 276 + 2 * (g 1 + 1 + 1).toNatClampNeg)), (9, .ref (m + 276 + 2 * (g 1 + 1 + 1 + 1).toNatClampNeg)), (10, .ref (m + 596 + 130 * (g 3).toNatClampNeg)), (11, .int v73), (12, .int y12_189), (13, .int y13_189), (14, .int v96), (15, .int y15_88), (16, .int r203), (17, .int y17_220)]) (st' := [.int y17_220, .ref (m + 276 + 2 * (g 1 + 1).toNatClampNeg + 1), .int r203, .int y13_189, .ref (m + 5 + y17_220.toNatClampNeg)]) [(243, .iload 17)] (by decide +kernel) rfl ?_
                    have hb197 : wL220 (m + 276 + 2 * (g 1 + 1).toNatClampNeg + 1) = some (.inr (0, 1000, .inl f71)) := ((heqL220 (m + 276 + 2 * (g 1 + 1).toNatClampNeg + 1) ⟨(zx_X16_gcdK_135 hgn1_1 hgb1), (zx_X16_gcdK_136 hgn1_1 hgb1)⟩).trans (heq216 (m + 276 + 2 * (g 1 + 1).toNatClampNeg + 1) (zx_X16_gcdK_134 hgn1_1 hgb1))).trans hu73
                    refine zr_iald (by decide +kernel) hb197 (zin (by first | omega | decide) (by first | omega | decide)) ?_
                    obtain ⟨x245, ex245⟩ : ∃ x9, x9 = f71 (y17_220.toNatClampNeg) := ⟨_, rfl⟩
                    rw [← ex245]
                    have kx245 := zrng x245
                    have hvx245 := hu76 (y17_220.toNatClampNeg) (by omega)
                    rw [← ex245] at hvx245
                    have hwx245 : 0 ≤ x245.toInt ∧ x245.toInt < 2147483647 := hvx245.1
                    refine zr_callS (idx := 56) (j := 257) (by decide +kernel) (by decide +kernel) (by decide) (show zMe 257 = some zq_X16_mul from rfl) rfl rfl (Nat.le_of_ble_eq_true rfl) rfl rfl (Nat.le_of_ble_eq_true rfl) (Nat.le_of_ble_eq_true rfl) (c_X16_mul (w := wL220) r203 x245 (by exact hr203.1) (by exact hvx245.1)) (by omega) (fun v246 w246 hp246 => ?_)
                    obtain ⟨hpw246, r246, rfl, hr246⟩ := hp246
                    replace hpw246 := hpw246.symm
                    subst hpw246
                    have kr246 := zrng r246
                    show zP _ _ _ _ [.int r246, .int y13_189, .ref (m + 5 + y17_220.toNatClampNeg)] _ _ _ _ _
                    refine zr_iast (by decide +kernel) hgz9 (zin (by first | omega | decide) (by first | omega | decide)) ?_
                    show zP (d + 1) zq_X16_gcdK 250 [(0, .ref m), (1, .ref to), (2, .ref a), (3, .ref b), (4, .int (g 1)), (5, .int (g 3)), (6, .ref (m + 276 + 2 * (g 1).toNatClampNeg)), (7, .ref (m + 276 + 2 * (g 1 + 1).toNatClampNeg)), (8, .ref (m + 276 + 2 * (g 1 + 1 + 1).toNatClampNeg)), (9, .ref (m + 276 + 2 * (g 1 + 1 + 1 + 1).toNatClampNeg)), (10, .ref (m + 596 + 130 * (g 3).toNatClampNeg)), (11, .int v73), (12, .int y12_189), (13, .int y13_189), (14, .int v96), (15, .int y15_88), (16, .int r203), (17, .int y17_220)] [] (zup wL220 (m + 5 + y17_220.toNatClampNeg) (.inr (0, 700, .inl (upd gz9 (y13_189.toNatClampNeg) r246)))) sz 0 0 Post
                    obtain ⟨w249, ew249⟩ : ∃ wz9, wz9 = zup wL220 (m + 5 + y17_220.toNatClampNeg) (.inr (0, 700, .inl (upd gz9 (y13_189.toNatClampNeg) r246))) := ⟨_, rfl⟩
                    have hsi249 : zSI wL220 w249 := by rw [ew249]; exact zSI.arr _ hgz9
                    have heq249 : ∀ x, x ≠ m + 5 + y17_220.toNatClampNeg → w249 x = wL220 x := fun x hx => by rw [ew249]; exact zup_n hx
                    have hc249 : w249 (m + 5 + y17_220.toNatClampNeg) = some (.inr (0, 700, .inl (upd gz9 (y13_189.toNatClampNeg) r246))) := by rw [ew249]; exact zup_s
                    rw [← ew249]
                    clear ew249
                    refine zp_seg (pc' := 253) (lv' := [(17, .int (y17_220 + 1)), (0, .ref m), (1, .ref to), (2, .ref a), (3, .ref b), (4, .int (g 1)), (5, .int (g 3)), (6, .ref (m + 276 + 2 * (g 1).toNatClampNeg)), (7, .ref (m + 276 + 2 * (g 1 + 1).toNatClampNeg)), (8, .ref (m + 276 + 2 * (g 1 + 1 + 1).toNatClampNeg)), (9, .ref (m + 276 + 2 * (g 1 + 1 + 1 + 1).toNatClampNeg)), (10, .ref (m + 596 + 130 * (g 3).toNatClampNeg)), (11, .int v73), (12, .int y12_189), (13, .int y13_189), (14, .int v96), (15, .int y15_88), (16, .int r203)]) (st' := []) [(250, .iinc 17 1)] (by decide +kernel) rfl ?_
                    have k198 := zaddC y17_220 1 (n := 1) (by decide) (by omega) (by omega)
                    generalize ev253 : (y17_220 + 1 : Int32) = v253 at k198 ⊢
                    have kv253 := zrng v253
                    refine zp_seg (pc' := 220) (lv' := [(17, .int v253), (0, .ref m), (1, .ref to), (2, .ref a), (3, .ref b), (4, .int (g 1)), (5, .int (g 3)), (6, .ref (m + 276 + 2 * (g 1).toNatClampNeg)), (7, .ref (m + 276 + 2 * (g 1 + 1).toNatClampNeg)), (8, .ref (m + 276 + 2 * (g 1 + 1 + 1).toNatClampNeg)), (9, .ref (m + 276 + 2 * (g 1 + 1 + 1 + 1).toNatClampNeg)), (10, .ref (m + 596 + 130 * (g 3).toNatClampNeg)), (11, .int v73), (12, .int y12_189), (13, .int y13_189), (14, .int v96), (15, .int y15_88), (16, .int r203)]) (st' := []) [(253, .goto (-33))] (by decide +kernel) rfl ?_
                    have hz199 : (v253.toNatClampNeg : Int) = v253.toInt := znat (by first | omega | decide)
                    have hb200 : w249 m = some (.inl (15, zMo m (zs (zs g 1 (g 1 + 1 + 1 + 1 + 1)) 3 (g 3 + 1)) r)) := (heq249 m (by omega)).trans hmL220
                    exact (ih220 w249 v253 (hsiL220.tr hsi249) (fun x hx => ((heq249 x (by omega)).trans (heqL220 x ⟨hx.1, hx.2⟩))) (by first | assumption | omega | decide) (by first | assumption | omega | decide) hb200 (by
                          rw [show v253.toNatClampNeg = y17_220.toNatClampNeg + 1 by omega]
                          exact hY2.s hgz9 hc249 (fun x hx => heq249 x hx) (by
                            rw [zupd_s]
                            exact ⟨hr246.1, by rw [hr246.2, hr203.2, hvx245.2]⟩)) (by omega)).more (zfa1 rfl (zfa1 rfl (zfa1 rfl (zfa1 rfl (zfa1 rfl (zfa1 rfl (zfa1 rfl (zfa1 rfl (zfa1 rfl (zfa1 rfl (zfa1 rfl (zfa1 rfl (zfa1 rfl (zfa1 rfl (zfa1 rfl (zfa1 rfl (zfa1 rfl (zfa1 rfl (zfa0)))))))))))))))))))
                have hl201 : (0 : Int32).toInt = 0 := by decide
                have hz202 : (y12_189.toNatClampNeg : Int) = y12_189.toInt := znat (by first | omega | decide)
                have hz203 : ((0 : Int32).toNatClampNeg : Int) = 0 := by decide
                exact (hL220 _ w216 0 zSI.rf (fun _ _ => rfl) (by first | assumption | omega | decide) (by first | assumption | omega | decide) hb183 (by
                      exact (hY1.f).ag (fun x g1 g2 => (heq216 x (zx_X16_gcdK_137 g1 g2)))) (Nat.lt_succ_self _)).more (zfa1 rfl (zfa1 rfl (zfa1 rfl (zfa1 rfl (zfa1 rfl (zfa1 rfl (zfa1 rfl (zfa1 rfl (zfa1 rfl (zfa1 rfl (zfa1 rfl (zfa1 rfl (zfa1 rfl (zfa1 rfl (zfa1 rfl (zfa1 rfl (zfa1 rfl (zfa1 rfl (zfa0)))))))))))))))))))
            refine zp_if (i := .if_icmp .ge 13) (c := y12_88 ≤ n70) (t := 189) (e := 179) (lv' := [(14, .int v96), (0, .ref m), (1, .ref to), (2, .ref a), (3, .ref b), (4, .int (g 1)), (5, .int (g 3)), (6, .ref (m + 276 + 2 * (g 1).toNatClampNeg)), (7, .ref (m + 276 + 2 * (g 1 + 1).toNatClampNeg)), (8, .ref (m + 276 + 2 * (g 1 + 1 + 1).toNatClampNeg)), (9, .ref (m + 276 + 2 * (g 1 + 1 + 1 + 1).toNatClampNeg)), (10, .ref (m + 596 + 130 * (g 3).toNatClampNeg)), (11, .int v73), (12, .int y12_88), (13, .int y13_88), (15, .int y15_88)]) (st' := []) (by decide +kernel) rfl (fun cc176 => ?_) (fun cc176 => ?_)
            ·
              have f204 := zleI cc176
              exact (hJ189 y12_88 y13_88 (by first | assumption | omega | decide) (by first | assumption | omega | decide) (by first | assumption | omega | decide) (by first | assumption | omega | decide) (by first | assumption | omega | decide) (by
                    exact ⟨fun e => hs9.2.1 e.symm, fun e => hs9.2.2 e, hl9⟩) (by
                    exact hF9) (by
                    exact hY9.ag (fun x g1 g2 => ((heq146 x ⟨(zx_X16_gcdK_138 g1 g2 hgn1_1 hgb1), (zx_X16_gcdK_140 g1 g2 hgn1_4 hgb1)⟩).trans ((heq136 x (zx_X16_gcdK_139 g1 g2 hgn1_2 hgb1)).trans (heq128 x (zx_X16_gcdK_138 g1 g2 hgn1_1 hgb1))))))).more (zfa1 rfl (zfa1 rfl (zfa1 rfl (zfa1 rfl (zfa1 rfl (zfa1 rfl (zfa1 rfl (zfa1 rfl (zfa1 rfl (zfa1 rfl (zfa1 rfl (zfa1 rfl (zfa1 rfl (zfa1 rfl (zfa1 rfl (zfa1 rfl (zfa0)))))))))))))))))
            ·
              have f205 := znleI cc176
              refine zp_seg (pc' := 181) (lv' := [(14, .int v96), (0, .ref m), (1, .ref to), (2, .ref a), (3, .ref b), (4, .int (g 1)), (5, .int (g 3)), (6, .ref (m + 276 + 2 * (g 1).toNatClampNeg)), (7, .ref (m + 276 + 2 * (g 1 + 1).toNatClampNeg)), (8, .ref (m + 276 + 2 * (g 1 + 1 + 1).toNatClampNeg)), (9, .ref (m + 276 + 2 * (g 1 + 1 + 1 + 1).toNatClampNeg)), (10, .ref (m + 596 + 130 * (g 3).toNatClampNeg)), (11, .int v73), (12, .int y12_88), (13, .int y13_88), (15, .int y15_88)]) (st' := [.ref (m + 276 + 2 * (g 1 + 1).toNatClampNeg)]) [(179, .aload 7)] (by decide +kernel) rfl ?_
              refine zr_get (idx := 25) (k := 1) (v := .int n70) (by decide +kernel) (by decide +kernel) hu72 rfl ?_
              refine zp_seg (pc' := 189) (lv' := [(13, .int 0), (12, .int n70), (14, .int v96), (0, .ref m), (1, .ref to), (2, .ref a), (3, .ref b), (4, .int (g 1)), (5, .int (g 3)), (6, .ref (m + 276 + 2 * (g 1).toNatClampNeg)), (7, .ref (m + 276 + 2 * (g 1 + 1).toNatClampNeg)), (8, .ref (m + 276 + 2 * (g 1 + 1 + 1).toNatClampNeg)), (9, .ref (m + 276 + 2 * (g 1 + 1 + 1 + 1).toNatClampNeg)), (10, .ref (m + 596 + 130 * (g 3).toNatClampNeg)), (11, .int v73), (15, .int y15_88)]) (st' := []) [(184, .istore 12), (186, .iconst 0), (187, .istore 13)] (by decide +kernel) rfl ?_
              have hl206 : (0 : Int32).toInt = 0 := by decide
              have hz207 : (n70.toNatClampNeg : Int) = n70.toInt := znat (by first | omega | decide)
              have hz208 : ((0 : Int32).toNatClampNeg : Int) = 0 := by decide
              have hb209 := hb68.si hsi146
              exact (hJ189 n70 0 (by first | assumption | omega | decide) (by first | assumption | omega | decide) (by first | assumption | omega | decide) (by first | assumption | omega | decide) (by first | assumption | omega | decide) (by
                    rw [show (0 : Int32).toNatClampNeg = 0 from by decide, show n70.toNatClampNeg = zln (zgcd (zMp (zf v96) p) (zMp (zf v96) q)) by omega]
                    exact ⟨fun _ => hs9.1 (by omega), fun e => absurd e (Nat.lt_irrefl _), by omega⟩) (by
                    exact zgF_0 p q _ _ _) (by
                    exact zgY_0 hb209)).more (zfa1 rfl (zfa1 rfl (zfa1 rfl (zfa1 rfl (zfa1 rfl (zfa1 rfl (zfa1 rfl (zfa1 rfl (zfa1 rfl (zfa1 rfl (zfa1 rfl (zfa1 rfl (zfa1 rfl (zfa1 rfl (zfa1 rfl (zfa1 rfl (zfa0)))))))))))))))))
          ·
            replace cc155 := Classical.not_not.mp cc155
            have f210 := zeqI cc155
            rw [show (1 : Int32).toInt = 1 from by decide] at f210
            refine zp_seg (pc' := 160) (lv' := [(14, .int v96), (0, .ref m), (1, .ref to), (2, .ref a), (3, .ref b), (4, .int (g 1)), (5, .int (g 3)), (6, .ref (m + 276 + 2 * (g 1).toNatClampNeg)), (7, .ref (m + 276 + 2 * (g 1 + 1).toNatClampNeg)), (8, .ref (m + 276 + 2 * (g 1 + 1 + 1).toNatClampNeg)), (9, .ref (m + 276 + 2 * (g 1 + 1 + 1 + 1).toNatClampNeg)), (10, .ref (m + 596 + 130 * (g 3).toNatClampNeg)), (11, .int v73), (12, .int y12_88), (13, .int y13_88), (15, .int y15_88)]) (st' := [.int 1, .ref to]) [(158, .aload_n 1), (159, .iconst 1)] (by decide +kernel) rfl ?_
            have hb211 := hBo_to.si (((((((((hsi13.tr hsi29).tr hsi33).tr hsi39).tr hsi45).tr hsi51).tr hsiL88).tr hsi128).tr hsi136).tr hsi146)
            obtain ⟨n212, hb213, hb214, -⟩ := id hb211
            have kn212 := zrng n212
            refine zr_callV (idx := 158) (j := 245) (by decide +kernel) (by decide +kernel) (show zMe 245 = some zq_X12_number from rfl) rfl rfl (Nat.le_of_ble_eq_true rfl) rfl rfl hb213 (Nat.le_of_ble_eq_true rfl) (Nat.le_of_ble_eq_true rfl) (c_X12_number (w := w146) to 1 hb211 (by first | omega | decide | assumption | exact zr1_1 | exact zr1_0)) (by omega) (fun v160 w160 hp160 => ?_)
            obtain ⟨hsi160, heq160, hp160_0, rfl⟩ := hp160
            show zP _ _ _ _ [] _ _ _ _ _
            refine zp_seg (pc' := 88) (lv' := [(15, .int 1), (14, .int v96), (0, .ref m), (1, .ref to), (2, .ref a), (3, .ref b), (4, .int (g 1)), (5, .int (g 3)), (6, .ref (m + 276 + 2 * (g 1).toNatClampNeg)), (7, .ref (m + 276 + 2 * (g 1 + 1).toNatClampNeg)), (8, .ref (m + 276 + 2 * (g 1 + 1 + 1).toNatClampNeg)), (9, .ref (m + 276 + 2 * (g 1 + 1 + 1 + 1).toNatClampNeg)), (10, .ref (m + 596 + 130 * (g 3).toNatClampNeg)), (11, .int v73), (12, .int y12_88), (13, .int y13_88)]) (st' := []) [(163, .iconst 1), (164, .istore 15), (166, .goto (-78))] (by decide +kernel) rfl ?_
            have hl217 : (1 : Int32).toInt = 1 := by decide
            have hb218 : zU w160 (m + 276 + 2 * (g 1).toNatClampNeg) 1000 (zgcd (p.1 (zrw p - 1)) (q.1 (zrw q - 1))) := hUl.ag (fun x hx1 hx2 => ((heq160 x (zx_X16_gcdK_96 hx1 hx2 hmt hgb1 hgb3)).trans ((heq146 x ⟨(zx_X16_gcdK_72 hx1 hx2 hgn1_1 hgb1), (zx_X16_gcdK_74 hx1 hx2 hgn1_4 hgb1)⟩).trans ((heq136 x (zx_X16_gcdK_73 hx1 hx2 hgn1_2 hgb1)).trans (heq128 x (zx_X16_gcdK_72 hx1 hx2 hgn1_1 hgb1))))))
            have hb219 := hUx.si (((hsi128.tr hsi136).tr hsi146).tr hsi160)
            have hb220 := hb63.si ((hsi136.tr hsi146).tr hsi160)
            have hb221 := hUz.si (((hsi128.tr hsi136).tr hsi146).tr hsi160)
            have hb222 : w160 (m + 3) = some (.inr (0, 700, .inl F)) := ((heq160 (m + 3) (zx_X16_gcdK_105 hmt hgb3)).trans ((heq146 (m + 3) ⟨(zx_X16_gcdK_126 hgn1_1 hgb1), (zx_X16_gcdK_107 hgn1_4 hgb1)⟩).trans ((heq136 (m + 3) (zx_X16_gcdK_127 hgn1_2 hgb1)).trans (heq128 (m + 3) (zx_X16_gcdK_126 hgn1_1 hgb1))))).trans hAx
            have hb223 := hBo0.si (((hsi128.tr hsi136).tr hsi146).tr hsi160)
            have hb224 : w160 m = some (.inl (15, zMo m (zs (zs g 1 (g 1 + 1 + 1 + 1 + 1)) 3 (g 3 + 1)) r)) := ((heq160 m (zx_X16_gcdK_80 hmt hgb3)).trans (heq146 m ⟨(zx_X16_gcdK_67 hgn1_1 hgb1), (zx_X16_gcdK_70 hgn1_4 hgb1)⟩)).trans hb65
            exact (ih88 w160 y12_88 y13_88 v96 1 (F) (zbC (zaC (zf (1 : Int32)))) ((((hsiL88.tr hsi128).tr hsi136).tr hsi146).tr hsi160) (fun x hx => ((heq160 x hx.1.2.2.1).trans ((heq146 x ⟨(zx_X16_gcdK_38 hx.1.1 hgn1_1 hgb1), (zx_X16_gcdK_71 hx.1.1 hgn1_4 hgb1)⟩).trans ((heq136 x (zx_X16_gcdK_39 hx.1.1 hgn1_2 hgb1)).trans ((heq128 x (zx_X16_gcdK_38 hx.1.1 hgn1_1 hgb1)).trans (heqL88 x ⟨⟨hx.1.1, hx.1.2.1, hx.1.2.2.1, hx.1.2.2.2.1, hx.1.2.2.2.2⟩, hx.2⟩)))))) (by first | assumption | omega | decide) (by first | assumption | omega | decide) (by first | assumption | omega | decide) (by first | assumption | omega | decide) (by first | assumption | omega | decide) (by first | assumption | omega | decide) (by first | assumption | omega | decide) hb218 hb219 hb220 hb221 hb222 (by
                  exact hb223) hb224 (by
                  exact fun h => absurd h (by decide)) (by
                  exact fun h => absurd h (by decide)) (by
                  exact fun h => absurd h (by decide)) (by
                  exact fun _ => ⟨hp160_0, by rw [zf_1]; exact ⟨⟨p, (zbM_1 p).symm⟩, ⟨q, (zbM_1 q).symm⟩, by rw [zC1_rw]; omega, by rw [zC1_rw]; omega⟩⟩) (by omega)).more (zfa1 rfl (zfa1 rfl (zfa1 rfl (zfa1 rfl (zfa1 rfl (zfa1 rfl (zfa1 rfl (zfa1 rfl (zfa1 rfl (zfa1 rfl (zfa1 rfl (zfa1 rfl (zfa1 rfl (zfa1 rfl (zfa1 rfl (zfa1 rfl (zfa0)))))))))))))))))
        ·
          replace cc117 := Classical.not_not.mp cc117
          have f225 := zeqI cc117
          rw [show (0 : Int32).toInt = 0 from by decide] at f225
          refine zp_seg (pc' := 88) (lv' := [(14, .int v96), (0, .ref m), (1, .ref to), (2, .ref a), (3, .ref b), (4, .int (g 1)), (5, .int (g 3)), (6, .ref (m + 276 + 2 * (g 1).toNatClampNeg)), (7, .ref (m + 276 + 2 * (g 1 + 1).toNatClampNeg)), (8, .ref (m + 276 + 2 * (g 1 + 1 + 1).toNatClampNeg)), (9, .ref (m + 276 + 2 * (g 1 + 1 + 1 + 1).toNatClampNeg)), (10, .ref (m + 596 + 130 * (g 3).toNatClampNeg)), (11, .int v73), (12, .int y12_88), (13, .int y13_88), (15, .int y15_88)]) (st' := []) [(120, .goto (-32))] (by decide +kernel) rfl ?_
          have hz226 : (v96.toNatClampNeg : Int) = v96.toInt := znat (by first | omega | decide)
          exact (ih88 wL88 y12_88 y13_88 v96 y15_88 (F) (An) hsiL88 (fun x hx => (heqL88 x ⟨⟨hx.1.1, hx.1.2.1, hx.1.2.2.1, hx.1.2.2.2.1, hx.1.2.2.2.2⟩, hx.2⟩)) (by first | assumption | omega | decide) (by first | assumption | omega | decide) (by first | assumption | omega | decide) (by first | assumption | omega | decide) (by first | assumption | omega | decide) (by first | assumption | omega | decide) (by first | assumption | omega | decide) hUl hUx hUy hUz hAx (by
                exact hBo0) hmL88 (by
                exact fun _ => ⟨zgI_p2 hI9 (by omega) (by omega) (fun k => by
                  first
                  | exact k.2 (by rw [← hr114.2, cc117]; exact zf_0)
                  | exact k.1 (by rw [← hr102.2, cc105]; exact zf_0)), hl9⟩) (by
                exact fun _ => hF9.t (by omega)) (by
                exact fun _ => hY9) (by
                exact fun h => absurd (cc90.symm.trans h) (by decide)) (by omega)).more (zfa1 rfl (zfa1 rfl (zfa1 rfl (zfa1 rfl (zfa1 rfl (zfa1 rfl (zfa1 rfl (zfa1 rfl (zfa1 rfl (zfa1 rfl (zfa1 rfl (zfa1 rfl (zfa1 rfl (zfa1 rfl (zfa1 rfl (zfa1 rfl (zfa0)))))))))))))))))
  have hl227 : (65 : Int32).toInt = 65 := by decide
  have hl228 : (0 : Int32).toInt = 0 := by decide
  have hz229 : ((65 : Int32).toNatClampNeg : Int) = 65 := by decide
  have hz230 : ((0 : Int32).toNatClampNeg : Int) = 0 := by decide
  have hb231 : zU w51 (m + 276 + 2 * (g 1).toNatClampNeg) 1000 (zgcd (p.1 (zrw p - 1)) (q.1 (zrw q - 1))) := hp29_0.ag (fun x hx1 hx2 => ((heq51 x ⟨(zx_X16_gcdK_141 hx1 hx2 hgb1), (zx_X16_gcdK_98 hx1 hx2 hgb1 hgb3)⟩).trans ((heq45 x ⟨(zx_X16_gcdK_141 hx1 hx2 hgb1), (zx_X16_gcdK_97 hx1 hx2 hgn1_3 hgb1)⟩).trans ((heq39 x ⟨(zx_X16_gcdK_141 hx1 hx2 hgb1), (zx_X16_gcdK_73 hx1 hx2 hgn1_2 hgb1)⟩).trans (heq33 x ⟨(zx_X16_gcdK_141 hx1 hx2 hgb1), (zx_X16_gcdK_72 hx1 hx2 hgn1_1 hgb1)⟩)))))
  have hb232 : zU w51 (m + 276 + 2 * (g 1 + 1).toNatClampNeg) 1000 zaZ := hp33_1.ag (fun x hx1 hx2 => ((heq51 x ⟨(zx_X16_gcdK_142 hx1 hx2 hgn1_1 hgb1), (zx_X16_gcdK_144 hx1 hx2 hgn1_1 hgb1 hgb3)⟩).trans ((heq45 x ⟨(zx_X16_gcdK_142 hx1 hx2 hgn1_1 hgb1), (zx_X16_gcdK_143 hx1 hx2 hgn1_1 hgn1_3 hgb1)⟩).trans (heq39 x ⟨(zx_X16_gcdK_142 hx1 hx2 hgn1_1 hgb1), (zx_X16_gcdK_69 hx1 hx2 hgn1_1 hgn1_2 hgb1)⟩))))
  have hb233 : zU w51 (m + 276 + 2 * (g 1 + 1 + 1).toNatClampNeg) 1000 zaZ := hp39_1.ag (fun x hx1 hx2 => ((heq51 x ⟨(zx_X16_gcdK_145 hx1 hx2 hgn1_2 hgb1), (zx_X16_gcdK_147 hx1 hx2 hgn1_2 hgb1 hgb3)⟩).trans (heq45 x ⟨(zx_X16_gcdK_145 hx1 hx2 hgn1_2 hgb1), (zx_X16_gcdK_146 hx1 hx2 hgn1_2 hgn1_3 hgb1)⟩)))
  have hb234 : zU w51 (m + 276 + 2 * (g 1 + 1 + 1 + 1).toNatClampNeg) 1000 zaZ := hp45_1.ag (fun x hx1 hx2 => (heq51 x ⟨(zx_X16_gcdK_148 hx1 hx2 hgn1_3 hgb1), (zx_X16_gcdK_149 hx1 hx2 hgn1_3 hgb1 hgb3)⟩))
  exact (hL88 _ w51 65 0 0 0 (fx9) (zbZ) zSI.rf (fun _ _ => rfl) (by first | assumption | omega | decide) (by first | assumption | omega | decide) (by first | assumption | omega | decide) (by first | assumption | omega | decide) (by first | assumption | omega | decide) (by first | assumption | omega | decide) (by first | assumption | omega | decide) hb231 (zU.o hb232) (zU.o hb233) (zU.o hb234) hfx9 (by
        exact (hp51_1.o)) hM51 (by
        exact fun _ => ⟨zgI_0 p q (by omega), by omega⟩) (by
        exact fun _ => zgF_0 p q _ _ _) (by
        exact fun _ => zgY_0 hb44) (by
        exact fun h => absurd h (by decide)) (Nat.lt_succ_self _)).more (zfa1 rfl (zfa1 rfl (zfa1 rfl (zfa1 rfl (zfa1 rfl (zfa1 rfl (zfa1 rfl (zfa1 rfl (zfa1 rfl (zfa1 rfl (zfa1 rfl (zfa1 rfl (zfa1 rfl (zfa1 rfl (zfa1 rfl (zfa1 rfl (zfa0)))))))))))))))))
