theorem zx_X16_recurAtB_0 {m x : Nat} (h0 : m + 149 ≤ x) (h1 : x < m + 149 + 27) : x < m ∨ m + 1 ≤ x := by omega
theorem zx_X16_recurAtB_1 {m x : Nat} (h0 : m + 149 ≤ x) (h1 : x < m + 149 + 27) : x < m + 176 ∨ m + 176 + 1 ≤ x := by omega
theorem zx_X16_recurAtB_2 {G1_0 G1_1 m x : Nat} (h0 : m + 149 ≤ x) (h1 : x < m + 149 + 27) (h2 : G1_1 = G1_0 + 1) (h3 : G1_0 + 52 ≤ 160) : x < m + 276 + 2 * G1_1 ∨ m + 276 + 2 * G1_1 + (320 - 2 * G1_1) ≤ x := by omega
theorem zx_X16_recurAtB_3 {m x : Nat} (h0 : m + 83 ≤ x) (h1 : x < m + 83 + 9) : x < m ∨ m + 1 ≤ x := by omega
theorem zx_X16_recurAtB_4 {m x : Nat} (h0 : m + 83 ≤ x) (h1 : x < m + 83 + 9) : x < m + 7594 ∨ m + 7594 + 728 ≤ x := by omega
theorem zx_X16_recurAtB_5 {G1_0 m x : Nat} (h0 : m + 83 ≤ x) (h1 : x < m + 83 + 9) (h2 : G1_0 + 52 ≤ 160) : x < m + 276 + 2 * G1_0 ∨ m + 276 + 2 * G1_0 + (320 - 2 * G1_0) ≤ x := by omega
theorem zx_X16_recurAtB_6 {G3_0 m x : Nat} (h0 : m + 83 ≤ x) (h1 : x < m + 83 + 9) (h2 : G3_0 + 15 ≤ 44) : x < m + 596 + 130 * G3_0 ∨ m + 596 + 130 * G3_0 + (5720 - 130 * G3_0) ≤ x := by omega
theorem zx_X16_recurAtB_7 {m x : Nat} (h0 : m + 83 ≤ x) (h1 : x < m + 83 + 9) : x < m + 149 ∨ m + 149 + 1 ≤ x := by omega
theorem zx_X16_recurAtB_8 {m x : Nat} (h0 : m + 83 ≤ x) (h1 : x < m + 83 + 9) : x < m + 177 ∨ m + 177 + 1 ≤ x := by omega
theorem zx_X16_recurAtB_9 {m x : Nat} (h0 : m + 83 ≤ x) (h1 : x < m + 83 + 9) : x < m + 178 ∨ m + 178 + 1 ≤ x := by omega
theorem zx_X16_recurAtB_10 {m x : Nat} (h0 : m + 83 ≤ x) (h1 : x < m + 83 + 9) : x < m + 176 ∨ m + 176 + 1 ≤ x := by omega
theorem zx_X16_recurAtB_11 {G1_0 G1_1 m x : Nat} (h0 : m + 83 ≤ x) (h1 : x < m + 83 + 9) (h2 : G1_1 = G1_0 + 1) (h3 : G1_0 + 52 ≤ 160) : x < m + 276 + 2 * G1_1 ∨ m + 276 + 2 * G1_1 + (320 - 2 * G1_1) ≤ x := by omega
theorem zx_X16_recurAtB_12 {G3_0 fB m x : Nat} (h0 : fB ≤ x) (h1 : x < fB + 130) (h2 : m + 596 ≤ fB ∧ fB + 130 ≤ m + 596 + 130 * G3_0) (h3 : G3_0 + 15 ≤ 44) : x < m ∨ m + 1 ≤ x := by omega
theorem zx_X16_recurAtB_13 {G3_0 fB m x : Nat} (h0 : fB ≤ x) (h1 : x < fB + 130) (h2 : m + 596 ≤ fB ∧ fB + 130 ≤ m + 596 + 130 * G3_0) (h3 : G3_0 + 15 ≤ 44) : x < m + 7594 ∨ m + 7594 + 728 ≤ x := by omega
theorem zx_X16_recurAtB_14 {G1_0 G3_0 fB m x : Nat} (h0 : fB ≤ x) (h1 : x < fB + 130) (h2 : m + 596 ≤ fB ∧ fB + 130 ≤ m + 596 + 130 * G3_0) (h3 : G1_0 + 52 ≤ 160) (h4 : G3_0 + 15 ≤ 44) : x < m + 276 + 2 * G1_0 ∨ m + 276 + 2 * G1_0 + (320 - 2 * G1_0) ≤ x := by omega
theorem zx_X16_recurAtB_15 {G3_0 fB m x : Nat} (h0 : fB ≤ x) (h1 : x < fB + 130) (h2 : m + 596 ≤ fB ∧ fB + 130 ≤ m + 596 + 130 * G3_0) (h3 : G3_0 + 15 ≤ 44) : x < m + 596 + 130 * G3_0 ∨ m + 596 + 130 * G3_0 + (5720 - 130 * G3_0) ≤ x := by omega
theorem zx_X16_recurAtB_16 {G3_0 fB m x : Nat} (h0 : fB ≤ x) (h1 : x < fB + 130) (h2 : m + 596 ≤ fB ∧ fB + 130 ≤ m + 596 + 130 * G3_0) (h3 : G3_0 + 15 ≤ 44) : x < m + 149 ∨ m + 149 + 1 ≤ x := by omega
theorem zx_X16_recurAtB_17 {G3_0 fB m x : Nat} (h0 : fB ≤ x) (h1 : x < fB + 130) (h2 : m + 596 ≤ fB ∧ fB + 130 ≤ m + 596 + 130 * G3_0) (h3 : G3_0 + 15 ≤ 44) : x < m + 177 ∨ m + 177 + 1 ≤ x := by omega
theorem zx_X16_recurAtB_18 {G3_0 fB m x : Nat} (h0 : fB ≤ x) (h1 : x < fB + 130) (h2 : m + 596 ≤ fB ∧ fB + 130 ≤ m + 596 + 130 * G3_0) (h3 : G3_0 + 15 ≤ 44) : x < m + 178 ∨ m + 178 + 1 ≤ x := by omega
theorem zx_X16_recurAtB_19 {G3_0 fB m x : Nat} (h0 : fB ≤ x) (h1 : x < fB + 130) (h2 : m + 596 ≤ fB ∧ fB + 130 ≤ m + 596 + 130 * G3_0) (h3 : G3_0 + 15 ≤ 44) : x < m + 176 ∨ m + 176 + 1 ≤ x := by omega
theorem zx_X16_recurAtB_20 {G1_0 G1_1 G3_0 fB m x : Nat} (h0 : fB ≤ x) (h1 : x < fB + 130) (h2 : m + 596 ≤ fB ∧ fB + 130 ≤ m + 596 + 130 * G3_0) (h3 : G1_1 = G1_0 + 1) (h4 : G1_0 + 52 ≤ 160) (h5 : G3_0 + 15 ≤ 44) : x < m + 276 + 2 * G1_1 ∨ m + 276 + 2 * G1_1 + (320 - 2 * G1_1) ≤ x := by omega
theorem zx_X16_recurAtB_21 {G3_0 fC m x : Nat} (h0 : fC ≤ x) (h1 : x < fC + 130) (h2 : m + 596 ≤ fC ∧ fC + 130 ≤ m + 596 + 130 * G3_0) (h3 : G3_0 + 15 ≤ 44) : x < m ∨ m + 1 ≤ x := by omega
theorem zx_X16_recurAtB_22 {G3_0 fC m x : Nat} (h0 : fC ≤ x) (h1 : x < fC + 130) (h2 : m + 596 ≤ fC ∧ fC + 130 ≤ m + 596 + 130 * G3_0) (h3 : G3_0 + 15 ≤ 44) : x < m + 7594 ∨ m + 7594 + 728 ≤ x := by omega
theorem zx_X16_recurAtB_23 {G1_0 G3_0 fC m x : Nat} (h0 : fC ≤ x) (h1 : x < fC + 130) (h2 : m + 596 ≤ fC ∧ fC + 130 ≤ m + 596 + 130 * G3_0) (h3 : G1_0 + 52 ≤ 160) (h4 : G3_0 + 15 ≤ 44) : x < m + 276 + 2 * G1_0 ∨ m + 276 + 2 * G1_0 + (320 - 2 * G1_0) ≤ x := by omega
theorem zx_X16_recurAtB_24 {G3_0 fC m x : Nat} (h0 : fC ≤ x) (h1 : x < fC + 130) (h2 : m + 596 ≤ fC ∧ fC + 130 ≤ m + 596 + 130 * G3_0) (h3 : G3_0 + 15 ≤ 44) : x < m + 596 + 130 * G3_0 ∨ m + 596 + 130 * G3_0 + (5720 - 130 * G3_0) ≤ x := by omega
theorem zx_X16_recurAtB_25 {G3_0 fC m x : Nat} (h0 : fC ≤ x) (h1 : x < fC + 130) (h2 : m + 596 ≤ fC ∧ fC + 130 ≤ m + 596 + 130 * G3_0) (h3 : G3_0 + 15 ≤ 44) : x < m + 149 ∨ m + 149 + 1 ≤ x := by omega
theorem zx_X16_recurAtB_26 {G3_0 fC m x : Nat} (h0 : fC ≤ x) (h1 : x < fC + 130) (h2 : m + 596 ≤ fC ∧ fC + 130 ≤ m + 596 + 130 * G3_0) (h3 : G3_0 + 15 ≤ 44) : x < m + 177 ∨ m + 177 + 1 ≤ x := by omega
theorem zx_X16_recurAtB_27 {G3_0 fC m x : Nat} (h0 : fC ≤ x) (h1 : x < fC + 130) (h2 : m + 596 ≤ fC ∧ fC + 130 ≤ m + 596 + 130 * G3_0) (h3 : G3_0 + 15 ≤ 44) : x < m + 178 ∨ m + 178 + 1 ≤ x := by omega
theorem zx_X16_recurAtB_28 {G3_0 fC m x : Nat} (h0 : fC ≤ x) (h1 : x < fC + 130) (h2 : m + 596 ≤ fC ∧ fC + 130 ≤ m + 596 + 130 * G3_0) (h3 : G3_0 + 15 ≤ 44) : x < m + 176 ∨ m + 176 + 1 ≤ x := by omega
theorem zx_X16_recurAtB_29 {G1_0 G1_1 G3_0 fC m x : Nat} (h0 : fC ≤ x) (h1 : x < fC + 130) (h2 : m + 596 ≤ fC ∧ fC + 130 ≤ m + 596 + 130 * G3_0) (h3 : G1_1 = G1_0 + 1) (h4 : G1_0 + 52 ≤ 160) (h5 : G3_0 + 15 ≤ 44) : x < m + 276 + 2 * G1_1 ∨ m + 276 + 2 * G1_1 + (320 - 2 * G1_1) ≤ x := by omega
theorem zx_X16_recurAtB_30 {G3_0 m q x : Nat} (h0 : q ≤ x) (h1 : x < q + 130) (h2 : m + 596 ≤ q ∧ q + 130 ≤ m + 596 + 130 * G3_0) (h3 : G3_0 + 15 ≤ 44) : x < m ∨ m + 1 ≤ x := by omega
theorem zx_X16_recurAtB_31 {G3_0 m q x : Nat} (h0 : q ≤ x) (h1 : x < q + 130) (h2 : m + 596 ≤ q ∧ q + 130 ≤ m + 596 + 130 * G3_0) (h3 : G3_0 + 15 ≤ 44) : x < m + 7594 ∨ m + 7594 + 728 ≤ x := by omega
theorem zx_X16_recurAtB_32 {G1_0 G3_0 m q x : Nat} (h0 : q ≤ x) (h1 : x < q + 130) (h2 : m + 596 ≤ q ∧ q + 130 ≤ m + 596 + 130 * G3_0) (h3 : G1_0 + 52 ≤ 160) (h4 : G3_0 + 15 ≤ 44) : x < m + 276 + 2 * G1_0 ∨ m + 276 + 2 * G1_0 + (320 - 2 * G1_0) ≤ x := by omega
theorem zx_X16_recurAtB_33 {G3_0 m q x : Nat} (h0 : q ≤ x) (h1 : x < q + 130) (h2 : m + 596 ≤ q ∧ q + 130 ≤ m + 596 + 130 * G3_0) (h3 : G3_0 + 15 ≤ 44) : x < m + 596 + 130 * G3_0 ∨ m + 596 + 130 * G3_0 + (5720 - 130 * G3_0) ≤ x := by omega
theorem zx_X16_recurAtB_34 {G3_0 m q x : Nat} (h0 : q ≤ x) (h1 : x < q + 130) (h2 : m + 596 ≤ q ∧ q + 130 ≤ m + 596 + 130 * G3_0) (h3 : G3_0 + 15 ≤ 44) : x < m + 149 ∨ m + 149 + 1 ≤ x := by omega
theorem zx_X16_recurAtB_35 {G3_0 m q x : Nat} (h0 : q ≤ x) (h1 : x < q + 130) (h2 : m + 596 ≤ q ∧ q + 130 ≤ m + 596 + 130 * G3_0) (h3 : G3_0 + 15 ≤ 44) : x < m + 177 ∨ m + 177 + 1 ≤ x := by omega
theorem zx_X16_recurAtB_36 {G3_0 m q x : Nat} (h0 : q ≤ x) (h1 : x < q + 130) (h2 : m + 596 ≤ q ∧ q + 130 ≤ m + 596 + 130 * G3_0) (h3 : G3_0 + 15 ≤ 44) : x < m + 178 ∨ m + 178 + 1 ≤ x := by omega
theorem zx_X16_recurAtB_37 {G3_0 m q x : Nat} (h0 : q ≤ x) (h1 : x < q + 130) (h2 : m + 596 ≤ q ∧ q + 130 ≤ m + 596 + 130 * G3_0) (h3 : G3_0 + 15 ≤ 44) : x < m + 176 ∨ m + 176 + 1 ≤ x := by omega
theorem zx_X16_recurAtB_38 {G1_0 G1_1 G3_0 m q x : Nat} (h0 : q ≤ x) (h1 : x < q + 130) (h2 : m + 596 ≤ q ∧ q + 130 ≤ m + 596 + 130 * G3_0) (h3 : G1_1 = G1_0 + 1) (h4 : G1_0 + 52 ≤ 160) (h5 : G3_0 + 15 ≤ 44) : x < m + 276 + 2 * G1_1 ∨ m + 276 + 2 * G1_1 + (320 - 2 * G1_1) ≤ x := by omega
theorem zx_X16_recurAtB_39 {G1_0 aD m x : Nat} (h0 : aD ≤ x) (h1 : x < aD + 2) (h2 : m + 276 ≤ aD ∧ aD + 2 ≤ m + 276 + 2 * G1_0) (h3 : G1_0 + 52 ≤ 160) : x < m ∨ m + 1 ≤ x := by omega
theorem zx_X16_recurAtB_40 {G1_0 aD m x : Nat} (h0 : aD ≤ x) (h1 : x < aD + 2) (h2 : m + 276 ≤ aD ∧ aD + 2 ≤ m + 276 + 2 * G1_0) (h3 : G1_0 + 52 ≤ 160) : x < m + 7594 ∨ m + 7594 + 728 ≤ x := by omega
theorem zx_X16_recurAtB_41 {G1_0 aD m x : Nat} (h0 : aD ≤ x) (h1 : x < aD + 2) (h2 : m + 276 ≤ aD ∧ aD + 2 ≤ m + 276 + 2 * G1_0) (h3 : G1_0 + 52 ≤ 160) : x < m + 276 + 2 * G1_0 ∨ m + 276 + 2 * G1_0 + (320 - 2 * G1_0) ≤ x := by omega
theorem zx_X16_recurAtB_42 {G1_0 G3_0 aD m x : Nat} (h0 : aD ≤ x) (h1 : x < aD + 2) (h2 : m + 276 ≤ aD ∧ aD + 2 ≤ m + 276 + 2 * G1_0) (h3 : G1_0 + 52 ≤ 160) (h4 : G3_0 + 15 ≤ 44) : x < m + 596 + 130 * G3_0 ∨ m + 596 + 130 * G3_0 + (5720 - 130 * G3_0) ≤ x := by omega
theorem zx_X16_recurAtB_43 {G1_0 aD m x : Nat} (h0 : aD ≤ x) (h1 : x < aD + 2) (h2 : m + 276 ≤ aD ∧ aD + 2 ≤ m + 276 + 2 * G1_0) (h3 : G1_0 + 52 ≤ 160) : x < m + 149 ∨ m + 149 + 1 ≤ x := by omega
theorem zx_X16_recurAtB_44 {G1_0 aD m x : Nat} (h0 : aD ≤ x) (h1 : x < aD + 2) (h2 : m + 276 ≤ aD ∧ aD + 2 ≤ m + 276 + 2 * G1_0) (h3 : G1_0 + 52 ≤ 160) : x < m + 177 ∨ m + 177 + 1 ≤ x := by omega
theorem zx_X16_recurAtB_45 {G1_0 aD m x : Nat} (h0 : aD ≤ x) (h1 : x < aD + 2) (h2 : m + 276 ≤ aD ∧ aD + 2 ≤ m + 276 + 2 * G1_0) (h3 : G1_0 + 52 ≤ 160) : x < m + 178 ∨ m + 178 + 1 ≤ x := by omega
theorem zx_X16_recurAtB_46 {G1_0 aD m x : Nat} (h0 : aD ≤ x) (h1 : x < aD + 2) (h2 : m + 276 ≤ aD ∧ aD + 2 ≤ m + 276 + 2 * G1_0) (h3 : G1_0 + 52 ≤ 160) : x < m + 176 ∨ m + 176 + 1 ≤ x := by omega
theorem zx_X16_recurAtB_47 {G1_0 G1_1 aD m x : Nat} (h0 : aD ≤ x) (h1 : x < aD + 2) (h2 : m + 276 ≤ aD ∧ aD + 2 ≤ m + 276 + 2 * G1_0) (h3 : G1_1 = G1_0 + 1) (h4 : G1_0 + 52 ≤ 160) : x < m + 276 + 2 * G1_1 ∨ m + 276 + 2 * G1_1 + (320 - 2 * G1_1) ≤ x := by omega
theorem zx_X16_recurAtB_48 {m : Nat}  : (m + 180) < m ∨ m + 1 ≤ (m + 180) := by omega
theorem zx_X16_recurAtB_49 {m : Nat}  : (m + 180) < m + 7594 ∨ m + 7594 + 728 ≤ (m + 180) := by omega
theorem zx_X16_recurAtB_50 {G1_0 m : Nat} (h0 : G1_0 + 52 ≤ 160) : (m + 180) < m + 276 + 2 * G1_0 ∨ m + 276 + 2 * G1_0 + (320 - 2 * G1_0) ≤ (m + 180) := by omega
theorem zx_X16_recurAtB_51 {G3_0 m : Nat} (h0 : G3_0 + 15 ≤ 44) : (m + 180) < m + 596 + 130 * G3_0 ∨ m + 596 + 130 * G3_0 + (5720 - 130 * G3_0) ≤ (m + 180) := by omega
theorem zx_X16_recurAtB_52 {m : Nat}  : (m + 180) < m + 149 ∨ m + 149 + 1 ≤ (m + 180) := by omega
theorem zx_X16_recurAtB_53 {m : Nat}  : (m + 180) < m + 177 ∨ m + 177 + 1 ≤ (m + 180) := by omega
theorem zx_X16_recurAtB_54 {m : Nat}  : (m + 180) < m + 178 ∨ m + 178 + 1 ≤ (m + 180) := by omega
theorem zx_X16_recurAtB_55 {m : Nat}  : (m + 180) < m + 176 ∨ m + 176 + 1 ≤ (m + 180) := by omega
theorem zx_X16_recurAtB_56 {G1_0 G1_1 m : Nat} (h0 : G1_1 = G1_0 + 1) (h1 : G1_0 + 52 ≤ 160) : (m + 180) < m + 276 + 2 * G1_1 ∨ m + 276 + 2 * G1_1 + (320 - 2 * G1_1) ≤ (m + 180) := by omega
theorem zx_X16_recurAtB_57 {m x : Nat} (h0 : x < m + 176 ∨ m + 176 + 3 ≤ x) : x < m + 177 ∨ m + 177 + 1 ≤ x := by omega
theorem zx_X16_recurAtB_58 {m x : Nat} (h0 : x < m + 176 ∨ m + 176 + 3 ≤ x) : x < m + 178 ∨ m + 178 + 1 ≤ x := by omega
theorem zx_X16_recurAtB_59 {m x : Nat} (h0 : x < m + 176 ∨ m + 176 + 3 ≤ x) : x < m + 176 ∨ m + 176 + 1 ≤ x := by omega
theorem zx_X16_recurAtB_60 {G1_0 G1_1 m x : Nat} (h0 : x < m + 276 + 2 * G1_0 ∨ m + 276 + 2 * G1_0 + (320 - 2 * G1_0) ≤ x) (h1 : G1_1 = G1_0 + 1) (h2 : G1_0 + 52 ≤ 160) : x < m + 276 + 2 * G1_1 ∨ m + 276 + 2 * G1_1 + (320 - 2 * G1_1) ≤ x := by omega
theorem zx_X16_recurAtB_61 {m x : Nat} (h0 : m + 149 ≤ x) (h1 : x < m + 149 + 27) : x < m + 83 ∨ m + 83 + 9 ≤ x := by omega
set_option maxHeartbeats 8000000 in
set_option maxRecDepth 100000 in
theorem c_X16_recurAtB {w : zM} {g : Nat → Int32} {r : Nat → Value} {fA fB fC aU aD : Nat} {PA0 PB0 PC0 : zA2} {Pu Pd : zA1} {Pq : zA2} {fp fq : Nat → Option Nat}  {g1 : Int32} {g3 : Int32} (m : Nat) (j9 : Int32) (q : Nat) (depth9 : Int32) (TB : Nat) (DA : Nat) (Qf : Nat → zA2) (Df : Nat → zA1) (hm : w m = some (.inl (15, zMo m g r))) (hR_m : zR m w) (hrA : r 39 = .ref fA) (hrB : r 40 = .ref fB) (hrC : r 41 = .ref fC) (hrU : r 42 = .ref aU) (hrD : r 43 = .ref aD) (hB_fA : zB w fA PA0) (hB_fB : zB w fB PB0) (hB_fC : zB w fC PC0) (hU_aU : zU w aU 1000 Pu) (hU_aD : zU w aD 1000 Pd) (hTm_m_83 : zTm w (m + 83)) (hBd_m_149 : zBd w (m + 149)) (hB_q : zB w q Pq) (hV_m_179 : w (m + 179) = some (.inr (5, 4, .inr fp))) (hV_m_180 : w (m + 180) = some (.inr (4, 4, .inr fq))) (hut : 0 ≤ g1.toInt ∧ g1.toInt + 52 ≤ 160) (hbt : 0 ≤ g3.toInt ∧ g3.toInt + 15 ≤ 44) (hmfA : m + 596 ≤ fA ∧ fA + 130 ≤ m + 596 + 130 * g3.toNatClampNeg) (hmfB : m + 596 ≤ fB ∧ fB + 130 ≤ m + 596 + 130 * g3.toNatClampNeg) (hmfC : m + 596 ≤ fC ∧ fC + 130 ≤ m + 596 + 130 * g3.toNatClampNeg) (hmaU : m + 276 ≤ aU ∧ aU + 2 ≤ m + 276 + 2 * g1.toNatClampNeg) (hmaD : m + 276 ≤ aD ∧ aD + 2 ≤ m + 276 + 2 * g1.toNatClampNeg) (hfs : (0 < zrw PA0 ∧ zrw PA0 ≤ 9 ∧ zdn PA0 + zln Pu ≤ 13 ∧ 0 < zln Pu) ∧ (0 < zrw PB0 ∧ zrw PB0 ≤ 9 ∧ zdn PB0 ≤ 12) ∧ (0 < zrw PC0 ∧ zrw PC0 ≤ 9 ∧ zdn PC0 ≤ 12) ∧ 0 < zln Pd ∧ zln Pd ≤ 13) (hmq : m + 596 ≤ q ∧ q + 130 ≤ m + 596 + 130 * g3.toNatClampNeg) (hdq9 : -200 ≤ depth9.toInt ∧ depth9.toInt ≤ 8) (hj9 : 0 ≤ j9.toInt ∧ j9.toInt ≤ 3) (hTB : m + 596 ≤ TB ∧ TB + 130 * j9.toNatClampNeg + 130 ≤ m + 596 + 130 * g3.toNatClampNeg) (hDA : m + 276 ≤ DA ∧ DA + 2 * j9.toNatClampNeg + 2 ≤ m + 276 + 2 * g1.toNatClampNeg) (hft9 : ∀ t, t ≤ j9.toNatClampNeg → (fp t = some (TB + 130 * t) ∧ zB w (TB + 130 * t) (Qf t) ∧ zrw (Qf t) ≤ 9 ∧ zdn (Qf t) ≤ 12) ∧ fq t = some (DA + 2 * t) ∧ zU w (DA + 2 * t) 1000 (Df t) ∧ 0 < zln (Df t) ∧ zln (Df t) ≤ 13) (hqs9 : 0 < zrw Pq ∧ zrw Pq ≤ 9 ∧ zdn Pq ≤ 12) (hg1 : g 1 = g1) (hg3 : g 3 = g3) : zConPN 12 (m + 8322) 1 4 zq_X16_recurAt 283 [(0, .ref m), (1, .int j9), (2, .ref q), (10, .int depth9)] w (fun v9 w9' => ∃ G9 : Nat → Int32, ∃ R9 : Nat → Value, zSI w w9' ∧ (∀ x, (x < m ∨ m + 1 ≤ x) ∧ (x < m + 83 ∨ m + 83 + 9 ≤ x) ∧ (x < m + 149 ∨ m + 149 + 1 ≤ x) ∧ (x < m + 176 ∨ m + 176 + 3 ≤ x) ∧ (x < m + 7594 ∨ m + 7594 + 728 ≤ x) ∧ (x < m + 276 + 2 * g1.toNatClampNeg ∨ m + 276 + 2 * g1.toNatClampNeg + (320 - 2 * g1.toNatClampNeg) ≤ x) ∧ (x < m + 596 + 130 * g3.toNatClampNeg ∨ m + 596 + 130 * g3.toNatClampNeg + (5720 - 130 * g3.toNatClampNeg) ≤ x) ∧ (x < m + 3 ∨ m + 3 + 1 ≤ x) ∧ (x < m + 5 ∨ m + 5 + 64 ≤ x) ∧ (x < m + 8322 ∨ m + 8322 + 1000000000000 ≤ x) → w9' x = w x) ∧ w9' m = some (.inl (15, zMo m G9 R9)) ∧ zTm w9' (m + 83) ∧ zBd w9' (m + 149) ∧ ((G9 12).toInt = (g 12).toInt ∧ (G9 24).toInt = (g 24).toInt ∧ G9 29 = g 29 ∧ (G9 31).toInt = (g 31).toInt) ∧ ∃ r9 : Int32, v9 = some (.int r9) ∧ (r9.toInt ≠ -1 → r9.toInt ≠ -2 → zTi w9' (m + 83) 3)) := by
  subst hg1
  subst hg3
  intro d sz hd hsz9 hsz8 hno9
  obtain ⟨d, rfl⟩ : ∃ d9, d = d9 + 1 := ⟨d - 1, by omega⟩
  generalize hPost : (fun (r9' : Option (Option Value)) (w9' : zM) (z9 : Nat) => (sz ≤ z9 ∧ z9 ≤ sz + 1) ∧ (∀ x, z9 ≤ x → w9' x = none) ∧ ∃ v9, r9' = some v9 ∧ (∃ G9 : Nat → Int32, ∃ R9 : Nat → Value, zSI w w9' ∧ (∀ x, (x < m ∨ m + 1 ≤ x) ∧ (x < m + 83 ∨ m + 83 + 9 ≤ x) ∧ (x < m + 149 ∨ m + 149 + 1 ≤ x) ∧ (x < m + 176 ∨ m + 176 + 3 ≤ x) ∧ (x < m + 7594 ∨ m + 7594 + 728 ≤ x) ∧ (x < m + 276 + 2 * (g 1).toNatClampNeg ∨ m + 276 + 2 * (g 1).toNatClampNeg + (320 - 2 * (g 1).toNatClampNeg) ≤ x) ∧ (x < m + 596 + 130 * (g 3).toNatClampNeg ∨ m + 596 + 130 * (g 3).toNatClampNeg + (5720 - 130 * (g 3).toNatClampNeg) ≤ x) ∧ (x < m + 3 ∨ m + 3 + 1 ≤ x) ∧ (x < m + 5 ∨ m + 5 + 64 ≤ x) ∧ (x < m + 8322 ∨ m + 8322 + 1000000000000 ≤ x) → w9' x = w x) ∧ w9' m = some (.inl (15, zMo m G9 R9)) ∧ zTm w9' (m + 83) ∧ zBd w9' (m + 149) ∧ ((G9 12).toInt = (g 12).toInt ∧ (G9 24).toInt = (g 24).toInt ∧ G9 29 = g 29 ∧ (G9 31).toInt = (g 31).toInt) ∧ ∃ r9 : Int32, v9 = some (.int r9) ∧ (r9.toInt ≠ -1 → r9.toInt ≠ -2 → zTi w9' (m + 83) 3))) = Post
  show zP (d + 1) zq_X16_recurAt 283 [(0, .ref m), (1, .int j9), (2, .ref q), (10, .int depth9)] [] w sz 1 4 Post
  have k1 := zrng j9
  have k2 := zrng depth9
  have k3 := zrng (g 1)
  have hz4 : ((g 1).toNatClampNeg : Int) = (g 1).toInt := znat (by first | omega | decide)
  have hgb1 : (g 1).toNatClampNeg + 52 ≤ 160 := by omega
  have k5 := zrng (g 3)
  have hz6 : ((g 3).toNatClampNeg : Int) = (g 3).toInt := znat (by first | omega | decide)
  have hgb3 : (g 3).toNatClampNeg + 15 ≤ 44 := by omega
  have hz7 : (j9.toNatClampNeg : Int) = j9.toInt := znat (by first | omega | decide)
  have k9 := zaddC (g 1) 1 (n := 1) (by decide) (by omega) (by omega)
  have hz10 : ((g 1 + 1).toNatClampNeg : Int) = (g 1 + 1).toInt := znat (by first | omega | decide)
  have hgn1_1 : (g 1 + 1).toNatClampNeg = (g 1).toNatClampNeg + 1 := by omega
  refine zp_seg (pc' := 286) (lv' := [(0, .ref m), (1, .int j9), (2, .ref q), (10, .int depth9)]) (st' := [.int depth9, .ref m]) [(283, .aload_n 0), (284, .iload 10)] (by decide +kernel) rfl ?_
  refine zp_seg (pc' := 287) (lv' := [(0, .ref m), (1, .int j9), (2, .ref q), (10, .int depth9)]) (st' := [.ref m, .int depth9, .ref m]) [(286, .aload_n 0)] (by decide +kernel) rfl ?_
  refine zr_get (idx := 499) (k := 49) (v := .ref (m + 179)) (by decide +kernel) (by decide +kernel) hm rfl ?_
  refine zp_seg (pc' := 293) (lv' := [(0, .ref m), (1, .int j9), (2, .ref q), (10, .int depth9)]) (st' := [.int (j9 + 1), .ref (m + 179), .int depth9, .ref m]) [(290, .iload_n 1), (291, .iconst 1), (292, .iadd)] (by decide +kernel) rfl ?_
  have k11 := zaddC j9 1 (n := 1) (by decide) (by omega) (by omega)
  generalize ev293 : (j9 + 1 : Int32) = v293 at k11 ⊢
  have kv293 := zrng v293
  obtain ⟨sgB, hBqB⟩ := (hBd_m_149).q
  have hmy9 : v293.toInt = j9.toInt + 1 := by omega
  have hz12 : (v293.toNatClampNeg : Int) = v293.toInt := znat (by first | omega | decide)
  have hft8 : ∀ t, t < v293.toNatClampNeg → fp t = some (TB + 130 * t) ∧ zB w (TB + 130 * t) (Qf t) ∧ zrw (Qf t) ≤ 9 ∧ zdn (Qf t) ≤ 12 := by
    intro t ht
    obtain ⟨h9, -⟩ := hft9 t (by omega)
    exact h9
  refine zr_callV (idx := 731) (j := 386) (by decide +kernel) (by decide +kernel) (show zMe 386 = some zq_X16_lay from rfl) rfl rfl (Nat.le_of_ble_eq_true rfl) rfl rfl hm (Nat.le_of_ble_eq_true rfl) (Nat.le_of_ble_eq_true rfl) (c_X16_lay (w := w) (g1 := (g 1)) (g3 := (g 3)) m depth9 (m + 179) v293 TB Qf hm hR_m hBqB hrA hrB hrC hrU hrD hB_fA hB_fB hB_fC hU_aU hU_aD hV_m_179 (by first | omega | decide | assumption | exact zr1_1 | exact zr1_0 | fail "num") (by first | omega | decide | assumption | exact zr1_1 | exact zr1_0 | fail "num") (by first | omega | decide | assumption | exact zr1_1 | exact zr1_0 | fail "num") (by first | omega | decide | assumption | exact zr1_1 | exact zr1_0 | fail "num") (by first | omega | decide | assumption | exact zr1_1 | exact zr1_0 | fail "num") (by first | omega | decide | assumption | exact zr1_1 | exact zr1_0 | fail "num") (by first | omega | decide | assumption | exact zr1_1 | exact zr1_0 | fail "num") (by first | omega | decide | assumption | exact zr1_1 | exact zr1_0 | fail "num") (by first | omega | decide | assumption | exact zr1_1 | exact zr1_0 | fail "num") (by first | omega | decide | assumption | exact zr1_1 | exact zr1_0 | fail "num") (by first | omega | decide | assumption | exact zr1_1 | exact zr1_0 | fail "num") (by first | omega | decide | assumption | exact zr1_1 | exact zr1_0 | fail "num") (by exact hft8) rfl rfl) (by omega) (fun v293 w293 hp293 => ?_)
  obtain ⟨N26_293, B9_293, cc_293, hsi293, heq293, hp293_0, hp293_1, hp293_2, hp293_3, hp293_4, hp293_5, r293, rfl, hr293⟩ := hp293
  have hM293 : w293 m = some (.inl (15, zMo m (zs g 48 N26_293) r)) := hp293_0
  have kr293 := zrng r293
  show zP _ _ _ _ [.int r293] _ _ _ _ _
  refine zp_seg (pc' := 298) (lv' := [(11, .int r293), (0, .ref m), (1, .int j9), (2, .ref q), (10, .int depth9)]) (st' := []) [(296, .istore 11)] (by decide +kernel) rfl ?_
  have hz13 : (r293.toNatClampNeg : Int) = r293.toInt := znat (by first | omega | decide)
  have hcc9 : r293.toNatClampNeg = cc_293 := by omega
  refine zp_seg (pc' := 301) (lv' := [(11, .int r293), (0, .ref m), (1, .int j9), (2, .ref q), (10, .int depth9)]) (st' := [.int r293, .ref m]) [(298, .aload_n 0), (299, .iload 11)] (by decide +kernel) rfl ?_
  have k14 := zrng N26_293
  have hb15 := hR_m.si hsi293
  refine zr_callV (idx := 735) (j := 387) (by decide +kernel) (by decide +kernel) (show zMe 387 = some zq_X16_clear from rfl) rfl rfl (Nat.le_of_ble_eq_true rfl) rfl rfl hM293 (Nat.le_of_ble_eq_true rfl) (Nat.le_of_ble_eq_true rfl) (c_X16_clear (w := w293) (g1 := (g 1)) (g48 := N26_293) m r293 hM293 hb15 hp293_1 (by first | omega | decide | assumption | exact zr1_1 | exact zr1_0 | fail "num") (by first | omega | decide | assumption | exact zr1_1 | exact zr1_0 | fail "num") (by first | omega | decide | assumption | exact zr1_1 | exact zr1_0 | fail "num") (by rw [hcc9]; exact hp293_3) (by exact fun i k hi hk => hp293_4 i k hi (by omega)) (by exact fun r9 h1 h2 => by omega) rfl rfl) (by omega) (fun v301 w301 hp301 => ?_)
  obtain ⟨ip_301, pv_301, s2_301, B2_301, Lp_301, rk_301, hsi301, heq301, hp301_0, hp301_1, hp301_2, hp301_3, hp301_4, hp301_5, hp301_6, hp301_7, hp301_8, hp301_9, rfl⟩ := hp301
  have hM301 : w301 m = some (.inl (15, zMo m (zs (zs g 1 (g 1 + 1)) 48 N26_293) r)) := hp301_0
  show zP _ _ _ _ [.ref (m + 276 + 2 * (g 1).toNatClampNeg)] _ _ _ _ _
  refine zp_seg (pc' := 311) (lv' := [(12, .ref (m + 276 + 2 * (g 1).toNatClampNeg)), (11, .int r293), (0, .ref m), (1, .int j9), (2, .ref q), (10, .int depth9)]) (st' := [.int (depth9 + 1), .int 0]) [(304, .astore 12), (306, .iconst 0), (307, .iload 10), (309, .iconst 1), (310, .iadd)] (by decide +kernel) rfl ?_
  have k16 := zaddC depth9 1 (n := 1) (by decide) (by omega) (by omega)
  generalize ev311 : (depth9 + 1 : Int32) = v311 at k16 ⊢
  have kv311 := zrng v311
  have hl17 : (0 : Int32).toInt = 0 := by decide
  refine zr_max (idx := 40) (by decide +kernel) (by decide +kernel) (by omega) (Nat.le_of_ble_eq_true rfl) ?_
  obtain ⟨m18, em18, hm18⟩ := zmaxI 0 v311
  rw [← em18]
  have km18 := zrng m18
  refine zp_seg (pc' := 316) (lv' := [(13, .int m18), (12, .ref (m + 276 + 2 * (g 1).toNatClampNeg)), (11, .int r293), (0, .ref m), (1, .int j9), (2, .ref q), (10, .int depth9)]) (st' := []) [(314, .istore 13)] (by decide +kernel) rfl ?_
  have hz20 : (m18.toNatClampNeg : Int) = m18.toInt := znat (by first | omega | decide)
  have hfr9 : 0 ≤ m18.toInt ∧ m18.toInt ≤ 9 ∧ r293.toInt = m18.toInt + j9.toInt + 1 := by omega
  refine zp_seg (pc' := 320) (lv' := [(14, .int m18), (13, .int m18), (12, .ref (m + 276 + 2 * (g 1).toNatClampNeg)), (11, .int r293), (0, .ref m), (1, .int j9), (2, .ref q), (10, .int depth9)]) (st' := []) [(316, .iload 13), (318, .istore 14)] (by decide +kernel) rfl ?_
  have hL320 : ∀ (mm320 : Nat) (y14_320 : Int32), (m18.toInt ≤ y14_320.toInt) → (y14_320.toInt ≤ r293.toInt) → (40 - y14_320.toInt).toNat < mm320 → zP (d + 1) zq_X16_recurAt 320 [(0, .ref m), (2, .ref q), (11, .int r293), (12, .ref (m + 276 + 2 * (g 1).toNatClampNeg)), (13, .int m18), (14, .int y14_320)] [] w301 sz 1 4 Post := by
    intro mm320
    induction mm320 with
    | zero => intros; omega
    | succ mm320 ih320 =>
    intro y14_320 hi320_0 hi320_1 hmu320
    have ky14_320 := zrng y14_320
    have hz21 : (y14_320.toNatClampNeg : Int) = y14_320.toInt := znat (by first | omega | decide)
    refine zp_seg (pc' := 324) (lv' := [(0, .ref m), (2, .ref q), (11, .int r293), (12, .ref (m + 276 + 2 * (g 1).toNatClampNeg)), (13, .int m18), (14, .int y14_320)]) (st' := [.int r293, .int y14_320]) [(320, .iload 14), (322, .iload 11)] (by decide +kernel) rfl ?_
    have hJ343 : ∀ (_ : True), zP (d + 1) zq_X16_recurAt 343 [(0, .ref m), (2, .ref q), (11, .int r293), (12, .ref (m + 276 + 2 * (g 1).toNatClampNeg)), (13, .int m18), (14, .int y14_320)] [] w301 sz 1 4 Post := by
      intro _
      refine zp_seg (pc' := 347) (lv' := [(0, .ref m), (2, .ref q), (11, .int r293), (12, .ref (m + 276 + 2 * (g 1).toNatClampNeg)), (13, .int m18), (14, .int y14_320)]) (st' := [.int r293, .int y14_320]) [(343, .iload 14), (345, .iload 11)] (by decide +kernel) rfl ?_
      refine zp_if (i := .if_icmp .ne 5) (c := ¬ y14_320 = r293) (t := 352) (e := 350) (lv' := [(0, .ref m), (2, .ref q), (11, .int r293), (12, .ref (m + 276 + 2 * (g 1).toNatClampNeg)), (13, .int m18), (14, .int y14_320)]) (st' := []) (by decide +kernel) rfl (fun cc347 => ?_) (fun cc347 => ?_)
      ·
        have f22 := zneI cc347
        have hne9 : y14_320.toInt < r293.toInt := by have h9 : ¬ y14_320.toInt = r293.toInt := (fun e => cc347 (Int32.toInt_inj.mp e)); omega
        refine zp_seg (pc' := 359) (lv' := [(0, .ref m), (2, .ref q), (11, .int r293), (12, .ref (m + 276 + 2 * (g 1).toNatClampNeg)), (13, .int m18), (14, .int y14_320)]) (st' := [.ref (m + 276 + 2 * (g 1).toNatClampNeg), .int r293, .int y14_320, .ref m]) [(352, .aload_n 0), (353, .iload 14), (355, .iload 11), (357, .aload 12)] (by decide +kernel) rfl ?_
        have hb23 := hb15.si hsi301
        refine zr_callV (idx := 739) (j := 388) (by decide +kernel) (by decide +kernel) (show zMe 388 = some zq_X16_solveBy from rfl) rfl rfl (Nat.le_of_ble_eq_true rfl) rfl rfl hM301 (Nat.le_of_ble_eq_true rfl) (Nat.le_of_ble_eq_true rfl) (c_X16_solveBy (w := w301) (g1 := (g 1 + 1)) (g48 := N26_293) m y14_320 r293 (m + 276 + 2 * (g 1).toNatClampNeg) hM301 hb23 hp301_1 hp301_2 hp301_3 hp301_4 (by first | omega | decide | assumption | exact zr1_1 | exact zr1_0 | fail "num") (by first | omega | decide | assumption | exact zr1_1 | exact zr1_0 | fail "num") (by first | omega | decide | assumption | exact zr1_1 | exact zr1_0 | fail "num") (by first | omega | decide | assumption | exact zr1_1 | exact zr1_0 | fail "num") (by exact hp301_5) (by exact ⟨hp301_6.2.1, hp301_6.2.2⟩) (by exact hp301_7) (by first | omega | decide | assumption | exact zr1_1 | exact zr1_0 | fail "num") rfl rfl) (by omega) (fun v359 w359 hp359 => ?_)
        obtain ⟨X9_359, fw_359, Pg_359, hsi359, heq359, hp359_0, hp359_1, hp359_2, hp359_3, hp359_4, rfl⟩ := hp359
        have hM359 : w359 m = some (.inl (15, zMo m (zs (zs g 1 X9_359) 48 N26_293) r)) := hp359_0
        show zP _ _ _ _ [] _ _ _ _ _
        refine zp_seg (pc' := 370) (lv' := [(0, .ref m), (2, .ref q), (11, .int r293), (12, .ref (m + 276 + 2 * (g 1).toNatClampNeg)), (13, .int m18), (14, .int y14_320)]) (st' := [.int (y14_320 - m18), .int m18, .ref m]) [(362, .aload_n 0), (363, .iload 13), (365, .iload 14), (367, .iload 13), (369, .isub)] (by decide +kernel) rfl ?_
        have k24 := zsub y14_320 m18 (by omega) (by omega)
        generalize ev370 : (y14_320 - m18 : Int32) = v370 at k24 ⊢
        have kv370 := zrng v370
        refine zp_seg (pc' := 371) (lv' := [(0, .ref m), (2, .ref q), (11, .int r293), (12, .ref (m + 276 + 2 * (g 1).toNatClampNeg)), (13, .int m18), (14, .int y14_320)]) (st' := [.ref q, .int v370, .int m18, .ref m]) [(370, .aload_n 2)] (by decide +kernel) rfl ?_
        have hz25 : (v370.toNatClampNeg : Int) = v370.toInt := znat (by first | omega | decide)
        have hsl9 : v370.toInt = y14_320.toInt - m18.toInt := by omega
        have hsv9 : ∀ t, t ≤ m18.toNatClampNeg + v370.toNatClampNeg → fw_359 t = some (m + 276 + 2 * (g 1 + 1).toNatClampNeg + 2 * t) ∧ zU w359 (m + 276 + 2 * (g 1 + 1).toNatClampNeg + 2 * t) 1000 (Pg_359 t) ∧ zln (Pg_359 t) ≤ 499 := fun t ht => hp359_3 t (by omega)
        have hft7 : ∀ t, t ≤ v370.toNatClampNeg → fq t = some (DA + 2 * t) ∧ zU w359 (DA + 2 * t) 1000 (Df t) ∧ 0 < zln (Df t) ∧ zln (Df t) ≤ 13 := by
          intro t ht
          obtain ⟨-, h5, h6, h7, h8⟩ := hft9 t (by omega)
          exact ⟨h5, h6.ag (fun x g1 g2 => ((heq359 x (by omega)).trans ((heq301 x (by omega)).trans (heq293 x (by omega))))), h7, h8⟩
        have hb26 : zBq w359 m s2_301 := hp301_1.ag (fun x hx1 hx2 => (heq359 x ⟨(zx_X16_recurAtB_0 hx1 hx2), (zx_X16_recurAtB_1 hx1 hx2), (zx_X16_recurAtB_2 hx1 hx2 hgn1_1 hgb1)⟩))
        have hBd8 := (hb26).d
        have k27 := zrng X9_359
        have hz28 : (X9_359.toNatClampNeg : Int) = X9_359.toInt := znat (by first | omega | decide)
        have hb29 := hb23.si hsi359
        have hb30 : zTm w359 (m + 83) := hTm_m_83.ag (fun x hx1 hx2 => ((heq359 x ⟨(zx_X16_recurAtB_3 hx1 hx2), (zx_X16_recurAtB_10 hx1 hx2), (zx_X16_recurAtB_11 hx1 hx2 hgn1_1 hgb1)⟩).trans ((heq301 x ⟨(zx_X16_recurAtB_3 hx1 hx2), (zx_X16_recurAtB_7 hx1 hx2), (zx_X16_recurAtB_8 hx1 hx2), (zx_X16_recurAtB_9 hx1 hx2), (zx_X16_recurAtB_4 hx1 hx2), (zx_X16_recurAtB_5 hx1 hx2 hgb1)⟩).trans (heq293 x ⟨(zx_X16_recurAtB_3 hx1 hx2), (zx_X16_recurAtB_4 hx1 hx2), (zx_X16_recurAtB_5 hx1 hx2 hgb1), (zx_X16_recurAtB_6 hx1 hx2 hgb3)⟩))))
        have hb31 : zB w359 fB PB0 := hB_fB.ag (fun x hx1 hx2 => ((heq359 x ⟨(zx_X16_recurAtB_12 hx1 hx2 hmfB hgb3), (zx_X16_recurAtB_19 hx1 hx2 hmfB hgb3), (zx_X16_recurAtB_20 hx1 hx2 hmfB hgn1_1 hgb1 hgb3)⟩).trans ((heq301 x ⟨(zx_X16_recurAtB_12 hx1 hx2 hmfB hgb3), (zx_X16_recurAtB_16 hx1 hx2 hmfB hgb3), (zx_X16_recurAtB_17 hx1 hx2 hmfB hgb3), (zx_X16_recurAtB_18 hx1 hx2 hmfB hgb3), (zx_X16_recurAtB_13 hx1 hx2 hmfB hgb3), (zx_X16_recurAtB_14 hx1 hx2 hmfB hgb1 hgb3)⟩).trans (heq293 x ⟨(zx_X16_recurAtB_12 hx1 hx2 hmfB hgb3), (zx_X16_recurAtB_13 hx1 hx2 hmfB hgb3), (zx_X16_recurAtB_14 hx1 hx2 hmfB hgb1 hgb3), (zx_X16_recurAtB_15 hx1 hx2 hmfB hgb3)⟩))))
        have hb32 : zB w359 fC PC0 := hB_fC.ag (fun x hx1 hx2 => ((heq359 x ⟨(zx_X16_recurAtB_21 hx1 hx2 hmfC hgb3), (zx_X16_recurAtB_28 hx1 hx2 hmfC hgb3), (zx_X16_recurAtB_29 hx1 hx2 hmfC hgn1_1 hgb1 hgb3)⟩).trans ((heq301 x ⟨(zx_X16_recurAtB_21 hx1 hx2 hmfC hgb3), (zx_X16_recurAtB_25 hx1 hx2 hmfC hgb3), (zx_X16_recurAtB_26 hx1 hx2 hmfC hgb3), (zx_X16_recurAtB_27 hx1 hx2 hmfC hgb3), (zx_X16_recurAtB_22 hx1 hx2 hmfC hgb3), (zx_X16_recurAtB_23 hx1 hx2 hmfC hgb1 hgb3)⟩).trans (heq293 x ⟨(zx_X16_recurAtB_21 hx1 hx2 hmfC hgb3), (zx_X16_recurAtB_22 hx1 hx2 hmfC hgb3), (zx_X16_recurAtB_23 hx1 hx2 hmfC hgb1 hgb3), (zx_X16_recurAtB_24 hx1 hx2 hmfC hgb3)⟩))))
        have hb33 : zB w359 q Pq := hB_q.ag (fun x hx1 hx2 => ((heq359 x ⟨(zx_X16_recurAtB_30 hx1 hx2 hmq hgb3), (zx_X16_recurAtB_37 hx1 hx2 hmq hgb3), (zx_X16_recurAtB_38 hx1 hx2 hmq hgn1_1 hgb1 hgb3)⟩).trans ((heq301 x ⟨(zx_X16_recurAtB_30 hx1 hx2 hmq hgb3), (zx_X16_recurAtB_34 hx1 hx2 hmq hgb3), (zx_X16_recurAtB_35 hx1 hx2 hmq hgb3), (zx_X16_recurAtB_36 hx1 hx2 hmq hgb3), (zx_X16_recurAtB_31 hx1 hx2 hmq hgb3), (zx_X16_recurAtB_32 hx1 hx2 hmq hgb1 hgb3)⟩).trans (heq293 x ⟨(zx_X16_recurAtB_30 hx1 hx2 hmq hgb3), (zx_X16_recurAtB_31 hx1 hx2 hmq hgb3), (zx_X16_recurAtB_32 hx1 hx2 hmq hgb1 hgb3), (zx_X16_recurAtB_33 hx1 hx2 hmq hgb3)⟩))))
        have hb34 : zU w359 aD 1000 Pd := hU_aD.ag (fun x hx1 hx2 => ((heq359 x ⟨(zx_X16_recurAtB_39 hx1 hx2 hmaD hgb1), (zx_X16_recurAtB_46 hx1 hx2 hmaD hgb1), (zx_X16_recurAtB_47 hx1 hx2 hmaD hgn1_1 hgb1)⟩).trans ((heq301 x ⟨(zx_X16_recurAtB_39 hx1 hx2 hmaD hgb1), (zx_X16_recurAtB_43 hx1 hx2 hmaD hgb1), (zx_X16_recurAtB_44 hx1 hx2 hmaD hgb1), (zx_X16_recurAtB_45 hx1 hx2 hmaD hgb1), (zx_X16_recurAtB_40 hx1 hx2 hmaD hgb1), (zx_X16_recurAtB_41 hx1 hx2 hmaD hgb1)⟩).trans (heq293 x ⟨(zx_X16_recurAtB_39 hx1 hx2 hmaD hgb1), (zx_X16_recurAtB_40 hx1 hx2 hmaD hgb1), (zx_X16_recurAtB_41 hx1 hx2 hmaD hgb1), (zx_X16_recurAtB_42 hx1 hx2 hmaD hgb1 hgb3)⟩))))
        have hb35 : w359 (m + 180) = some (.inr (4, 4, .inr fq)) := ((heq359 (m + 180) ⟨(zx_X16_recurAtB_48), (zx_X16_recurAtB_55), (zx_X16_recurAtB_56 hgn1_1 hgb1)⟩).trans ((heq301 (m + 180) ⟨(zx_X16_recurAtB_48), (zx_X16_recurAtB_52), (zx_X16_recurAtB_53), (zx_X16_recurAtB_54), (zx_X16_recurAtB_49), (zx_X16_recurAtB_50 hgb1)⟩).trans (heq293 (m + 180) ⟨(zx_X16_recurAtB_48), (zx_X16_recurAtB_49), (zx_X16_recurAtB_50 hgb1), (zx_X16_recurAtB_51 hgb3)⟩))).trans hV_m_180
        refine zr_callVN (cm := 1) (cs := 4) (idx := 758) (j := 395) (by decide +kernel) (by decide +kernel) (show zMe 395 = some zq_X16_makeRecord from rfl) rfl rfl rfl (Nat.le_of_ble_eq_true rfl) rfl rfl hM359 (Nat.le_of_ble_eq_true rfl) (Nat.le_of_ble_eq_true rfl) (c_X16_makeRecord (w := w359) (g1 := X9_359) (g3 := (g 3)) m m18 v370 q (m + 276 + 2 * (g 1 + 1).toNatClampNeg) DA Pg_359 Df hM359 hb29 hrB hrC hrD hb30 hb31 hb32 hb33 hb34 hp359_1 hb35 (by first | omega | decide | assumption | exact zr1_1 | exact zr1_0 | fail "num") (by first | omega | decide | assumption | exact zr1_1 | exact zr1_0 | fail "num") (by first | omega | decide | assumption | exact zr1_1 | exact zr1_0 | fail "num") (by first | omega | decide | assumption | exact zr1_1 | exact zr1_0 | fail "num") (by first | omega | decide | assumption | exact zr1_1 | exact zr1_0 | fail "num") (by first | omega | decide | assumption | exact zr1_1 | exact zr1_0 | fail "num") (by first | omega | decide | assumption | exact zr1_1 | exact zr1_0 | fail "num") (by first | omega | decide | assumption | exact zr1_1 | exact zr1_0 | fail "num") (by first | omega | decide | assumption | exact zr1_1 | exact zr1_0 | fail "num") (by exact hsv9) (by rw [show m18.toNatClampNeg + v370.toNatClampNeg = y14_320.toNatClampNeg by omega, hp359_4]; exact hp301_6.1) (by exact hft7) (by exact ⟨hfs.2.1, hfs.2.2.1, hqs9, hfs.2.2.2⟩) rfl rfl) (by omega) (by omega) (by omega) (by omega) (by omega) (fun x hx => ((heq359 x (by omega)).trans ((heq301 x (by omega)).trans (heq293 x (by omega)))).trans (hno9 x (by omega))) (fun v371 w371 z371 hz371 hno371 hp371 => ?_)
        obtain ⟨hz371a, hz371b⟩ := hz371
        obtain ⟨X9_371, Y9_371, hsi371, heq371, hp371_0, hp371_1, r371, rfl, hrb371, hr371⟩ := hp371
        have hM371 : w371 m = some (.inl (15, zMo m (zs (zs (zs g 1 X9_371) 3 Y9_371) 48 N26_293) r)) := hp371_0
        have kr371 := zrng r371
        show zP _ _ _ _ [.int r371] _ _ _ _ _
        refine zp_if (i := .ifCond .eq 7) (c := r371 = 0) (t := 381) (e := 377) (lv' := [(0, .ref m), (2, .ref q), (11, .int r293), (12, .ref (m + 276 + 2 * (g 1).toNatClampNeg)), (13, .int m18), (14, .int y14_320)]) (st' := []) (by decide +kernel) rfl (fun cc374 => ?_) (fun cc374 => ?_)
        ·
          have f36 := zeqI cc374
          rw [show (0 : Int32).toInt = 0 from by decide] at f36
          refine zp_seg (pc' := 383) (lv' := [(0, .ref m), (2, .ref q), (11, .int r293), (12, .ref (m + 276 + 2 * (g 1).toNatClampNeg)), (13, .int m18), (14, .int y14_320)]) (st' := [.int (Int32.ofInt (-2))]) [(381, .bipush (-2))] (by decide +kernel) rfl ?_
          have hoffend : ∀ x, (x < m ∨ m + 1 ≤ x) ∧ (x < m + 83 ∨ m + 83 + 9 ≤ x) ∧ (x < m + 149 ∨ m + 149 + 1 ≤ x) ∧ (x < m + 176 ∨ m + 176 + 3 ≤ x) ∧ (x < m + 7594 ∨ m + 7594 + 728 ≤ x) ∧ (x < m + 276 + 2 * (g 1).toNatClampNeg ∨ m + 276 + 2 * (g 1).toNatClampNeg + (320 - 2 * (g 1).toNatClampNeg) ≤ x) ∧ (x < m + 596 + 130 * (g 3).toNatClampNeg ∨ m + 596 + 130 * (g 3).toNatClampNeg + (5720 - 130 * (g 3).toNatClampNeg) ≤ x) ∧ (x < m + 3 ∨ m + 3 + 1 ≤ x) ∧ (x < m + 5 ∨ m + 5 + 64 ≤ x) ∧ (x < m + 8322 ∨ m + 8322 + 1000000000000 ≤ x) → w371 x = w x := fun x hx => ((heq371 x (by omega)).trans ((heq359 x ⟨hx.1, (zx_X16_recurAtB_59 hx.2.2.2.1), (zx_X16_recurAtB_60 hx.2.2.2.2.2.1 hgn1_1 hgb1)⟩).trans ((heq301 x ⟨hx.1, hx.2.2.1, (zx_X16_recurAtB_57 hx.2.2.2.1), (zx_X16_recurAtB_58 hx.2.2.2.1), hx.2.2.2.2.1, hx.2.2.2.2.2.1⟩).trans (heq293 x ⟨hx.1, hx.2.2.2.2.1, hx.2.2.2.2.2.1, hx.2.2.2.2.2.2.1⟩))))
          have hb37 : zBd w371 (m + 149) := hBd8.ag (fun x hx1 hx2 => (heq371 x (by omega)))
          refine zr_retI (by decide +kernel) rfl ?_
          rw [← hPost]; exact ⟨⟨by omega, by omega⟩, fun x hx => hno371 x (by omega), _, rfl, (zs (zs (zs g 1 X9_371) 3 Y9_371) 48 N26_293), r, (((hsi293.tr hsi301).tr hsi359).tr hsi371), hoffend, hM371, hp371_1, hb37, (by
                exact ⟨rfl, rfl, rfl, rfl⟩), _, rfl, (by
                first
                | exact fun e => absurd rfl e
                | exact fun _ e => absurd rfl e
                | exact fun _ _ => hr371 (hrb371.resolve_left cc374))⟩
        ·
          have f39 := zneI cc374
          rw [show (0 : Int32).toInt = 0 from by decide] at f39
          refine zp_seg (pc' := 383) (lv' := [(0, .ref m), (2, .ref q), (11, .int r293), (12, .ref (m + 276 + 2 * (g 1).toNatClampNeg)), (13, .int m18), (14, .int y14_320)]) (st' := [.int 1]) [(377, .iconst 1), (378, .goto 5)] (by decide +kernel) rfl ?_
          have hoffend : ∀ x, (x < m ∨ m + 1 ≤ x) ∧ (x < m + 83 ∨ m + 83 + 9 ≤ x) ∧ (x < m + 149 ∨ m + 149 + 1 ≤ x) ∧ (x < m + 176 ∨ m + 176 + 3 ≤ x) ∧ (x < m + 7594 ∨ m + 7594 + 728 ≤ x) ∧ (x < m + 276 + 2 * (g 1).toNatClampNeg ∨ m + 276 + 2 * (g 1).toNatClampNeg + (320 - 2 * (g 1).toNatClampNeg) ≤ x) ∧ (x < m + 596 + 130 * (g 3).toNatClampNeg ∨ m + 596 + 130 * (g 3).toNatClampNeg + (5720 - 130 * (g 3).toNatClampNeg) ≤ x) ∧ (x < m + 3 ∨ m + 3 + 1 ≤ x) ∧ (x < m + 5 ∨ m + 5 + 64 ≤ x) ∧ (x < m + 8322 ∨ m + 8322 + 1000000000000 ≤ x) → w371 x = w x := fun x hx => ((heq371 x (by omega)).trans ((heq359 x ⟨hx.1, (zx_X16_recurAtB_59 hx.2.2.2.1), (zx_X16_recurAtB_60 hx.2.2.2.2.2.1 hgn1_1 hgb1)⟩).trans ((heq301 x ⟨hx.1, hx.2.2.1, (zx_X16_recurAtB_57 hx.2.2.2.1), (zx_X16_recurAtB_58 hx.2.2.2.1), hx.2.2.2.2.1, hx.2.2.2.2.2.1⟩).trans (heq293 x ⟨hx.1, hx.2.2.2.2.1, hx.2.2.2.2.2.1, hx.2.2.2.2.2.2.1⟩))))
          have hb40 : zBd w371 (m + 149) := hBd8.ag (fun x hx1 hx2 => (heq371 x (by omega)))
          refine zr_retI (by decide +kernel) rfl ?_
          rw [← hPost]; exact ⟨⟨by omega, by omega⟩, fun x hx => hno371 x (by omega), _, rfl, (zs (zs (zs g 1 X9_371) 3 Y9_371) 48 N26_293), r, (((hsi293.tr hsi301).tr hsi359).tr hsi371), hoffend, hM371, hp371_1, hb40, (by
                exact ⟨rfl, rfl, rfl, rfl⟩), _, rfl, (by
                first
                | exact fun e => absurd rfl e
                | exact fun _ e => absurd rfl e
                | exact fun _ _ => hr371 (hrb371.resolve_left cc374))⟩
      ·
        replace cc347 := Classical.not_not.mp cc347
        have f41 := zeqI cc347
        have hBd8 := (hp301_1).d
        refine zp_seg (pc' := 351) (lv' := [(0, .ref m), (2, .ref q), (11, .int r293), (12, .ref (m + 276 + 2 * (g 1).toNatClampNeg)), (13, .int m18), (14, .int y14_320)]) (st' := [.int (Int32.ofInt (-1))]) [(350, .iconst (-1))] (by decide +kernel) rfl ?_
        have hoffend : ∀ x, (x < m ∨ m + 1 ≤ x) ∧ (x < m + 83 ∨ m + 83 + 9 ≤ x) ∧ (x < m + 149 ∨ m + 149 + 1 ≤ x) ∧ (x < m + 176 ∨ m + 176 + 3 ≤ x) ∧ (x < m + 7594 ∨ m + 7594 + 728 ≤ x) ∧ (x < m + 276 + 2 * (g 1).toNatClampNeg ∨ m + 276 + 2 * (g 1).toNatClampNeg + (320 - 2 * (g 1).toNatClampNeg) ≤ x) ∧ (x < m + 596 + 130 * (g 3).toNatClampNeg ∨ m + 596 + 130 * (g 3).toNatClampNeg + (5720 - 130 * (g 3).toNatClampNeg) ≤ x) ∧ (x < m + 3 ∨ m + 3 + 1 ≤ x) ∧ (x < m + 5 ∨ m + 5 + 64 ≤ x) ∧ (x < m + 8322 ∨ m + 8322 + 1000000000000 ≤ x) → w301 x = w x := fun x hx => ((heq301 x ⟨hx.1, hx.2.2.1, (zx_X16_recurAtB_57 hx.2.2.2.1), (zx_X16_recurAtB_58 hx.2.2.2.1), hx.2.2.2.2.1, hx.2.2.2.2.2.1⟩).trans (heq293 x ⟨hx.1, hx.2.2.2.2.1, hx.2.2.2.2.2.1, hx.2.2.2.2.2.2.1⟩))
        have hb42 : zTm w301 (m + 83) := hTm_m_83.ag (fun x hx1 hx2 => ((heq301 x ⟨(zx_X16_recurAtB_3 hx1 hx2), (zx_X16_recurAtB_7 hx1 hx2), (zx_X16_recurAtB_8 hx1 hx2), (zx_X16_recurAtB_9 hx1 hx2), (zx_X16_recurAtB_4 hx1 hx2), (zx_X16_recurAtB_5 hx1 hx2 hgb1)⟩).trans (heq293 x ⟨(zx_X16_recurAtB_3 hx1 hx2), (zx_X16_recurAtB_4 hx1 hx2), (zx_X16_recurAtB_5 hx1 hx2 hgb1), (zx_X16_recurAtB_6 hx1 hx2 hgb3)⟩)))
        refine zr_retI (by decide +kernel) rfl ?_
        rw [← hPost]; exact ⟨⟨by omega, by omega⟩, fun x hx => ((heq301 x (by omega)).trans (heq293 x (by omega))).trans (hno9 x (by omega)), _, rfl, (zs (zs g 1 (g 1 + 1)) 48 N26_293), r, (hsi293.tr hsi301), hoffend, hM301, hb42, hBd8, (by
              exact ⟨rfl, rfl, rfl, rfl⟩), _, rfl, (by
              first
              | exact fun e => absurd rfl e
              | exact fun _ e => absurd rfl e
              | exact fun _ _ => hr371 (hrb371.resolve_left cc374))⟩
    refine zp_if (i := .if_icmp .ge 19) (c := r293 ≤ y14_320) (t := 343) (e := 327) (lv' := [(0, .ref m), (2, .ref q), (11, .int r293), (12, .ref (m + 276 + 2 * (g 1).toNatClampNeg)), (13, .int m18), (14, .int y14_320)]) (st' := []) (by decide +kernel) rfl (fun cc324 => ?_) (fun cc324 => ?_)
    ·
      have f44 := zleI cc324
      exact (hJ343 trivial ).more (zfa1 rfl (zfa1 rfl (zfa1 rfl (zfa1 rfl (zfa1 rfl (zfa1 rfl (zfa0)))))))
    ·
      have f45 := znleI cc324
      refine zp_seg (pc' := 328) (lv' := [(0, .ref m), (2, .ref q), (11, .int r293), (12, .ref (m + 276 + 2 * (g 1).toNatClampNeg)), (13, .int m18), (14, .int y14_320)]) (st' := [.ref m]) [(327, .aload_n 0)] (by decide +kernel) rfl ?_
      refine zr_get (idx := 493) (k := 46) (v := .ref (m + 177)) (by decide +kernel) (by decide +kernel) hM301 rfl ?_
      refine zp_seg (pc' := 333) (lv' := [(0, .ref m), (2, .ref q), (11, .int r293), (12, .ref (m + 276 + 2 * (g 1).toNatClampNeg)), (13, .int m18), (14, .int y14_320)]) (st' := [.int y14_320, .ref (m + 177)]) [(331, .iload 14)] (by decide +kernel) rfl ?_
      refine zr_bald (by decide +kernel) hp301_3 (by decide) (zin (by first | omega | decide) (by first | omega | decide)) ?_
      obtain ⟨x333, ex333⟩ : ∃ x9, x9 = ip_301 (y14_320.toNatClampNeg) := ⟨_, rfl⟩
      rw [← ex333]
      have kx333 := zrng x333
      refine zp_if (i := .ifCond .eq 9) (c := x333 = 0) (t := 343) (e := 337) (lv' := [(0, .ref m), (2, .ref q), (11, .int r293), (12, .ref (m + 276 + 2 * (g 1).toNatClampNeg)), (13, .int m18), (14, .int y14_320)]) (st' := []) (by decide +kernel) rfl (fun cc334 => ?_) (fun cc334 => ?_)
      ·
        have f46 := zeqI cc334
        rw [show (0 : Int32).toInt = 0 from by decide] at f46
        exact (hJ343 trivial ).more (zfa1 rfl (zfa1 rfl (zfa1 rfl (zfa1 rfl (zfa1 rfl (zfa1 rfl (zfa0)))))))
      ·
        have f47 := zneI cc334
        rw [show (0 : Int32).toInt = 0 from by decide] at f47
        refine zp_seg (pc' := 340) (lv' := [(14, .int (y14_320 + 1)), (0, .ref m), (2, .ref q), (11, .int r293), (12, .ref (m + 276 + 2 * (g 1).toNatClampNeg)), (13, .int m18)]) (st' := []) [(337, .iinc 14 1)] (by decide +kernel) rfl ?_
        have k48 := zaddC y14_320 1 (n := 1) (by decide) (by omega) (by omega)
        generalize ev340 : (y14_320 + 1 : Int32) = v340 at k48 ⊢
        have kv340 := zrng v340
        refine zp_seg (pc' := 320) (lv' := [(14, .int v340), (0, .ref m), (2, .ref q), (11, .int r293), (12, .ref (m + 276 + 2 * (g 1).toNatClampNeg)), (13, .int m18)]) (st' := []) [(340, .goto (-20))] (by decide +kernel) rfl ?_
        have hz49 : (v340.toNatClampNeg : Int) = v340.toInt := znat (by first | omega | decide)
        exact (ih320 v340 (by first | assumption | omega | decide) (by first | assumption | omega | decide) (by omega)).more (zfa1 rfl (zfa1 rfl (zfa1 rfl (zfa1 rfl (zfa1 rfl (zfa1 rfl (zfa0)))))))
  exact (hL320 _ m18 (by first | assumption | omega | decide) (by first | assumption | omega | decide) (Nat.lt_succ_self _)).more (zfa1 rfl (zfa1 rfl (zfa1 rfl (zfa1 rfl (zfa1 rfl (zfa1 rfl (zfa0)))))))
