theorem zx_X16_depth_0 {G3_0 fA m x : Nat} (h0 : fA ≤ x) (h1 : x < fA + 130) (h2 : m + 596 ≤ fA ∧ fA + 130 ≤ m + 596 + 130 * G3_0) (h3 : G3_0 + 1 ≤ 44) : x < m ∨ m + 1 ≤ x := by omega
theorem zx_X16_depth_1 {G1_0 G3_0 fA m x : Nat} (h0 : fA ≤ x) (h1 : x < fA + 130) (h2 : m + 596 ≤ fA ∧ fA + 130 ≤ m + 596 + 130 * G3_0) (h3 : G1_0 + 3 ≤ 160) (h4 : G3_0 + 1 ≤ 44) : x < m + 276 + 2 * G1_0 ∨ m + 276 + 2 * G1_0 + 2 ≤ x := by omega
theorem zx_X16_depth_2 {G1_0 G1_1 G3_0 fA m x : Nat} (h0 : fA ≤ x) (h1 : x < fA + 130) (h2 : m + 596 ≤ fA ∧ fA + 130 ≤ m + 596 + 130 * G3_0) (h3 : G1_1 = G1_0 + 1) (h4 : G1_0 + 3 ≤ 160) (h5 : G3_0 + 1 ≤ 44) : x < m + 276 + 2 * G1_1 ∨ m + 276 + 2 * G1_1 + 2 ≤ x := by omega
theorem zx_X16_depth_3 {G3_0 fA m : Nat} (h0 : m + 596 ≤ fA ∧ fA + 130 ≤ m + 596 + 130 * G3_0) (h1 : G3_0 + 1 ≤ 44) : fA < m ∨ m + 1 ≤ fA := by omega
theorem zx_X16_depth_4 {G1_0 G3_0 fA m : Nat} (h0 : m + 596 ≤ fA ∧ fA + 130 ≤ m + 596 + 130 * G3_0) (h1 : G1_0 + 3 ≤ 160) (h2 : G3_0 + 1 ≤ 44) : fA < m + 276 + 2 * G1_0 ∨ m + 276 + 2 * G1_0 + 2 ≤ fA := by omega
theorem zx_X16_depth_5 {G1_0 G1_1 G3_0 fA m : Nat} (h0 : m + 596 ≤ fA ∧ fA + 130 ≤ m + 596 + 130 * G3_0) (h1 : G1_1 = G1_0 + 1) (h2 : G1_0 + 3 ≤ 160) (h3 : G3_0 + 1 ≤ 44) : fA < m + 276 + 2 * G1_1 ∨ m + 276 + 2 * G1_1 + 2 ≤ fA := by omega
theorem zx_X16_depth_6 {G1_0 m x : Nat} (h0 : m + 276 + 2 * G1_0 ≤ x) (h1 : x < m + 276 + 2 * G1_0 + 2) (h2 : G1_0 + 3 ≤ 160) : x < m ∨ m + 1 ≤ x := by omega
theorem zx_X16_depth_7 {G1_0 G1_1 m x : Nat} (h0 : m + 276 + 2 * G1_0 ≤ x) (h1 : x < m + 276 + 2 * G1_0 + 2) (h2 : G1_1 = G1_0 + 1) (h3 : G1_0 + 3 ≤ 160) : x < m + 276 + 2 * G1_1 ∨ m + 276 + 2 * G1_1 + 2 ≤ x := by omega
theorem zx_X16_depth_8 {G1_0 aU m x : Nat} (h0 : aU ≤ x) (h1 : x < aU + 2) (h2 : m + 276 ≤ aU ∧ aU + 2 ≤ m + 276 + 2 * G1_0) (h3 : G1_0 + 3 ≤ 160) : x < m ∨ m + 1 ≤ x := by omega
theorem zx_X16_depth_9 {G1_0 aU m x : Nat} (h0 : aU ≤ x) (h1 : x < aU + 2) (h2 : m + 276 ≤ aU ∧ aU + 2 ≤ m + 276 + 2 * G1_0) (h3 : G1_0 + 3 ≤ 160) : x < m + 276 + 2 * G1_0 ∨ m + 276 + 2 * G1_0 + 2 ≤ x := by omega
theorem zx_X16_depth_10 {G1_0 G1_1 aU m x : Nat} (h0 : aU ≤ x) (h1 : x < aU + 2) (h2 : m + 276 ≤ aU ∧ aU + 2 ≤ m + 276 + 2 * G1_0) (h3 : G1_1 = G1_0 + 1) (h4 : G1_0 + 3 ≤ 160) : x < m + 276 + 2 * G1_1 ∨ m + 276 + 2 * G1_1 + 2 ≤ x := by omega
theorem zx_X16_depth_11 {G1_0 m : Nat} (h0 : G1_0 + 3 ≤ 160) : m < m + 276 + 2 * G1_0 ∨ m + 276 + 2 * G1_0 + 2 ≤ m := by omega
theorem zx_X16_depth_12 {G3_0 fB m : Nat} (h0 : m + 596 ≤ fB ∧ fB + 130 ≤ m + 596 + 130 * G3_0) (h1 : G3_0 + 1 ≤ 44) : fB < m ∨ m + 1 ≤ fB := by omega
theorem zx_X16_depth_13 {G1_0 G3_0 fB m : Nat} (h0 : m + 596 ≤ fB ∧ fB + 130 ≤ m + 596 + 130 * G3_0) (h1 : G1_0 + 3 ≤ 160) (h2 : G3_0 + 1 ≤ 44) : fB < m + 276 + 2 * G1_0 ∨ m + 276 + 2 * G1_0 + 2 ≤ fB := by omega
theorem zx_X16_depth_14 {G1_0 G1_1 G3_0 fB m : Nat} (h0 : m + 596 ≤ fB ∧ fB + 130 ≤ m + 596 + 130 * G3_0) (h1 : G1_1 = G1_0 + 1) (h2 : G1_0 + 3 ≤ 160) (h3 : G3_0 + 1 ≤ 44) : fB < m + 276 + 2 * G1_1 ∨ m + 276 + 2 * G1_1 + 2 ≤ fB := by omega
theorem zx_X16_depth_15 {m x : Nat} (h0 : x ≠ m) : x < m ∨ m + 1 ≤ x := by omega
theorem zx_X16_depth_16 {G1_0 m x : Nat} (h0 : x < m + 276 + 2 * G1_0 ∨ m + 276 + 2 * G1_0 + (320 - 2 * G1_0) ≤ x) (h1 : G1_0 + 3 ≤ 160) : x < m + 276 + 2 * G1_0 ∨ m + 276 + 2 * G1_0 + 2 ≤ x := by omega
theorem zx_X16_depth_17 {G1_0 G1_1 m x : Nat} (h0 : x < m + 276 + 2 * G1_0 ∨ m + 276 + 2 * G1_0 + (320 - 2 * G1_0) ≤ x) (h1 : G1_1 = G1_0 + 1) (h2 : G1_0 + 3 ≤ 160) : x < m + 276 + 2 * G1_1 ∨ m + 276 + 2 * G1_1 + 2 ≤ x := by omega
theorem zx_X16_depth_18 {G1_0 aD m x : Nat} (h0 : aD ≤ x) (h1 : x < aD + 2) (h2 : m + 276 ≤ aD ∧ aD + 2 ≤ m + 276 + 2 * G1_0) (h3 : G1_0 + 3 ≤ 160) : x < m ∨ m + 1 ≤ x := by omega
theorem zx_X16_depth_19 {G1_0 aD m x : Nat} (h0 : aD ≤ x) (h1 : x < aD + 2) (h2 : m + 276 ≤ aD ∧ aD + 2 ≤ m + 276 + 2 * G1_0) (h3 : G1_0 + 3 ≤ 160) : x < m + 276 + 2 * G1_0 ∨ m + 276 + 2 * G1_0 + 2 ≤ x := by omega
theorem zx_X16_depth_20 {G1_0 G1_1 aD m x : Nat} (h0 : aD ≤ x) (h1 : x < aD + 2) (h2 : m + 276 ≤ aD ∧ aD + 2 ≤ m + 276 + 2 * G1_0) (h3 : G1_1 = G1_0 + 1) (h4 : G1_0 + 3 ≤ 160) : x < m + 276 + 2 * G1_1 ∨ m + 276 + 2 * G1_1 + 2 ≤ x := by omega
theorem zx_X16_depth_21 {G3_0 fB m x : Nat} (h0 : fB ≤ x) (h1 : x < fB + 130) (h2 : m + 596 ≤ fB ∧ fB + 130 ≤ m + 596 + 130 * G3_0) (h3 : G3_0 + 1 ≤ 44) : x < m ∨ m + 1 ≤ x := by omega
theorem zx_X16_depth_22 {G1_0 G3_0 fB m x : Nat} (h0 : fB ≤ x) (h1 : x < fB + 130) (h2 : m + 596 ≤ fB ∧ fB + 130 ≤ m + 596 + 130 * G3_0) (h3 : G1_0 + 3 ≤ 160) (h4 : G3_0 + 1 ≤ 44) : x < m + 276 + 2 * G1_0 ∨ m + 276 + 2 * G1_0 + 2 ≤ x := by omega
theorem zx_X16_depth_23 {G1_0 G1_1 G3_0 fB m x : Nat} (h0 : fB ≤ x) (h1 : x < fB + 130) (h2 : m + 596 ≤ fB ∧ fB + 130 ≤ m + 596 + 130 * G3_0) (h3 : G1_1 = G1_0 + 1) (h4 : G1_0 + 3 ≤ 160) (h5 : G3_0 + 1 ≤ 44) : x < m + 276 + 2 * G1_1 ∨ m + 276 + 2 * G1_1 + 2 ≤ x := by omega
theorem zx_X16_depth_24 {G3_0 fB m x : Nat} (h0 : fB ≤ x) (h1 : x < fB + 130) (h2 : m + 596 ≤ fB ∧ fB + 130 ≤ m + 596 + 130 * G3_0) (h3 : G3_0 + 1 ≤ 44) : x < m + 596 + 130 * G3_0 ∨ m + 596 + 130 * G3_0 + 130 ≤ x := by omega
theorem zx_X16_depth_25 {G3_0 m : Nat} (h0 : G3_0 + 1 ≤ 44) : m < m + 596 + 130 * G3_0 ∨ m + 596 + 130 * G3_0 + 130 ≤ m := by omega
theorem zx_X16_depth_26 {G1_0 G3_0 m x : Nat} (h0 : m + 276 + 2 * G1_0 ≤ x) (h1 : x < m + 276 + 2 * G1_0 + 2) (h2 : G1_0 + 3 ≤ 160) (h3 : G3_0 + 1 ≤ 44) : x < m + 596 + 130 * G3_0 ∨ m + 596 + 130 * G3_0 + 130 ≤ x := by omega
theorem zx_X16_depth_27 {G1_0 G3_0 aD m x : Nat} (h0 : aD ≤ x) (h1 : x < aD + 2) (h2 : m + 276 ≤ aD ∧ aD + 2 ≤ m + 276 + 2 * G1_0) (h3 : G1_0 + 3 ≤ 160) (h4 : G3_0 + 1 ≤ 44) : x < m + 596 + 130 * G3_0 ∨ m + 596 + 130 * G3_0 + 130 ≤ x := by omega
theorem zx_X16_depth_28 {G3_0 fA m : Nat} (h0 : m + 596 ≤ fA ∧ fA + 130 ≤ m + 596 + 130 * G3_0) (h1 : G3_0 + 1 ≤ 44) : fA < m + 596 + 130 * G3_0 ∨ m + 596 + 130 * G3_0 + 130 ≤ fA := by omega
theorem zx_X16_depth_29 {G1_0 G1_2 G3_0 fA m : Nat} (h0 : m + 596 ≤ fA ∧ fA + 130 ≤ m + 596 + 130 * G3_0) (h1 : G1_2 = G1_0 + 2) (h2 : G1_0 + 3 ≤ 160) (h3 : G3_0 + 1 ≤ 44) : fA < m + 276 + 2 * G1_2 ∨ m + 276 + 2 * G1_2 + 2 ≤ fA := by omega
theorem zx_X16_depth_30 {G3_0 fA m : Nat} (h0 : m + 596 ≤ fA ∧ fA + 130 ≤ m + 596 + 130 * G3_0) (h1 : G3_0 + 1 ≤ 44) : (fA + 1) < m ∨ m + 1 ≤ (fA + 1) := by omega
theorem zx_X16_depth_31 {G1_0 G3_0 fA m : Nat} (h0 : m + 596 ≤ fA ∧ fA + 130 ≤ m + 596 + 130 * G3_0) (h1 : G1_0 + 3 ≤ 160) (h2 : G3_0 + 1 ≤ 44) : (fA + 1) < m + 276 + 2 * G1_0 ∨ m + 276 + 2 * G1_0 + 2 ≤ (fA + 1) := by omega
theorem zx_X16_depth_32 {G1_0 G1_1 G3_0 fA m : Nat} (h0 : m + 596 ≤ fA ∧ fA + 130 ≤ m + 596 + 130 * G3_0) (h1 : G1_1 = G1_0 + 1) (h2 : G1_0 + 3 ≤ 160) (h3 : G3_0 + 1 ≤ 44) : (fA + 1) < m + 276 + 2 * G1_1 ∨ m + 276 + 2 * G1_1 + 2 ≤ (fA + 1) := by omega
theorem zx_X16_depth_33 {G3_0 fA m : Nat} (h0 : m + 596 ≤ fA ∧ fA + 130 ≤ m + 596 + 130 * G3_0) (h1 : G3_0 + 1 ≤ 44) : (fA + 1) < m + 596 + 130 * G3_0 ∨ m + 596 + 130 * G3_0 + 130 ≤ (fA + 1) := by omega
theorem zx_X16_depth_34 {G1_0 G1_2 G3_0 fA m : Nat} (h0 : m + 596 ≤ fA ∧ fA + 130 ≤ m + 596 + 130 * G3_0) (h1 : G1_2 = G1_0 + 2) (h2 : G1_0 + 3 ≤ 160) (h3 : G3_0 + 1 ≤ 44) : (fA + 1) < m + 276 + 2 * G1_2 ∨ m + 276 + 2 * G1_2 + 2 ≤ (fA + 1) := by omega
theorem zx_X16_depth_35 {G3_0 fA m x : Nat} (h0 : fA ≤ x) (h1 : x < fA + 130) (h2 : m + 596 ≤ fA ∧ fA + 130 ≤ m + 596 + 130 * G3_0) (h3 : G3_0 + 1 ≤ 44) : x < m + 596 + 130 * G3_0 ∨ m + 596 + 130 * G3_0 + 130 ≤ x := by omega
theorem zx_X16_depth_36 {G1_0 G1_2 G3_0 fA m x : Nat} (h0 : fA ≤ x) (h1 : x < fA + 130) (h2 : m + 596 ≤ fA ∧ fA + 130 ≤ m + 596 + 130 * G3_0) (h3 : G1_2 = G1_0 + 2) (h4 : G1_0 + 3 ≤ 160) (h5 : G3_0 + 1 ≤ 44) : x < m + 276 + 2 * G1_2 ∨ m + 276 + 2 * G1_2 + 2 ≤ x := by omega
theorem zx_X16_depth_37 {G1_0 G3_0 aU m x : Nat} (h0 : aU ≤ x) (h1 : x < aU + 2) (h2 : m + 276 ≤ aU ∧ aU + 2 ≤ m + 276 + 2 * G1_0) (h3 : G1_0 + 3 ≤ 160) (h4 : G3_0 + 1 ≤ 44) : x < m + 596 + 130 * G3_0 ∨ m + 596 + 130 * G3_0 + 130 ≤ x := by omega
theorem zx_X16_depth_38 {G1_0 G1_2 aU m x : Nat} (h0 : aU ≤ x) (h1 : x < aU + 2) (h2 : m + 276 ≤ aU ∧ aU + 2 ≤ m + 276 + 2 * G1_0) (h3 : G1_2 = G1_0 + 2) (h4 : G1_0 + 3 ≤ 160) : x < m + 276 + 2 * G1_2 ∨ m + 276 + 2 * G1_2 + 2 ≤ x := by omega
theorem zx_X16_depth_39 {G1_0 G1_2 m : Nat} (h0 : G1_2 = G1_0 + 2) (h1 : G1_0 + 3 ≤ 160) : m < m + 276 + 2 * G1_2 ∨ m + 276 + 2 * G1_2 + 2 ≤ m := by omega
theorem zx_X16_depth_40 {G1_0 G1_2 G3_0 fB m x : Nat} (h0 : fB ≤ x) (h1 : x < fB + 130) (h2 : m + 596 ≤ fB ∧ fB + 130 ≤ m + 596 + 130 * G3_0) (h3 : G1_2 = G1_0 + 2) (h4 : G1_0 + 3 ≤ 160) (h5 : G3_0 + 1 ≤ 44) : x < m + 276 + 2 * G1_2 ∨ m + 276 + 2 * G1_2 + 2 ≤ x := by omega
theorem zx_X16_depth_41 {G3_0 fB m : Nat} (h0 : m + 596 ≤ fB ∧ fB + 130 ≤ m + 596 + 130 * G3_0) (h1 : G3_0 + 1 ≤ 44) : fB < m + 596 + 130 * G3_0 ∨ m + 596 + 130 * G3_0 + 130 ≤ fB := by omega
theorem zx_X16_depth_42 {G1_0 G1_2 G3_0 fB m : Nat} (h0 : m + 596 ≤ fB ∧ fB + 130 ≤ m + 596 + 130 * G3_0) (h1 : G1_2 = G1_0 + 2) (h2 : G1_0 + 3 ≤ 160) (h3 : G3_0 + 1 ≤ 44) : fB < m + 276 + 2 * G1_2 ∨ m + 276 + 2 * G1_2 + 2 ≤ fB := by omega
theorem zx_X16_depth_43 {G1_0 G1_1 m x : Nat} (h0 : m + 276 + 2 * G1_1 ≤ x) (h1 : x < m + 276 + 2 * G1_1 + 2) (h2 : G1_1 = G1_0 + 1) (h3 : G1_0 + 3 ≤ 160) : x < m + 276 + 2 * G1_0 ∨ m + 276 + 2 * G1_0 + 2 ≤ x := by omega
theorem zx_X16_depth_44 {G1_0 G1_1 m x : Nat} (h0 : m + 276 + 2 * G1_1 ≤ x) (h1 : x < m + 276 + 2 * G1_1 + 2) (h2 : G1_1 = G1_0 + 1) (h3 : G1_0 + 3 ≤ 160) : x < m ∨ m + 1 ≤ x := by omega
theorem zx_X16_depth_45 {G1_0 G1_1 G3_0 m x : Nat} (h0 : m + 276 + 2 * G1_1 ≤ x) (h1 : x < m + 276 + 2 * G1_1 + 2) (h2 : G1_1 = G1_0 + 1) (h3 : G1_0 + 3 ≤ 160) (h4 : G3_0 + 1 ≤ 44) : x < m + 596 + 130 * G3_0 ∨ m + 596 + 130 * G3_0 + 130 ≤ x := by omega
theorem zx_X16_depth_46 {G1_0 G1_1 G1_2 m x : Nat} (h0 : m + 276 + 2 * G1_1 ≤ x) (h1 : x < m + 276 + 2 * G1_1 + 2) (h2 : G1_1 = G1_0 + 1) (h3 : G1_2 = G1_0 + 2) (h4 : G1_0 + 3 ≤ 160) : x < m + 276 + 2 * G1_2 ∨ m + 276 + 2 * G1_2 + 2 ≤ x := by omega
theorem zx_X16_depth_47 {G1_0 G1_2 m x : Nat} (h0 : m + 276 + 2 * G1_0 ≤ x) (h1 : x < m + 276 + 2 * G1_0 + 2) (h2 : G1_2 = G1_0 + 2) (h3 : G1_0 + 3 ≤ 160) : x < m + 276 + 2 * G1_2 ∨ m + 276 + 2 * G1_2 + 2 ≤ x := by omega
theorem zx_X16_depth_48 {G1_0 G1_1 m : Nat} (h0 : G1_1 = G1_0 + 1) (h1 : G1_0 + 3 ≤ 160) : m < m + 276 + 2 * G1_1 ∨ m + 276 + 2 * G1_1 + 2 ≤ m := by omega
theorem zx_X16_depth_49 {G1_0 G1_2 aD m x : Nat} (h0 : aD ≤ x) (h1 : x < aD + 2) (h2 : m + 276 ≤ aD ∧ aD + 2 ≤ m + 276 + 2 * G1_0) (h3 : G1_2 = G1_0 + 2) (h4 : G1_0 + 3 ≤ 160) : x < m + 276 + 2 * G1_2 ∨ m + 276 + 2 * G1_2 + 2 ≤ x := by omega
theorem zx_X16_depth_50 {G1_0 G1_1 m : Nat} (h0 : G1_1 = G1_0 + 1) (h1 : G1_0 + 3 ≤ 160) : (m + 276 + 2 * G1_0) < m + 276 + 2 * G1_1 ∨ m + 276 + 2 * G1_1 + 2 ≤ (m + 276 + 2 * G1_0) := by omega
theorem zx_X16_depth_51 {G3_0 m x : Nat} (h0 : x < m + 596 + 130 * G3_0 ∨ m + 596 + 130 * G3_0 + (5720 - 130 * G3_0) ≤ x) (h1 : G3_0 + 1 ≤ 44) : x < m + 596 + 130 * G3_0 ∨ m + 596 + 130 * G3_0 + 130 ≤ x := by omega
theorem zx_X16_depth_52 {G1_0 G1_2 m x : Nat} (h0 : x < m + 276 + 2 * G1_0 ∨ m + 276 + 2 * G1_0 + (320 - 2 * G1_0) ≤ x) (h1 : G1_2 = G1_0 + 2) (h2 : G1_0 + 3 ≤ 160) : x < m + 276 + 2 * G1_2 ∨ m + 276 + 2 * G1_2 + 2 ≤ x := by omega
set_option maxHeartbeats 8000000 in
set_option maxRecDepth 100000 in
theorem c_X16_depth {w : zM} {g : Nat → Int32} {r : Nat → Value} {fA fB fC aU aD : Nat} {PA0 PB0 PC0 : zA2} {Pu Pd : zA1}  {g1 : Int32} {g3 : Int32} (m : Nat) (z9 : Int32) (hm : w m = some (.inl (15, zMo m g r))) (hR_m : zR m w) (hrA : r 39 = .ref fA) (hrB : r 40 = .ref fB) (hrU : r 42 = .ref aU) (hrD : r 43 = .ref aD) (hB_fA : zB w fA PA0) (hB_fB : zB w fB PB0) (hU_aU : zU w aU 1000 Pu) (hU_aD : zU w aD 1000 Pd) (hut : 0 ≤ g1.toInt ∧ g1.toInt + 3 ≤ 160) (hbt : 0 ≤ g3.toInt ∧ g3.toInt + 1 ≤ 44) (hmfA : m + 596 ≤ fA ∧ fA + 130 ≤ m + 596 + 130 * g3.toNatClampNeg) (hmfB : m + 596 ≤ fB ∧ fB + 130 ≤ m + 596 + 130 * g3.toNatClampNeg) (hmaU : m + 276 ≤ aU ∧ aU + 2 ≤ m + 276 + 2 * g1.toNatClampNeg) (hmaD : m + 276 ≤ aD ∧ aD + 2 ≤ m + 276 + 2 * g1.toNatClampNeg) (hfs : (0 < zrw PA0 ∧ zrw PA0 ≤ 9 ∧ zdn PA0 + zln Pu ≤ 13 ∧ 0 < zln Pu) ∧ (0 < zrw PB0 ∧ zrw PB0 ≤ 9 ∧ zdn PB0 ≤ 12) ∧ 0 < zln Pd ∧ zln Pd ≤ 13) (hz9 : -100 ≤ z9.toInt ∧ z9.toInt ≤ 100) (hg1 : g 1 = g1) (hg3 : g 3 = g3) : zCon 4 zq_X16_depth [.ref m, .int z9] w (fun v9 w9' => zSI w w9' ∧ (∀ x, (x < m + 276 + 2 * g1.toNatClampNeg ∨ m + 276 + 2 * g1.toNatClampNeg + (320 - 2 * g1.toNatClampNeg) ≤ x) ∧ (x < m + 596 + 130 * g3.toNatClampNeg ∨ m + 596 + 130 * g3.toNatClampNeg + (5720 - 130 * g3.toNatClampNeg) ≤ x) → w9' x = w x) ∧ ∃ r9 : Int32, v9 = some (.int r9) ∧ (-200 ≤ r9.toInt ∧ r9.toInt ≤ 200)) := by
  subst hg1
  subst hg3
  intro d sz hd
  obtain ⟨d, rfl⟩ : ∃ d9, d = d9 + 1 := ⟨d - 1, by omega⟩
  generalize hPost : (fun (r9' : Option (Option Value)) (w9' : zM) (z9 : Nat) => z9 = sz ∧ ∃ v9, r9' = some v9 ∧ (zSI w w9' ∧ (∀ x, (x < m + 276 + 2 * (g 1).toNatClampNeg ∨ m + 276 + 2 * (g 1).toNatClampNeg + (320 - 2 * (g 1).toNatClampNeg) ≤ x) ∧ (x < m + 596 + 130 * (g 3).toNatClampNeg ∨ m + 596 + 130 * (g 3).toNatClampNeg + (5720 - 130 * (g 3).toNatClampNeg) ≤ x) → w9' x = w x) ∧ ∃ r9 : Int32, v9 = some (.int r9) ∧ (-200 ≤ r9.toInt ∧ r9.toInt ≤ 200))) = Post
  show zP (d + 1) zq_X16_depth 0 [(0, .ref m), (1, .int z9)] [] w sz 0 0 Post
  have k1 := zrng z9
  have k2 := zrng (g 1)
  have hz3 : ((g 1).toNatClampNeg : Int) = (g 1).toInt := znat (by first | omega | decide)
  have hgb1 : (g 1).toNatClampNeg + 3 ≤ 160 := by omega
  have k4 := zrng (g 3)
  have hz5 : ((g 3).toNatClampNeg : Int) = (g 3).toInt := znat (by first | omega | decide)
  have hgb3 : (g 3).toNatClampNeg + 1 ≤ 44 := by omega
  refine zp_seg (pc' := 1) (lv' := [(0, .ref m), (1, .int z9)]) (st' := [.ref m]) [(0, .aload_n 0)] (by decide +kernel) rfl ?_
  refine zr_get (idx := 21) (k := 1) (v := .int (g 1)) (by decide +kernel) (by decide +kernel) hm rfl ?_
  refine zp_seg (pc' := 5) (lv' := [(2, .int (g 1)), (0, .ref m), (1, .int z9)]) (st' := []) [(4, .istore_n 2)] (by decide +kernel) rfl ?_
  have k7 := zaddC (g 1) 1 (n := 1) (by decide) (by omega) (by omega)
  have hz8 : ((g 1 + 1).toNatClampNeg : Int) = (g 1 + 1).toInt := znat (by first | omega | decide)
  have hgn1_1 : (g 1 + 1).toNatClampNeg = (g 1).toNatClampNeg + 1 := by omega
  have k9 := zaddC (g 1 + 1) 1 (n := 1) (by decide) (by omega) (by omega)
  have hz10 : ((g 1 + 1 + 1).toNatClampNeg : Int) = (g 1 + 1 + 1).toInt := znat (by first | omega | decide)
  have hgn1_2 : (g 1 + 1 + 1).toNatClampNeg = (g 1).toNatClampNeg + 2 := by omega
  have k11 := zaddC (g 1 + 1 + 1) 1 (n := 1) (by decide) (by omega) (by omega)
  have hz12 : ((g 1 + 1 + 1 + 1).toNatClampNeg : Int) = (g 1 + 1 + 1 + 1).toInt := znat (by first | omega | decide)
  have hgn1_3 : (g 1 + 1 + 1 + 1).toNatClampNeg = (g 1).toNatClampNeg + 3 := by omega
  have k13 := zaddC (g 3) 1 (n := 1) (by decide) (by omega) (by omega)
  have hz14 : ((g 3 + 1).toNatClampNeg : Int) = (g 3 + 1).toInt := znat (by first | omega | decide)
  have hgn3_1 : (g 3 + 1).toNatClampNeg = (g 3).toNatClampNeg + 1 := by omega
  have hldA := zdn_le PA0 (zrw PA0 - 1)
  have hldB := zdn_le PB0 (zrw PB0 - 1)
  have hsb9 := zsh_rw (zf (2147483646 : Int32)) PB0
  refine zp_seg (pc' := 6) (lv' := [(2, .int (g 1)), (0, .ref m), (1, .int z9)]) (st' := [.ref m]) [(5, .aload_n 0)] (by decide +kernel) rfl ?_
  refine zr_get (idx := 90) (k := 3) (v := .int (g 3)) (by decide +kernel) (by decide +kernel) hm rfl ?_
  refine zp_seg (pc' := 11) (lv' := [(3, .int (g 3)), (2, .int (g 1)), (0, .ref m), (1, .int z9)]) (st' := [.ref m]) [(9, .istore_n 3), (10, .aload_n 0)] (by decide +kernel) rfl ?_
  refine zr_get (idx := 695) (k := 39) (v := .ref fA) (by decide +kernel) (by decide +kernel) hm (congrArg some hrA) ?_
  obtain ⟨n15, hb16, hb17, hb18, hb19, -⟩ := id hB_fA
  have kn15 := zrng n15
  refine zr_callV (idx := 314) (j := 249) (by decide +kernel) (by decide +kernel) (show zMe 249 = some zq_X12_degreeK from rfl) rfl rfl (Nat.le_of_ble_eq_true rfl) rfl rfl hb16 (Nat.le_of_ble_eq_true rfl) (Nat.le_of_ble_eq_true rfl) (c_X12_degreeK (w := w) fA hB_fA) (by omega) (fun v14 w14 hp14 => ?_)
  obtain ⟨hpw14, r14, rfl, hr14⟩ := hp14
  replace hpw14 := hpw14.symm
  subst hpw14
  have kr14 := zrng r14
  show zP _ _ _ _ [.int r14] _ _ _ _ _
  refine zp_seg (pc' := 18) (lv' := [(3, .int (g 3)), (2, .int (g 1)), (0, .ref m), (1, .int z9)]) (st' := [.ref m, .int r14]) [(17, .aload_n 0)] (by decide +kernel) rfl ?_
  refine zr_get (idx := 699) (k := 40) (v := .ref fB) (by decide +kernel) (by decide +kernel) hm (congrArg some hrB) ?_
  obtain ⟨n20, hb21, hb22, hb23, hb24, -⟩ := id hB_fB
  have kn20 := zrng n20
  refine zr_callV (idx := 314) (j := 249) (by decide +kernel) (by decide +kernel) (show zMe 249 = some zq_X12_degreeK from rfl) rfl rfl (Nat.le_of_ble_eq_true rfl) rfl rfl hb21 (Nat.le_of_ble_eq_true rfl) (Nat.le_of_ble_eq_true rfl) (c_X12_degreeK (w := w) fB hB_fB) (by omega) (fun v21 w21 hp21 => ?_)
  obtain ⟨hpw21, r21, rfl, hr21⟩ := hp21
  replace hpw21 := hpw21.symm
  subst hpw21
  have kr21 := zrng r21
  show zP _ _ _ _ [.int r21, .int r14] _ _ _ _ _
  refine zr_max (idx := 40) (by decide +kernel) (by decide +kernel) (by omega) (Nat.le_of_ble_eq_true rfl) ?_
  obtain ⟨m25, em25, hm25⟩ := zmaxI r14 r21
  rw [← em25]
  have km25 := zrng m25
  have hd49 : m25.toInt + 1 = (zrw PA0 : Int) ∨ m25.toInt + 1 = (zrw PB0 : Int) := by omega
  have hd48 : m25.toInt ≤ 8 ∧ 0 ≤ m25.toInt ∧ (zrw PA0 : Int) ≤ m25.toInt + 1 ∧ (zrw PB0 : Int) ≤ m25.toInt + 1 := by omega
  refine zp_seg (pc' := 33) (lv' := [(4, .int m25), (3, .int (g 3)), (2, .int (g 1)), (0, .ref m), (1, .int z9)]) (st' := [.int (z9 - m25)]) [(27, .istore 4), (29, .iload_n 1), (30, .iload 4), (32, .isub)] (by decide +kernel) rfl ?_
  have k26 := zsub z9 m25 (by omega) (by omega)
  generalize ev33 : (z9 - m25 : Int32) = v33 at k26 ⊢
  have kv33 := zrng v33
  refine zp_seg (pc' := 36) (lv' := [(5, .int v33), (4, .int m25), (3, .int (g 3)), (2, .int (g 1)), (0, .ref m), (1, .int z9)]) (st' := [.ref m]) [(33, .istore 5), (35, .aload_n 0)] (by decide +kernel) rfl ?_
  refine zr_callV (idx := 74) (j := 263) (by decide +kernel) (by decide +kernel) (show zMe 263 = some zq_X16_newU from rfl) rfl rfl (Nat.le_of_ble_eq_true rfl) rfl rfl hm (Nat.le_of_ble_eq_true rfl) (Nat.le_of_ble_eq_true rfl) (c_X16_newU (w := w) (g1 := (g 1)) m hm hR_m (by first | omega | decide | assumption | exact zr1_1 | exact zr1_0 | fail "num") rfl) (by omega) (fun v36 w36 hp36 => ?_)
  obtain ⟨hsi36, heq36, hp36_0, hp36_1, rfl⟩ := hp36
  have hM36 : w36 m = some (.inl (15, zMo m (zs g 1 (g 1 + 1)) r)) := hp36_0
  show zP _ _ _ _ [.ref (m + 276 + 2 * (g 1).toNatClampNeg)] _ _ _ _ _
  refine zp_seg (pc' := 42) (lv' := [(6, .ref (m + 276 + 2 * (g 1).toNatClampNeg)), (5, .int v33), (4, .int m25), (3, .int (g 3)), (2, .int (g 1)), (0, .ref m), (1, .int z9)]) (st' := [.ref m]) [(39, .astore 6), (41, .aload_n 0)] (by decide +kernel) rfl ?_
  have hb27 := hR_m.si hsi36
  refine zr_callV (idx := 74) (j := 263) (by decide +kernel) (by decide +kernel) (show zMe 263 = some zq_X16_newU from rfl) rfl rfl (Nat.le_of_ble_eq_true rfl) rfl rfl hM36 (Nat.le_of_ble_eq_true rfl) (Nat.le_of_ble_eq_true rfl) (c_X16_newU (w := w36) (g1 := (g 1 + 1)) m hM36 hb27 (by first | omega | decide | assumption | exact zr1_1 | exact zr1_0 | fail "num") rfl) (by omega) (fun v42 w42 hp42 => ?_)
  obtain ⟨hsi42, heq42, hp42_0, hp42_1, rfl⟩ := hp42
  have hM42 : w42 m = some (.inl (15, zMo m (zs g 1 (g 1 + 1 + 1)) r)) := hp42_0
  show zP _ _ _ _ [.ref (m + 276 + 2 * (g 1 + 1).toNatClampNeg)] _ _ _ _ _
  refine zp_seg (pc' := 50) (lv' := [(7, .ref (m + 276 + 2 * (g 1 + 1).toNatClampNeg)), (6, .ref (m + 276 + 2 * (g 1).toNatClampNeg)), (5, .int v33), (4, .int m25), (3, .int (g 3)), (2, .int (g 1)), (0, .ref m), (1, .int z9)]) (st' := [.ref m, .ref (m + 276 + 2 * (g 1).toNatClampNeg)]) [(45, .astore 7), (47, .aload 6), (49, .aload_n 0)] (by decide +kernel) rfl ?_
  refine zr_get (idx := 705) (k := 42) (v := .ref aU) (by decide +kernel) (by decide +kernel) hM42 (congrArg some hrU) ?_
  refine zp_seg (pc' := 54) (lv' := [(7, .ref (m + 276 + 2 * (g 1 + 1).toNatClampNeg)), (6, .ref (m + 276 + 2 * (g 1).toNatClampNeg)), (5, .int v33), (4, .int m25), (3, .int (g 3)), (2, .int (g 1)), (0, .ref m), (1, .int z9)]) (st' := [.ref m, .ref aU, .ref (m + 276 + 2 * (g 1).toNatClampNeg)]) [(53, .aload_n 0)] (by decide +kernel) rfl ?_
  refine zr_get (idx := 695) (k := 39) (v := .ref fA) (by decide +kernel) (by decide +kernel) hM42 (congrArg some hrA) ?_
  have hb28 : zB w42 fA PA0 := hB_fA.ag (fun x hx1 hx2 => ((heq42 x ⟨(zx_X16_depth_0 hx1 hx2 hmfA hgb3), (zx_X16_depth_2 hx1 hx2 hmfA hgn1_1 hgb1 hgb3)⟩).trans (heq36 x ⟨(zx_X16_depth_0 hx1 hx2 hmfA hgb3), (zx_X16_depth_1 hx1 hx2 hmfA hgb1 hgb3)⟩)))
  have hb29 : w42 fA = some (.inl (11, [.ref (fA + 1), .int n15])) := ((heq42 fA ⟨(zx_X16_depth_3 hmfA hgb3), (zx_X16_depth_5 hmfA hgn1_1 hgb1 hgb3)⟩).trans (heq36 fA ⟨(zx_X16_depth_3 hmfA hgb3), (zx_X16_depth_4 hmfA hgb1 hgb3)⟩)).trans hb16
  refine zr_callV (idx := 144) (j := 246) (by decide +kernel) (by decide +kernel) (show zMe 246 = some zq_X12_lead from rfl) rfl rfl (Nat.le_of_ble_eq_true rfl) rfl rfl hb29 (Nat.le_of_ble_eq_true rfl) (Nat.le_of_ble_eq_true rfl) (c_X12_lead (w := w42) fA hb28 (by first | omega | decide | assumption | exact zr1_1 | exact zr1_0 | fail "num")) (by omega) (fun v57 w57 hp57 => ?_)
  obtain ⟨hpw57, hp57_0, rfl⟩ := hp57
  replace hpw57 := hpw57.symm
  subst hpw57
  show zP _ _ _ _ [.ref (fA + 2 + 2 * (zrw PA0 - 1)), .ref aU, .ref (m + 276 + 2 * (g 1).toNatClampNeg)] _ _ _ _ _
  have hb30 : zU w42 (m + 276 + 2 * (g 1).toNatClampNeg) 1000 zaZ := hp36_1.ag (fun x hx1 hx2 => (heq42 x ⟨(zx_X16_depth_6 hx1 hx2 hgb1), (zx_X16_depth_7 hx1 hx2 hgn1_1 hgb1)⟩))
  have ho60_to := zU.o hb30
  have hb31 : zU w42 aU 1000 Pu := hU_aU.ag (fun x hx1 hx2 => ((heq42 x ⟨(zx_X16_depth_8 hx1 hx2 hmaU hgb1), (zx_X16_depth_10 hx1 hx2 hmaU hgn1_1 hgb1)⟩).trans (heq36 x ⟨(zx_X16_depth_8 hx1 hx2 hmaU hgb1), (zx_X16_depth_9 hx1 hx2 hmaU hgb1)⟩)))
  refine zr_callS (idx := 106) (j := 267) (by decide +kernel) (by decide +kernel) (by decide) (show zMe 267 = some zq_X16_times from rfl) rfl rfl (Nat.le_of_ble_eq_true rfl) rfl rfl (Nat.le_of_ble_eq_true rfl) (Nat.le_of_ble_eq_true rfl) (c_X16_times (w := w42) (m + 276 + 2 * (g 1).toNatClampNeg) aU (fA + 2 + 2 * (zrw PA0 - 1)) ho60_to hb31 hp57_0 (by first | omega | decide | assumption | exact zr1_1 | exact zr1_0 | fail "num") (by first | omega | decide | assumption | exact zr1_1 | exact zr1_0 | fail "num") (by first | omega | decide | assumption | exact zr1_1 | exact zr1_0 | fail "num") (by first | omega | decide | assumption | exact zr1_1 | exact zr1_0 | fail "num")) (by omega) (fun v60 w60 hp60 => ?_)
  obtain ⟨hsi60, heq60, hp60_0, rfl⟩ := hp60
  show zP _ _ _ _ [] _ _ _ _ _
  refine zp_seg (pc' := 64) (lv' := [(7, .ref (m + 276 + 2 * (g 1 + 1).toNatClampNeg)), (6, .ref (m + 276 + 2 * (g 1).toNatClampNeg)), (5, .int v33), (4, .int m25), (3, .int (g 3)), (2, .int (g 1)), (0, .ref m), (1, .int z9)]) (st' := [.ref m]) [(63, .aload_n 0)] (by decide +kernel) rfl ?_
  have hb32 : w60 m = some (.inl (15, zMo m (zs g 1 (g 1 + 1 + 1)) r)) := (heq60 m (zx_X16_depth_11 hgb1)).trans hM42
  refine zr_get (idx := 695) (k := 39) (v := .ref fA) (by decide +kernel) (by decide +kernel) hb32 (congrArg some hrA) ?_
  have hb33 : w60 fA = some (.inl (11, [.ref (fA + 1), .int n15])) := (heq60 fA (zx_X16_depth_4 hmfA hgb1 hgb3)).trans hb29
  refine zr_get (idx := 93) (k := 1) (v := .int n15) (by decide +kernel) (by decide +kernel) hb33 rfl ?_
  refine zp_seg (pc' := 71) (lv' := [(7, .ref (m + 276 + 2 * (g 1 + 1).toNatClampNeg)), (6, .ref (m + 276 + 2 * (g 1).toNatClampNeg)), (5, .int v33), (4, .int m25), (3, .int (g 3)), (2, .int (g 1)), (0, .ref m), (1, .int z9)]) (st' := [.ref m, .int n15]) [(70, .aload_n 0)] (by decide +kernel) rfl ?_
  refine zr_get (idx := 699) (k := 40) (v := .ref fB) (by decide +kernel) (by decide +kernel) hb32 (congrArg some hrB) ?_
  have hb34 : w60 fB = some (.inl (11, [.ref (fB + 1), .int n20])) := ((heq60 fB (zx_X16_depth_13 hmfB hgb1 hgb3)).trans ((heq42 fB ⟨(zx_X16_depth_12 hmfB hgb3), (zx_X16_depth_14 hmfB hgn1_1 hgb1 hgb3)⟩).trans (heq36 fB ⟨(zx_X16_depth_12 hmfB hgb3), (zx_X16_depth_13 hmfB hgb1 hgb3)⟩))).trans hb21
  refine zr_get (idx := 93) (k := 1) (v := .int n20) (by decide +kernel) (by decide +kernel) hb34 rfl ?_
  refine zp_if (i := .if_icmp .ne 230) (c := ¬ n15 = n20) (t := 307) (e := 80) (lv' := [(7, .ref (m + 276 + 2 * (g 1 + 1).toNatClampNeg)), (6, .ref (m + 276 + 2 * (g 1).toNatClampNeg)), (5, .int v33), (4, .int m25), (3, .int (g 3)), (2, .int (g 1)), (0, .ref m), (1, .int z9)]) (st' := []) (by decide +kernel) rfl (fun cc77 => ?_) (fun cc77 => ?_)
  ·
    have f35 := zneI cc77
    refine zp_seg (pc' := 309) (lv' := [(7, .ref (m + 276 + 2 * (g 1 + 1).toNatClampNeg)), (6, .ref (m + 276 + 2 * (g 1).toNatClampNeg)), (5, .int v33), (4, .int m25), (3, .int (g 3)), (2, .int (g 1)), (0, .ref m), (1, .int z9)]) (st' := [.int (g 3), .ref m]) [(307, .aload_n 0), (308, .iload_n 3)] (by decide +kernel) rfl ?_
    refine zr_put2 (idx := 90) (k := 3) (fs2 := zMo m (zs g 1 (g 1 + 1 + 1)) r) (by decide +kernel) (by decide +kernel) hb32 (Nat.le_of_ble_eq_true rfl) rfl rfl rfl ?_
    show zP (d + 1) zq_X16_depth 312 [(7, .ref (m + 276 + 2 * (g 1 + 1).toNatClampNeg)), (6, .ref (m + 276 + 2 * (g 1).toNatClampNeg)), (5, .int v33), (4, .int m25), (3, .int (g 3)), (2, .int (g 1)), (0, .ref m), (1, .int z9)] [] (zup w60 m (.inl (15, zMo m (zs g 1 (g 1 + 1 + 1)) r))) sz 0 0 Post
    obtain ⟨w309, ew309⟩ : ∃ wz9, wz9 = zup w60 m (.inl (15, zMo m (zs g 1 (g 1 + 1 + 1)) r)) := ⟨_, rfl⟩
    have hsi309 : zSI w60 w309 := by rw [ew309]; exact zSI.setG hb32 _ _
    have heq309 : ∀ x, x ≠ m → w309 x = w60 x := fun x hx => by rw [ew309]; exact zup_n hx
    have hc309 : w309 m = some (.inl (15, zMo m (zs g 1 (g 1 + 1 + 1)) r)) := by rw [ew309]; exact zup_s
    rw [← ew309]
    clear ew309
    refine zp_seg (pc' := 314) (lv' := [(7, .ref (m + 276 + 2 * (g 1 + 1).toNatClampNeg)), (6, .ref (m + 276 + 2 * (g 1).toNatClampNeg)), (5, .int v33), (4, .int m25), (3, .int (g 3)), (2, .int (g 1)), (0, .ref m), (1, .int z9)]) (st' := [.int (g 1), .ref m]) [(312, .aload_n 0), (313, .iload_n 2)] (by decide +kernel) rfl ?_
    refine zr_put2 (idx := 21) (k := 1) (fs2 := zMo m g r) (by decide +kernel) (by decide +kernel) hc309 (Nat.le_of_ble_eq_true rfl) rfl rfl rfl ?_
    show zP (d + 1) zq_X16_depth 317 [(7, .ref (m + 276 + 2 * (g 1 + 1).toNatClampNeg)), (6, .ref (m + 276 + 2 * (g 1).toNatClampNeg)), (5, .int v33), (4, .int m25), (3, .int (g 3)), (2, .int (g 1)), (0, .ref m), (1, .int z9)] [] (zup w309 m (.inl (15, zMo m g r))) sz 0 0 Post
    obtain ⟨w314, ew314⟩ : ∃ wz9, wz9 = zup w309 m (.inl (15, zMo m g r)) := ⟨_, rfl⟩
    have hsi314 : zSI w309 w314 := by rw [ew314]; exact zSI.setG hc309 _ _
    have heq314 : ∀ x, x ≠ m → w314 x = w309 x := fun x hx => by rw [ew314]; exact zup_n hx
    have hc314 : w314 m = some (.inl (15, zMo m g r)) := by rw [ew314]; exact zup_s
    rw [← ew314]
    clear ew314
    refine zp_seg (pc' := 319) (lv' := [(7, .ref (m + 276 + 2 * (g 1 + 1).toNatClampNeg)), (6, .ref (m + 276 + 2 * (g 1).toNatClampNeg)), (5, .int v33), (4, .int m25), (3, .int (g 3)), (2, .int (g 1)), (0, .ref m), (1, .int z9)]) (st' := [.int v33]) [(317, .iload 5)] (by decide +kernel) rfl ?_
    have hmend : w314 m = w m := by rw [hc314, hm]
    have hoffend : ∀ x, (x < m + 276 + 2 * (g 1).toNatClampNeg ∨ m + 276 + 2 * (g 1).toNatClampNeg + (320 - 2 * (g 1).toNatClampNeg) ≤ x) ∧ (x < m + 596 + 130 * (g 3).toNatClampNeg ∨ m + 596 + 130 * (g 3).toNatClampNeg + (5720 - 130 * (g 3).toNatClampNeg) ≤ x) → w314 x = w x := fun x hx => by
        by_cases ex : x = m
        · rw [ex]; exact hmend
        · exact ((heq314 x ex).trans ((heq309 x ex).trans ((heq60 x (zx_X16_depth_16 hx.1 hgb1)).trans ((heq42 x ⟨(zx_X16_depth_15 ex), (zx_X16_depth_17 hx.1 hgn1_1 hgb1)⟩).trans (heq36 x ⟨(zx_X16_depth_15 ex), (zx_X16_depth_16 hx.1 hgb1)⟩)))))
    refine zr_retI (by decide +kernel) rfl ?_
    rw [← hPost]; exact ⟨rfl, _, rfl, ((((hsi36.tr hsi42).tr hsi60).tr hsi309).tr hsi314), hoffend, _, rfl, (by first | omega | decide | assumption)⟩
  ·
    replace cc77 := Classical.not_not.mp cc77
    have f36 := zeqI cc77
    refine zp_seg (pc' := 83) (lv' := [(7, .ref (m + 276 + 2 * (g 1 + 1).toNatClampNeg)), (6, .ref (m + 276 + 2 * (g 1).toNatClampNeg)), (5, .int v33), (4, .int m25), (3, .int (g 3)), (2, .int (g 1)), (0, .ref m), (1, .int z9)]) (st' := [.ref m, .ref (m + 276 + 2 * (g 1).toNatClampNeg)]) [(80, .aload 6), (82, .aload_n 0)] (by decide +kernel) rfl ?_
    refine zr_get (idx := 709) (k := 43) (v := .ref aD) (by decide +kernel) (by decide +kernel) hb32 (congrArg some hrD) ?_
    have hb37 : zU w60 aD 1000 Pd := hU_aD.ag (fun x hx1 hx2 => ((heq60 x (zx_X16_depth_19 hx1 hx2 hmaD hgb1)).trans ((heq42 x ⟨(zx_X16_depth_18 hx1 hx2 hmaD hgb1), (zx_X16_depth_20 hx1 hx2 hmaD hgn1_1 hgb1)⟩).trans (heq36 x ⟨(zx_X16_depth_18 hx1 hx2 hmaD hgb1), (zx_X16_depth_19 hx1 hx2 hmaD hgb1)⟩))))
    refine zr_callS (idx := 716) (j := 383) (by decide +kernel) (by decide +kernel) (by decide) (show zMe 383 = some zq_X16_areSame from rfl) rfl rfl (Nat.le_of_ble_eq_true rfl) rfl rfl (Nat.le_of_ble_eq_true rfl) (Nat.le_of_ble_eq_true rfl) (c_X16_areSame (w := w60) (m + 276 + 2 * (g 1).toNatClampNeg) aD hp60_0 hb37) (by omega) (fun v86 w86 hp86 => ?_)
    obtain ⟨hpw86, r86, rfl, hrb86, hr86⟩ := hp86
    replace hpw86 := hpw86.symm
    subst hpw86
    have kr86 := zrng r86
    show zP _ _ _ _ [.int r86] _ _ _ _ _
    refine zp_if (i := .ifCond .eq 218) (c := r86 = 0) (t := 307) (e := 92) (lv' := [(7, .ref (m + 276 + 2 * (g 1 + 1).toNatClampNeg)), (6, .ref (m + 276 + 2 * (g 1).toNatClampNeg)), (5, .int v33), (4, .int m25), (3, .int (g 3)), (2, .int (g 1)), (0, .ref m), (1, .int z9)]) (st' := []) (by decide +kernel) rfl (fun cc89 => ?_) (fun cc89 => ?_)
    ·
      have f39 := zeqI cc89
      rw [show (0 : Int32).toInt = 0 from by decide] at f39
      refine zp_seg (pc' := 309) (lv' := [(7, .ref (m + 276 + 2 * (g 1 + 1).toNatClampNeg)), (6, .ref (m + 276 + 2 * (g 1).toNatClampNeg)), (5, .int v33), (4, .int m25), (3, .int (g 3)), (2, .int (g 1)), (0, .ref m), (1, .int z9)]) (st' := [.int (g 3), .ref m]) [(307, .aload_n 0), (308, .iload_n 3)] (by decide +kernel) rfl ?_
      refine zr_put2 (idx := 90) (k := 3) (fs2 := zMo m (zs g 1 (g 1 + 1 + 1)) r) (by decide +kernel) (by decide +kernel) hb32 (Nat.le_of_ble_eq_true rfl) rfl rfl rfl ?_
      show zP (d + 1) zq_X16_depth 312 [(7, .ref (m + 276 + 2 * (g 1 + 1).toNatClampNeg)), (6, .ref (m + 276 + 2 * (g 1).toNatClampNeg)), (5, .int v33), (4, .int m25), (3, .int (g 3)), (2, .int (g 1)), (0, .ref m), (1, .int z9)] [] (zup w60 m (.inl (15, zMo m (zs g 1 (g 1 + 1 + 1)) r))) sz 0 0 Post
      obtain ⟨w309, ew309⟩ : ∃ wz9, wz9 = zup w60 m (.inl (15, zMo m (zs g 1 (g 1 + 1 + 1)) r)) := ⟨_, rfl⟩
      have hsi309 : zSI w60 w309 := by rw [ew309]; exact zSI.setG hb32 _ _
      have heq309 : ∀ x, x ≠ m → w309 x = w60 x := fun x hx => by rw [ew309]; exact zup_n hx
      have hc309 : w309 m = some (.inl (15, zMo m (zs g 1 (g 1 + 1 + 1)) r)) := by rw [ew309]; exact zup_s
      rw [← ew309]
      clear ew309
      refine zp_seg (pc' := 314) (lv' := [(7, .ref (m + 276 + 2 * (g 1 + 1).toNatClampNeg)), (6, .ref (m + 276 + 2 * (g 1).toNatClampNeg)), (5, .int v33), (4, .int m25), (3, .int (g 3)), (2, .int (g 1)), (0, .ref m), (1, .int z9)]) (st' := [.int (g 1), .ref m]) [(312, .aload_n 0), (313, .iload_n 2)] (by decide +kernel) rfl ?_
      refine zr_put2 (idx := 21) (k := 1) (fs2 := zMo m g r) (by decide +kernel) (by decide +kernel) hc309 (Nat.le_of_ble_eq_true rfl) rfl rfl rfl ?_
      show zP (d + 1) zq_X16_depth 317 [(7, .ref (m + 276 + 2 * (g 1 + 1).toNatClampNeg)), (6, .ref (m + 276 + 2 * (g 1).toNatClampNeg)), (5, .int v33), (4, .int m25), (3, .int (g 3)), (2, .int (g 1)), (0, .ref m), (1, .int z9)] [] (zup w309 m (.inl (15, zMo m g r))) sz 0 0 Post
      obtain ⟨w314, ew314⟩ : ∃ wz9, wz9 = zup w309 m (.inl (15, zMo m g r)) := ⟨_, rfl⟩
      have hsi314 : zSI w309 w314 := by rw [ew314]; exact zSI.setG hc309 _ _
      have heq314 : ∀ x, x ≠ m → w314 x = w309 x := fun x hx => by rw [ew314]; exact zup_n hx
      have hc314 : w314 m = some (.inl (15, zMo m g r)) := by rw [ew314]; exact zup_s
      rw [← ew314]
      clear ew314
      refine zp_seg (pc' := 319) (lv' := [(7, .ref (m + 276 + 2 * (g 1 + 1).toNatClampNeg)), (6, .ref (m + 276 + 2 * (g 1).toNatClampNeg)), (5, .int v33), (4, .int m25), (3, .int (g 3)), (2, .int (g 1)), (0, .ref m), (1, .int z9)]) (st' := [.int v33]) [(317, .iload 5)] (by decide +kernel) rfl ?_
      have hmend : w314 m = w m := by rw [hc314, hm]
      have hoffend : ∀ x, (x < m + 276 + 2 * (g 1).toNatClampNeg ∨ m + 276 + 2 * (g 1).toNatClampNeg + (320 - 2 * (g 1).toNatClampNeg) ≤ x) ∧ (x < m + 596 + 130 * (g 3).toNatClampNeg ∨ m + 596 + 130 * (g 3).toNatClampNeg + (5720 - 130 * (g 3).toNatClampNeg) ≤ x) → w314 x = w x := fun x hx => by
          by_cases ex : x = m
          · rw [ex]; exact hmend
          · exact ((heq314 x ex).trans ((heq309 x ex).trans ((heq60 x (zx_X16_depth_16 hx.1 hgb1)).trans ((heq42 x ⟨(zx_X16_depth_15 ex), (zx_X16_depth_17 hx.1 hgn1_1 hgb1)⟩).trans (heq36 x ⟨(zx_X16_depth_15 ex), (zx_X16_depth_16 hx.1 hgb1)⟩)))))
      refine zr_retI (by decide +kernel) rfl ?_
      rw [← hPost]; exact ⟨rfl, _, rfl, ((((hsi36.tr hsi42).tr hsi60).tr hsi309).tr hsi314), hoffend, _, rfl, (by first | omega | decide | assumption)⟩
    ·
      have f41 := zneI cc89
      rw [show (0 : Int32).toInt = 0 from by decide] at f41
      refine zp_seg (pc' := 95) (lv' := [(5, .int (v33 + 1)), (7, .ref (m + 276 + 2 * (g 1 + 1).toNatClampNeg)), (6, .ref (m + 276 + 2 * (g 1).toNatClampNeg)), (4, .int m25), (3, .int (g 3)), (2, .int (g 1)), (0, .ref m), (1, .int z9)]) (st' := []) [(92, .iinc 5 1)] (by decide +kernel) rfl ?_
      have k42 := zaddC v33 1 (n := 1) (by decide) (by omega) (by omega)
      generalize ev95 : (v33 + 1 : Int32) = v95 at k42 ⊢
      have kv95 := zrng v95
      refine zp_seg (pc' := 103) (lv' := [(9, .int 1), (8, .int 0), (5, .int v95), (7, .ref (m + 276 + 2 * (g 1 + 1).toNatClampNeg)), (6, .ref (m + 276 + 2 * (g 1).toNatClampNeg)), (4, .int m25), (3, .int (g 3)), (2, .int (g 1)), (0, .ref m), (1, .int z9)]) (st' := [.int m25]) [(95, .iconst 0), (96, .istore 8), (98, .iconst 1), (99, .istore 9), (101, .iload 4)] (by decide +kernel) rfl ?_
      refine zp_if (i := .ifCond .le 176) (c := m25 ≤ 0) (t := 279) (e := 106) (lv' := [(9, .int 1), (8, .int 0), (5, .int v95), (7, .ref (m + 276 + 2 * (g 1 + 1).toNatClampNeg)), (6, .ref (m + 276 + 2 * (g 1).toNatClampNeg)), (4, .int m25), (3, .int (g 3)), (2, .int (g 1)), (0, .ref m), (1, .int z9)]) (st' := []) (by decide +kernel) rfl (fun cc103 => ?_) (fun cc103 => ?_)
      ·
        have f43 := zleI cc103
        rw [show (0 : Int32).toInt = 0 from by decide] at f43
        refine zp_seg (pc' := 281) (lv' := [(9, .int 1), (8, .int 0), (5, .int v95), (7, .ref (m + 276 + 2 * (g 1 + 1).toNatClampNeg)), (6, .ref (m + 276 + 2 * (g 1).toNatClampNeg)), (4, .int m25), (3, .int (g 3)), (2, .int (g 1)), (0, .ref m), (1, .int z9)]) (st' := [.int 1]) [(279, .iload 9)] (by decide +kernel) rfl ?_
        have hJ305 : ∀ (z0_305 : Int32), (-200 ≤ z0_305.toInt ∧ z0_305.toInt ≤ 200) → zP (d + 1) zq_X16_depth 305 [(0, .ref m), (2, .int (g 1)), (3, .int (g 3))] [.int z0_305] w60 sz 0 0 Post := by
          intro z0_305 hd5
          have kz0_305 := zrng z0_305
          refine zp_seg (pc' := 309) (lv' := [(5, .int z0_305), (0, .ref m), (2, .int (g 1)), (3, .int (g 3))]) (st' := [.int (g 3), .ref m]) [(305, .istore 5), (307, .aload_n 0), (308, .iload_n 3)] (by decide +kernel) rfl ?_
          refine zr_put2 (idx := 90) (k := 3) (fs2 := zMo m (zs g 1 (g 1 + 1 + 1)) r) (by decide +kernel) (by decide +kernel) hb32 (Nat.le_of_ble_eq_true rfl) rfl rfl rfl ?_
          show zP (d + 1) zq_X16_depth 312 [(5, .int z0_305), (0, .ref m), (2, .int (g 1)), (3, .int (g 3))] [] (zup w60 m (.inl (15, zMo m (zs g 1 (g 1 + 1 + 1)) r))) sz 0 0 Post
          obtain ⟨w309, ew309⟩ : ∃ wz9, wz9 = zup w60 m (.inl (15, zMo m (zs g 1 (g 1 + 1 + 1)) r)) := ⟨_, rfl⟩
          have hsi309 : zSI w60 w309 := by rw [ew309]; exact zSI.setG hb32 _ _
          have heq309 : ∀ x, x ≠ m → w309 x = w60 x := fun x hx => by rw [ew309]; exact zup_n hx
          have hc309 : w309 m = some (.inl (15, zMo m (zs g 1 (g 1 + 1 + 1)) r)) := by rw [ew309]; exact zup_s
          rw [← ew309]
          clear ew309
          refine zp_seg (pc' := 314) (lv' := [(5, .int z0_305), (0, .ref m), (2, .int (g 1)), (3, .int (g 3))]) (st' := [.int (g 1), .ref m]) [(312, .aload_n 0), (313, .iload_n 2)] (by decide +kernel) rfl ?_
          refine zr_put2 (idx := 21) (k := 1) (fs2 := zMo m g r) (by decide +kernel) (by decide +kernel) hc309 (Nat.le_of_ble_eq_true rfl) rfl rfl rfl ?_
          show zP (d + 1) zq_X16_depth 317 [(5, .int z0_305), (0, .ref m), (2, .int (g 1)), (3, .int (g 3))] [] (zup w309 m (.inl (15, zMo m g r))) sz 0 0 Post
          obtain ⟨w314, ew314⟩ : ∃ wz9, wz9 = zup w309 m (.inl (15, zMo m g r)) := ⟨_, rfl⟩
          have hsi314 : zSI w309 w314 := by rw [ew314]; exact zSI.setG hc309 _ _
          have heq314 : ∀ x, x ≠ m → w314 x = w309 x := fun x hx => by rw [ew314]; exact zup_n hx
          have hc314 : w314 m = some (.inl (15, zMo m g r)) := by rw [ew314]; exact zup_s
          rw [← ew314]
          clear ew314
          refine zp_seg (pc' := 319) (lv' := [(5, .int z0_305), (0, .ref m), (2, .int (g 1)), (3, .int (g 3))]) (st' := [.int z0_305]) [(317, .iload 5)] (by decide +kernel) rfl ?_
          have hmend : w314 m = w m := by rw [hc314, hm]
          have hoffend : ∀ x, (x < m + 276 + 2 * (g 1).toNatClampNeg ∨ m + 276 + 2 * (g 1).toNatClampNeg + (320 - 2 * (g 1).toNatClampNeg) ≤ x) ∧ (x < m + 596 + 130 * (g 3).toNatClampNeg ∨ m + 596 + 130 * (g 3).toNatClampNeg + (5720 - 130 * (g 3).toNatClampNeg) ≤ x) → w314 x = w x := fun x hx => by
              by_cases ex : x = m
              · rw [ex]; exact hmend
              · exact ((heq314 x ex).trans ((heq309 x ex).trans ((heq60 x (zx_X16_depth_16 hx.1 hgb1)).trans ((heq42 x ⟨(zx_X16_depth_15 ex), (zx_X16_depth_17 hx.1 hgn1_1 hgb1)⟩).trans (heq36 x ⟨(zx_X16_depth_15 ex), (zx_X16_depth_16 hx.1 hgb1)⟩)))))
          refine zr_retI (by decide +kernel) rfl ?_
          rw [← hPost]; exact ⟨rfl, _, rfl, ((((hsi36.tr hsi42).tr hsi60).tr hsi309).tr hsi314), hoffend, _, rfl, (by first | omega | decide | assumption)⟩
        refine zp_pure (pc' := 284) (lv' := [(9, .int 1), (8, .int 0), (5, .int v95), (7, .ref (m + 276 + 2 * (g 1 + 1).toNatClampNeg)), (6, .ref (m + 276 + 2 * (g 1).toNatClampNeg)), (4, .int m25), (3, .int (g 3)), (2, .int (g 1)), (0, .ref m), (1, .int z9)]) (st' := []) (i := .ifCond .eq 22) (by decide +kernel) rfl ?_
        refine zp_seg (pc' := 288) (lv' := [(9, .int 1), (8, .int 0), (5, .int v95), (7, .ref (m + 276 + 2 * (g 1 + 1).toNatClampNeg)), (6, .ref (m + 276 + 2 * (g 1).toNatClampNeg)), (4, .int m25), (3, .int (g 3)), (2, .int (g 1)), (0, .ref m), (1, .int z9)]) (st' := [.int 12, .int 0]) [(284, .iload 8), (286, .bipush 12)] (by decide +kernel) rfl ?_
        refine zp_pure (pc' := 291) (lv' := [(9, .int 1), (8, .int 0), (5, .int v95), (7, .ref (m + 276 + 2 * (g 1 + 1).toNatClampNeg)), (6, .ref (m + 276 + 2 * (g 1).toNatClampNeg)), (4, .int m25), (3, .int (g 3)), (2, .int (g 1)), (0, .ref m), (1, .int z9)]) (st' := []) (i := .if_icmp .gt 15) (by decide +kernel) rfl ?_
        refine zp_seg (pc' := 295) (lv' := [(9, .int 1), (8, .int 0), (5, .int v95), (7, .ref (m + 276 + 2 * (g 1 + 1).toNatClampNeg)), (6, .ref (m + 276 + 2 * (g 1).toNatClampNeg)), (4, .int m25), (3, .int (g 3)), (2, .int (g 1)), (0, .ref m), (1, .int z9)]) (st' := [.int v95, .int 0]) [(291, .iload 8), (293, .iload 5)] (by decide +kernel) rfl ?_
        refine zp_if (i := .if_icmp .le 8) (c := 0 ≤ v95) (t := 303) (e := 298) (lv' := [(9, .int 1), (8, .int 0), (5, .int v95), (7, .ref (m + 276 + 2 * (g 1 + 1).toNatClampNeg)), (6, .ref (m + 276 + 2 * (g 1).toNatClampNeg)), (4, .int m25), (3, .int (g 3)), (2, .int (g 1)), (0, .ref m), (1, .int z9)]) (st' := []) (by decide +kernel) rfl (fun cc295 => ?_) (fun cc295 => ?_)
        ·
          have f44 := zleI cc295
          rw [show (0 : Int32).toInt = 0 from by decide] at f44
          refine zp_seg (pc' := 305) (lv' := [(9, .int 1), (8, .int 0), (5, .int v95), (7, .ref (m + 276 + 2 * (g 1 + 1).toNatClampNeg)), (6, .ref (m + 276 + 2 * (g 1).toNatClampNeg)), (4, .int m25), (3, .int (g 3)), (2, .int (g 1)), (0, .ref m), (1, .int z9)]) (st' := [.int v95]) [(303, .iload 5)] (by decide +kernel) rfl ?_
          exact (hJ305 v95 (by
                omega)).more (zfa1 rfl (zfa1 rfl (zfa1 rfl (zfa0))))
        ·
          have f45 := znleI cc295
          rw [show (0 : Int32).toInt = 0 from by decide] at f45
          refine zp_seg (pc' := 305) (lv' := [(9, .int 1), (8, .int 0), (5, .int v95), (7, .ref (m + 276 + 2 * (g 1 + 1).toNatClampNeg)), (6, .ref (m + 276 + 2 * (g 1).toNatClampNeg)), (4, .int m25), (3, .int (g 3)), (2, .int (g 1)), (0, .ref m), (1, .int z9)]) (st' := [.int 0]) [(298, .iload 8), (300, .goto 5)] (by decide +kernel) rfl ?_
          have hl46 : (0 : Int32).toInt = 0 := by decide
          exact (hJ305 0 (by
                omega)).more (zfa1 rfl (zfa1 rfl (zfa1 rfl (zfa0))))
      ·
        have f47 := znleI cc103
        rw [show (0 : Int32).toInt = 0 from by decide] at f47
        have hrr9 : zrw PA0 = zrw PB0 := by first | omega | (have h9 := congrArg Int32.toInt cc77; omega)
        refine zp_seg (pc' := 107) (lv' := [(9, .int 1), (8, .int 0), (5, .int v95), (7, .ref (m + 276 + 2 * (g 1 + 1).toNatClampNeg)), (6, .ref (m + 276 + 2 * (g 1).toNatClampNeg)), (4, .int m25), (3, .int (g 3)), (2, .int (g 1)), (0, .ref m), (1, .int z9)]) (st' := [.ref m]) [(106, .aload_n 0)] (by decide +kernel) rfl ?_
        have hb48 := hb27.si (hsi42.tr hsi60)
        refine zr_callV (idx := 140) (j := 274) (by decide +kernel) (by decide +kernel) (show zMe 274 = some zq_X16_newB from rfl) rfl rfl (Nat.le_of_ble_eq_true rfl) rfl rfl hb32 (Nat.le_of_ble_eq_true rfl) (Nat.le_of_ble_eq_true rfl) (c_X16_newB (w := w60) (g3 := (g 3)) m hb32 hb48 (by first | omega | decide | assumption | exact zr1_1 | exact zr1_0 | fail "num") rfl) (by omega) (fun v107 w107 hp107 => ?_)
        obtain ⟨hsi107, heq107, hp107_0, hp107_1, rfl⟩ := hp107
        have hM107 : w107 m = some (.inl (15, zMo m (zs (zs g 1 (g 1 + 1 + 1)) 3 (g 3 + 1)) r)) := hp107_0
        show zP _ _ _ _ [.ref (m + 596 + 130 * (g 3).toNatClampNeg)] _ _ _ _ _
        refine zp_seg (pc' := 115) (lv' := [(10, .ref (m + 596 + 130 * (g 3).toNatClampNeg)), (9, .int 1), (8, .int 0), (5, .int v95), (7, .ref (m + 276 + 2 * (g 1 + 1).toNatClampNeg)), (6, .ref (m + 276 + 2 * (g 1).toNatClampNeg)), (4, .int m25), (3, .int (g 3)), (2, .int (g 1)), (0, .ref m), (1, .int z9)]) (st' := [.ref m, .ref (m + 596 + 130 * (g 3).toNatClampNeg)]) [(110, .astore 10), (112, .aload 10), (114, .aload_n 0)] (by decide +kernel) rfl ?_
        refine zr_get (idx := 699) (k := 40) (v := .ref fB) (by decide +kernel) (by decide +kernel) hM107 (congrArg some hrB) ?_
        refine zr_ldcw (idx := 720) (v := 2147483646) (by decide +kernel) (by decide +kernel) ?_
        have ho121_to := zB.o hp107_1
        have hb49 : zB w107 fB PB0 := hB_fB.ag (fun x hx1 hx2 => ((heq107 x ⟨(zx_X16_depth_21 hx1 hx2 hmfB hgb3), (zx_X16_depth_24 hx1 hx2 hmfB hgb3)⟩).trans ((heq60 x (zx_X16_depth_22 hx1 hx2 hmfB hgb1 hgb3)).trans ((heq42 x ⟨(zx_X16_depth_21 hx1 hx2 hmfB hgb3), (zx_X16_depth_23 hx1 hx2 hmfB hgn1_1 hgb1 hgb3)⟩).trans (heq36 x ⟨(zx_X16_depth_21 hx1 hx2 hmfB hgb3), (zx_X16_depth_22 hx1 hx2 hmfB hgb1 hgb3)⟩)))))
        refine zr_callS (idx := 626) (j := 281) (by decide +kernel) (by decide +kernel) (by decide) (show zMe 281 = some zq_X16_shiftK from rfl) rfl rfl (Nat.le_of_ble_eq_true rfl) rfl rfl (Nat.le_of_ble_eq_true rfl) (Nat.le_of_ble_eq_true rfl) (c_X16_shiftKD (w := w107) (m + 596 + 130 * (g 3).toNatClampNeg) fB 2147483646 ho121_to hb49 (by first | omega | decide | assumption | exact zr1_1 | exact zr1_0 | fail "num") (by exact zr1_m1)) (by omega) (fun v121 w121 hp121 => ?_)
        obtain ⟨hsi121, heq121, hp121_0, rfl⟩ := hp121
        show zP _ _ _ _ [] _ _ _ _ _
        refine zp_seg (pc' := 128) (lv' := [(10, .ref (m + 596 + 130 * (g 3).toNatClampNeg)), (9, .int 1), (8, .int 0), (5, .int v95), (7, .ref (m + 276 + 2 * (g 1 + 1).toNatClampNeg)), (6, .ref (m + 276 + 2 * (g 1).toNatClampNeg)), (4, .int m25), (3, .int (g 3)), (2, .int (g 1)), (0, .ref m), (1, .int z9)]) (st' := [.ref (m + 596 + 130 * (g 3).toNatClampNeg), .ref (m + 276 + 2 * (g 1).toNatClampNeg)]) [(124, .aload 6), (126, .aload 10)] (by decide +kernel) rfl ?_
        obtain ⟨n50, hb51, hb52, hb53, hb54, -⟩ := id hp121_0
        have kn50 := zrng n50
        refine zr_get (idx := 98) (k := 0) (v := .ref (m + 596 + 130 * (g 3).toNatClampNeg + 1)) (by decide +kernel) (by decide +kernel) hb51 rfl ?_
        refine zp_seg (pc' := 135) (lv' := [(10, .ref (m + 596 + 130 * (g 3).toNatClampNeg)), (9, .int 1), (8, .int 0), (5, .int v95), (7, .ref (m + 276 + 2 * (g 1 + 1).toNatClampNeg)), (6, .ref (m + 276 + 2 * (g 1).toNatClampNeg)), (4, .int m25), (3, .int (g 3)), (2, .int (g 1)), (0, .ref m), (1, .int z9)]) (st' := [.int (m25 - 1), .ref (m + 596 + 130 * (g 3).toNatClampNeg + 1), .ref (m + 276 + 2 * (g 1).toNatClampNeg)]) [(131, .iload 4), (133, .iconst 1), (134, .isub)] (by decide +kernel) rfl ?_
        have k55 := zsubC m25 1 (n := 1) (by decide) (by omega) (by omega)
        generalize ev135 : (m25 - 1 : Int32) = v135 at k55 ⊢
        have kv135 := zrng v135
        have hz56 : (v135.toNatClampNeg : Int) = v135.toInt := znat (by first | omega | decide)
        have hs27 : v135.toNatClampNeg < zrw (zsh (zf (2147483646 : Int32)) PB0) := by omega
        have hrd1 := zdn_le (zsh (zf (2147483646 : Int32)) PB0) v135.toNatClampNeg
        refine zr_aald (v := .ref (m + 596 + 130 * (g 3).toNatClampNeg + 2 + 2 * v135.toNatClampNeg)) (by decide +kernel) hb52 (by decide) (zin (by first | omega | decide) (by first | omega | decide)) (zbr_at (by omega)) ?_
        have hrow57 := hp121_0.row (v135.toNatClampNeg) (by omega)
        refine zp_seg (pc' := 137) (lv' := [(10, .ref (m + 596 + 130 * (g 3).toNatClampNeg)), (9, .int 1), (8, .int 0), (5, .int v95), (7, .ref (m + 276 + 2 * (g 1 + 1).toNatClampNeg)), (6, .ref (m + 276 + 2 * (g 1).toNatClampNeg)), (4, .int m25), (3, .int (g 3)), (2, .int (g 1)), (0, .ref m), (1, .int z9)]) (st' := [.ref m, .ref (m + 596 + 130 * (g 3).toNatClampNeg + 2 + 2 * v135.toNatClampNeg), .ref (m + 276 + 2 * (g 1).toNatClampNeg)]) [(136, .aload_n 0)] (by decide +kernel) rfl ?_
        have hb58 : w121 m = some (.inl (15, zMo m (zs (zs g 1 (g 1 + 1 + 1)) 3 (g 3 + 1)) r)) := (heq121 m (zx_X16_depth_25 hgb3)).trans hM107
        refine zr_get (idx := 709) (k := 43) (v := .ref aD) (by decide +kernel) (by decide +kernel) hb58 (congrArg some hrD) ?_
        have hb59 : zU w121 (m + 276 + 2 * (g 1).toNatClampNeg) 1000 (zaM Pu (PA0.1 (zrw PA0 - 1))) := hp60_0.ag (fun x hx1 hx2 => ((heq121 x (zx_X16_depth_26 hx1 hx2 hgb1 hgb3)).trans (heq107 x ⟨(zx_X16_depth_6 hx1 hx2 hgb1), (zx_X16_depth_26 hx1 hx2 hgb1 hgb3)⟩)))
        have ho140_to := zU.o hb59
        have hb60 : zU w121 aD 1000 Pd := hb37.ag (fun x hx1 hx2 => ((heq121 x (zx_X16_depth_27 hx1 hx2 hmaD hgb1 hgb3)).trans (heq107 x ⟨(zx_X16_depth_18 hx1 hx2 hmaD hgb1), (zx_X16_depth_27 hx1 hx2 hmaD hgb1 hgb3)⟩)))
        refine zr_callS (idx := 106) (j := 267) (by decide +kernel) (by decide +kernel) (by decide) (show zMe 267 = some zq_X16_times from rfl) rfl rfl (Nat.le_of_ble_eq_true rfl) rfl rfl (Nat.le_of_ble_eq_true rfl) (Nat.le_of_ble_eq_true rfl) (c_X16_times (w := w121) (m + 276 + 2 * (g 1).toNatClampNeg) (m + 596 + 130 * (g 3).toNatClampNeg + 2 + 2 * v135.toNatClampNeg) aD ho140_to hrow57 hb60 (by first | omega | decide | assumption | exact zr1_1 | exact zr1_0 | fail "num") (by first | omega | decide | assumption | exact zr1_1 | exact zr1_0 | fail "num") (by first | omega | decide | assumption | exact zr1_1 | exact zr1_0 | fail "num") (by first | omega | decide | assumption | exact zr1_1 | exact zr1_0 | fail "num")) (by omega) (fun v140 w140 hp140 => ?_)
        obtain ⟨hsi140, heq140, hp140_0, rfl⟩ := hp140
        show zP _ _ _ _ [] _ _ _ _ _
        have hq1 := zln_Mle ((zsh (zf (2147483646 : Int32)) PB0).1 v135.toNatClampNeg) Pd
        refine zp_seg (pc' := 144) (lv' := [(10, .ref (m + 596 + 130 * (g 3).toNatClampNeg)), (9, .int 1), (8, .int 0), (5, .int v95), (7, .ref (m + 276 + 2 * (g 1 + 1).toNatClampNeg)), (6, .ref (m + 276 + 2 * (g 1).toNatClampNeg)), (4, .int m25), (3, .int (g 3)), (2, .int (g 1)), (0, .ref m), (1, .int z9)]) (st' := [.ref m]) [(143, .aload_n 0)] (by decide +kernel) rfl ?_
        have hb61 : w140 m = some (.inl (15, zMo m (zs (zs g 1 (g 1 + 1 + 1)) 3 (g 3 + 1)) r)) := (heq140 m (zx_X16_depth_11 hgb1)).trans hb58
        have hb62 := hb48.si ((hsi107.tr hsi121).tr hsi140)
        refine zr_callV (idx := 74) (j := 263) (by decide +kernel) (by decide +kernel) (show zMe 263 = some zq_X16_newU from rfl) rfl rfl (Nat.le_of_ble_eq_true rfl) rfl rfl hb61 (Nat.le_of_ble_eq_true rfl) (Nat.le_of_ble_eq_true rfl) (c_X16_newU (w := w140) (g1 := (g 1 + 1 + 1)) m hb61 hb62 (by first | omega | decide | assumption | exact zr1_1 | exact zr1_0 | fail "num") rfl) (by omega) (fun v144 w144 hp144 => ?_)
        obtain ⟨hsi144, heq144, hp144_0, hp144_1, rfl⟩ := hp144
        have hM144 : w144 m = some (.inl (15, zMo m (zs (zs g 1 (g 1 + 1 + 1 + 1)) 3 (g 3 + 1)) r)) := hp144_0
        show zP _ _ _ _ [.ref (m + 276 + 2 * (g 1 + 1 + 1).toNatClampNeg)] _ _ _ _ _
        refine zp_seg (pc' := 152) (lv' := [(11, .ref (m + 276 + 2 * (g 1 + 1 + 1).toNatClampNeg)), (10, .ref (m + 596 + 130 * (g 3).toNatClampNeg)), (9, .int 1), (8, .int 0), (5, .int v95), (7, .ref (m + 276 + 2 * (g 1 + 1).toNatClampNeg)), (6, .ref (m + 276 + 2 * (g 1).toNatClampNeg)), (4, .int m25), (3, .int (g 3)), (2, .int (g 1)), (0, .ref m), (1, .int z9)]) (st' := [.ref m, .ref (m + 276 + 2 * (g 1 + 1 + 1).toNatClampNeg)]) [(147, .astore 11), (149, .aload 11), (151, .aload_n 0)] (by decide +kernel) rfl ?_
        refine zr_get (idx := 705) (k := 42) (v := .ref aU) (by decide +kernel) (by decide +kernel) hM144 (congrArg some hrU) ?_
        refine zp_seg (pc' := 156) (lv' := [(11, .ref (m + 276 + 2 * (g 1 + 1 + 1).toNatClampNeg)), (10, .ref (m + 596 + 130 * (g 3).toNatClampNeg)), (9, .int 1), (8, .int 0), (5, .int v95), (7, .ref (m + 276 + 2 * (g 1 + 1).toNatClampNeg)), (6, .ref (m + 276 + 2 * (g 1).toNatClampNeg)), (4, .int m25), (3, .int (g 3)), (2, .int (g 1)), (0, .ref m), (1, .int z9)]) (st' := [.ref m, .ref aU, .ref (m + 276 + 2 * (g 1 + 1 + 1).toNatClampNeg)]) [(155, .aload_n 0)] (by decide +kernel) rfl ?_
        refine zr_get (idx := 695) (k := 39) (v := .ref fA) (by decide +kernel) (by decide +kernel) hM144 (congrArg some hrA) ?_
        have hb63 : w144 fA = some (.inl (11, [.ref (fA + 1), .int n15])) := ((heq144 fA ⟨(zx_X16_depth_3 hmfA hgb3), (zx_X16_depth_29 hmfA hgn1_2 hgb1 hgb3)⟩).trans ((heq140 fA (zx_X16_depth_4 hmfA hgb1 hgb3)).trans ((heq121 fA (zx_X16_depth_28 hmfA hgb3)).trans (heq107 fA ⟨(zx_X16_depth_3 hmfA hgb3), (zx_X16_depth_28 hmfA hgb3)⟩)))).trans hb33
        refine zr_get (idx := 98) (k := 0) (v := .ref (fA + 1)) (by decide +kernel) (by decide +kernel) hb63 rfl ?_
        refine zp_seg (pc' := 166) (lv' := [(11, .ref (m + 276 + 2 * (g 1 + 1 + 1).toNatClampNeg)), (10, .ref (m + 596 + 130 * (g 3).toNatClampNeg)), (9, .int 1), (8, .int 0), (5, .int v95), (7, .ref (m + 276 + 2 * (g 1 + 1).toNatClampNeg)), (6, .ref (m + 276 + 2 * (g 1).toNatClampNeg)), (4, .int m25), (3, .int (g 3)), (2, .int (g 1)), (0, .ref m), (1, .int z9)]) (st' := [.int (m25 - 1), .ref (fA + 1), .ref aU, .ref (m + 276 + 2 * (g 1 + 1 + 1).toNatClampNeg)]) [(162, .iload 4), (164, .iconst 1), (165, .isub)] (by decide +kernel) rfl ?_
        have k64 := zsubC m25 1 (n := 1) (by decide) (by omega) (by omega)
        generalize ev166 : (m25 - 1 : Int32) = v166 at k64 ⊢
        have kv166 := zrng v166
        have hz65 : (v166.toNatClampNeg : Int) = v166.toInt := znat (by first | omega | decide)
        have hrd2 := zdn_le PA0 v166.toNatClampNeg
        have hb66 : w144 (fA + 1) = some (.inr (4, 64, zbr fA)) := ((heq144 (fA + 1) ⟨(zx_X16_depth_30 hmfA hgb3), (zx_X16_depth_34 hmfA hgn1_2 hgb1 hgb3)⟩).trans ((heq140 (fA + 1) (zx_X16_depth_31 hmfA hgb1 hgb3)).trans ((heq121 (fA + 1) (zx_X16_depth_33 hmfA hgb3)).trans ((heq107 (fA + 1) ⟨(zx_X16_depth_30 hmfA hgb3), (zx_X16_depth_33 hmfA hgb3)⟩).trans ((heq60 (fA + 1) (zx_X16_depth_31 hmfA hgb1 hgb3)).trans ((heq42 (fA + 1) ⟨(zx_X16_depth_30 hmfA hgb3), (zx_X16_depth_32 hmfA hgn1_1 hgb1 hgb3)⟩).trans (heq36 (fA + 1) ⟨(zx_X16_depth_30 hmfA hgb3), (zx_X16_depth_31 hmfA hgb1 hgb3)⟩))))))).trans hb17
        refine zr_aald (v := .ref (fA + 2 + 2 * v166.toNatClampNeg)) (by decide +kernel) hb66 (by decide) (zin (by first | omega | decide) (by first | omega | decide)) (zbr_at (by omega)) ?_
        have hb67 : zB w144 fA PA0 := hb28.ag (fun x hx1 hx2 => ((heq144 x ⟨(zx_X16_depth_0 hx1 hx2 hmfA hgb3), (zx_X16_depth_36 hx1 hx2 hmfA hgn1_2 hgb1 hgb3)⟩).trans ((heq140 x (zx_X16_depth_1 hx1 hx2 hmfA hgb1 hgb3)).trans ((heq121 x (zx_X16_depth_35 hx1 hx2 hmfA hgb3)).trans ((heq107 x ⟨(zx_X16_depth_0 hx1 hx2 hmfA hgb3), (zx_X16_depth_35 hx1 hx2 hmfA hgb3)⟩).trans (heq60 x (zx_X16_depth_1 hx1 hx2 hmfA hgb1 hgb3)))))))
        have hrow68 := hb67.row (v166.toNatClampNeg) (by omega)
        have ho167_to := zU.o hp144_1
        have hb69 : zU w144 aU 1000 Pu := hb31.ag (fun x hx1 hx2 => ((heq144 x ⟨(zx_X16_depth_8 hx1 hx2 hmaU hgb1), (zx_X16_depth_38 hx1 hx2 hmaU hgn1_2 hgb1)⟩).trans ((heq140 x (zx_X16_depth_9 hx1 hx2 hmaU hgb1)).trans ((heq121 x (zx_X16_depth_37 hx1 hx2 hmaU hgb1 hgb3)).trans ((heq107 x ⟨(zx_X16_depth_8 hx1 hx2 hmaU hgb1), (zx_X16_depth_37 hx1 hx2 hmaU hgb1 hgb3)⟩).trans (heq60 x (zx_X16_depth_9 hx1 hx2 hmaU hgb1)))))))
        refine zr_callS (idx := 106) (j := 267) (by decide +kernel) (by decide +kernel) (by decide) (show zMe 267 = some zq_X16_times from rfl) rfl rfl (Nat.le_of_ble_eq_true rfl) rfl rfl (Nat.le_of_ble_eq_true rfl) (Nat.le_of_ble_eq_true rfl) (c_X16_times (w := w144) (m + 276 + 2 * (g 1 + 1 + 1).toNatClampNeg) aU (fA + 2 + 2 * v166.toNatClampNeg) ho167_to hb69 hrow68 (by first | omega | decide | assumption | exact zr1_1 | exact zr1_0 | fail "num") (by first | omega | decide | assumption | exact zr1_1 | exact zr1_0 | fail "num") (by first | omega | decide | assumption | exact zr1_1 | exact zr1_0 | fail "num") (by first | omega | decide | assumption | exact zr1_1 | exact zr1_0 | fail "num")) (by omega) (fun v167 w167 hp167 => ?_)
        obtain ⟨hsi167, heq167, hp167_0, rfl⟩ := hp167
        show zP _ _ _ _ [] _ _ _ _ _
        have hq2 := zln_Mle Pu (PA0.1 v166.toNatClampNeg)
        refine zp_seg (pc' := 175) (lv' := [(11, .ref (m + 276 + 2 * (g 1 + 1 + 1).toNatClampNeg)), (10, .ref (m + 596 + 130 * (g 3).toNatClampNeg)), (9, .int 1), (8, .int 0), (5, .int v95), (7, .ref (m + 276 + 2 * (g 1 + 1).toNatClampNeg)), (6, .ref (m + 276 + 2 * (g 1).toNatClampNeg)), (4, .int m25), (3, .int (g 3)), (2, .int (g 1)), (0, .ref m), (1, .int z9)]) (st' := [.ref m, .ref (m + 276 + 2 * (g 1 + 1 + 1).toNatClampNeg), .ref (m + 276 + 2 * (g 1 + 1).toNatClampNeg)]) [(170, .aload 7), (172, .aload 11), (174, .aload_n 0)] (by decide +kernel) rfl ?_
        have hb70 : w167 m = some (.inl (15, zMo m (zs (zs g 1 (g 1 + 1 + 1 + 1)) 3 (g 3 + 1)) r)) := (heq167 m (zx_X16_depth_39 hgn1_2 hgb1)).trans hM144
        refine zr_get (idx := 699) (k := 40) (v := .ref fB) (by decide +kernel) (by decide +kernel) hb70 (congrArg some hrB) ?_
        have hb71 : zB w167 fB PB0 := hb49.ag (fun x hx1 hx2 => ((heq167 x (zx_X16_depth_40 hx1 hx2 hmfB hgn1_2 hgb1 hgb3)).trans ((heq144 x ⟨(zx_X16_depth_21 hx1 hx2 hmfB hgb3), (zx_X16_depth_40 hx1 hx2 hmfB hgn1_2 hgb1 hgb3)⟩).trans ((heq140 x (zx_X16_depth_22 hx1 hx2 hmfB hgb1 hgb3)).trans (heq121 x (zx_X16_depth_24 hx1 hx2 hmfB hgb3))))))
        have hb72 : w167 fB = some (.inl (11, [.ref (fB + 1), .int n20])) := ((heq167 fB (zx_X16_depth_42 hmfB hgn1_2 hgb1 hgb3)).trans ((heq144 fB ⟨(zx_X16_depth_12 hmfB hgb3), (zx_X16_depth_42 hmfB hgn1_2 hgb1 hgb3)⟩).trans ((heq140 fB (zx_X16_depth_13 hmfB hgb1 hgb3)).trans ((heq121 fB (zx_X16_depth_41 hmfB hgb3)).trans (heq107 fB ⟨(zx_X16_depth_12 hmfB hgb3), (zx_X16_depth_41 hmfB hgb3)⟩))))).trans hb34
        refine zr_callV (idx := 144) (j := 246) (by decide +kernel) (by decide +kernel) (show zMe 246 = some zq_X12_lead from rfl) rfl rfl (Nat.le_of_ble_eq_true rfl) rfl rfl hb72 (Nat.le_of_ble_eq_true rfl) (Nat.le_of_ble_eq_true rfl) (c_X12_lead (w := w167) fB hb71 (by first | omega | decide | assumption | exact zr1_1 | exact zr1_0 | fail "num")) (by omega) (fun v178 w178 hp178 => ?_)
        obtain ⟨hpw178, hp178_0, rfl⟩ := hp178
        replace hpw178 := hpw178.symm
        subst hpw178
        show zP _ _ _ _ [.ref (fB + 2 + 2 * (zrw PB0 - 1)), .ref (m + 276 + 2 * (g 1 + 1 + 1).toNatClampNeg), .ref (m + 276 + 2 * (g 1 + 1).toNatClampNeg)] _ _ _ _ _
        have hb73 : zU w167 (m + 276 + 2 * (g 1 + 1).toNatClampNeg) 1000 zaZ := hp42_1.ag (fun x hx1 hx2 => ((heq167 x (zx_X16_depth_46 hx1 hx2 hgn1_1 hgn1_2 hgb1)).trans ((heq144 x ⟨(zx_X16_depth_44 hx1 hx2 hgn1_1 hgb1), (zx_X16_depth_46 hx1 hx2 hgn1_1 hgn1_2 hgb1)⟩).trans ((heq140 x (zx_X16_depth_43 hx1 hx2 hgn1_1 hgb1)).trans ((heq121 x (zx_X16_depth_45 hx1 hx2 hgn1_1 hgb1 hgb3)).trans ((heq107 x ⟨(zx_X16_depth_44 hx1 hx2 hgn1_1 hgb1), (zx_X16_depth_45 hx1 hx2 hgn1_1 hgb1 hgb3)⟩).trans (heq60 x (zx_X16_depth_43 hx1 hx2 hgn1_1 hgb1))))))))
        have ho181_to := zU.o hb73
        refine zr_callS (idx := 106) (j := 267) (by decide +kernel) (by decide +kernel) (by decide) (show zMe 267 = some zq_X16_times from rfl) rfl rfl (Nat.le_of_ble_eq_true rfl) rfl rfl (Nat.le_of_ble_eq_true rfl) (Nat.le_of_ble_eq_true rfl) (c_X16_times (w := w167) (m + 276 + 2 * (g 1 + 1).toNatClampNeg) (m + 276 + 2 * (g 1 + 1 + 1).toNatClampNeg) (fB + 2 + 2 * (zrw PB0 - 1)) ho181_to hp167_0 hp178_0 (by first | omega | decide | assumption | exact zr1_1 | exact zr1_0 | fail "num") (by first | omega | decide | assumption | exact zr1_1 | exact zr1_0 | fail "num") (by first | omega | decide | assumption | exact zr1_1 | exact zr1_0 | fail "num") (by first | omega | decide | assumption | exact zr1_1 | exact zr1_0 | fail "num")) (by omega) (fun v181 w181 hp181 => ?_)
        obtain ⟨hsi181, heq181, hp181_0, rfl⟩ := hp181
        show zP _ _ _ _ [] _ _ _ _ _
        have hq3 := zln_Mle (zaM Pu (PA0.1 v166.toNatClampNeg)) (PB0.1 (zrw PB0 - 1))
        refine zp_seg (pc' := 191) (lv' := [(11, .ref (m + 276 + 2 * (g 1 + 1 + 1).toNatClampNeg)), (10, .ref (m + 596 + 130 * (g 3).toNatClampNeg)), (9, .int 1), (8, .int 0), (5, .int v95), (7, .ref (m + 276 + 2 * (g 1 + 1).toNatClampNeg)), (6, .ref (m + 276 + 2 * (g 1).toNatClampNeg)), (4, .int m25), (3, .int (g 3)), (2, .int (g 1)), (0, .ref m), (1, .int z9)]) (st' := [.int 1, .ref (m + 276 + 2 * (g 1 + 1).toNatClampNeg), .ref (m + 276 + 2 * (g 1).toNatClampNeg), .ref (m + 276 + 2 * (g 1).toNatClampNeg)]) [(184, .aload 6), (186, .aload 6), (188, .aload 7), (190, .iconst 1)] (by decide +kernel) rfl ?_
        have hb74 : zU w181 (m + 276 + 2 * (g 1).toNatClampNeg) 1000 (zaM ((zsh (zf 2147483646) PB0).1 (v135.toNatClampNeg)) Pd) := hp140_0.ag (fun x hx1 hx2 => ((heq181 x (zx_X16_depth_7 hx1 hx2 hgn1_1 hgb1)).trans ((heq167 x (zx_X16_depth_47 hx1 hx2 hgn1_2 hgb1)).trans (heq144 x ⟨(zx_X16_depth_6 hx1 hx2 hgb1), (zx_X16_depth_47 hx1 hx2 hgn1_2 hgb1)⟩))))
        have ho191_to := zU.o hb74
        refine zr_callS (idx := 101) (j := 265) (by decide +kernel) (by decide +kernel) (by decide) (show zMe 265 = some zq_X16_plus from rfl) rfl rfl (Nat.le_of_ble_eq_true rfl) rfl rfl (Nat.le_of_ble_eq_true rfl) (Nat.le_of_ble_eq_true rfl) (c_X16_plusS (w := w181) (m + 276 + 2 * (g 1).toNatClampNeg) (m + 276 + 2 * (g 1).toNatClampNeg) (m + 276 + 2 * (g 1 + 1).toNatClampNeg)  ho191_to hb74 hp181_0 (by first | omega | decide | assumption | exact zr1_1 | exact zr1_0 | fail "num") (by first | omega | decide | assumption | exact zr1_1 | exact zr1_0 | fail "num")) (by omega) (fun v191 w191 hp191 => ?_)
        obtain ⟨hsi191, heq191, hp191_0, rfl⟩ := hp191
        show zP _ _ _ _ [] _ _ _ _ _
        refine zp_seg (pc' := 197) (lv' := [(11, .ref (m + 276 + 2 * (g 1 + 1 + 1).toNatClampNeg)), (10, .ref (m + 596 + 130 * (g 3).toNatClampNeg)), (9, .int 1), (8, .int 0), (5, .int v95), (7, .ref (m + 276 + 2 * (g 1 + 1).toNatClampNeg)), (6, .ref (m + 276 + 2 * (g 1).toNatClampNeg)), (4, .int m25), (3, .int (g 3)), (2, .int (g 1)), (0, .ref m), (1, .int z9)]) (st' := [.ref m, .ref (m + 276 + 2 * (g 1 + 1).toNatClampNeg)]) [(194, .aload 7), (196, .aload_n 0)] (by decide +kernel) rfl ?_
        have hb75 : w191 m = some (.inl (15, zMo m (zs (zs g 1 (g 1 + 1 + 1 + 1)) 3 (g 3 + 1)) r)) := ((heq191 m (zx_X16_depth_11 hgb1)).trans (heq181 m (zx_X16_depth_48 hgn1_1 hgb1))).trans hb70
        refine zr_get (idx := 699) (k := 40) (v := .ref fB) (by decide +kernel) (by decide +kernel) hb75 (congrArg some hrB) ?_
        have hb76 : zB w191 fB PB0 := hb71.ag (fun x hx1 hx2 => ((heq191 x (zx_X16_depth_22 hx1 hx2 hmfB hgb1 hgb3)).trans (heq181 x (zx_X16_depth_23 hx1 hx2 hmfB hgn1_1 hgb1 hgb3))))
        have hb77 : w191 fB = some (.inl (11, [.ref (fB + 1), .int n20])) := ((heq191 fB (zx_X16_depth_13 hmfB hgb1 hgb3)).trans (heq181 fB (zx_X16_depth_14 hmfB hgn1_1 hgb1 hgb3))).trans hb72
        refine zr_callV (idx := 144) (j := 246) (by decide +kernel) (by decide +kernel) (show zMe 246 = some zq_X12_lead from rfl) rfl rfl (Nat.le_of_ble_eq_true rfl) rfl rfl hb77 (Nat.le_of_ble_eq_true rfl) (Nat.le_of_ble_eq_true rfl) (c_X12_lead (w := w191) fB hb76 (by first | omega | decide | assumption | exact zr1_1 | exact zr1_0 | fail "num")) (by omega) (fun v200 w200 hp200 => ?_)
        obtain ⟨hpw200, hp200_0, rfl⟩ := hp200
        replace hpw200 := hpw200.symm
        subst hpw200
        show zP _ _ _ _ [.ref (fB + 2 + 2 * (zrw PB0 - 1)), .ref (m + 276 + 2 * (g 1 + 1).toNatClampNeg)] _ _ _ _ _
        refine zp_seg (pc' := 204) (lv' := [(11, .ref (m + 276 + 2 * (g 1 + 1 + 1).toNatClampNeg)), (10, .ref (m + 596 + 130 * (g 3).toNatClampNeg)), (9, .int 1), (8, .int 0), (5, .int v95), (7, .ref (m + 276 + 2 * (g 1 + 1).toNatClampNeg)), (6, .ref (m + 276 + 2 * (g 1).toNatClampNeg)), (4, .int m25), (3, .int (g 3)), (2, .int (g 1)), (0, .ref m), (1, .int z9)]) (st' := [.ref m, .ref (fB + 2 + 2 * (zrw PB0 - 1)), .ref (m + 276 + 2 * (g 1 + 1).toNatClampNeg)]) [(203, .aload_n 0)] (by decide +kernel) rfl ?_
        refine zr_get (idx := 709) (k := 43) (v := .ref aD) (by decide +kernel) (by decide +kernel) hb75 (congrArg some hrD) ?_
        have hb78 : zU w191 (m + 276 + 2 * (g 1 + 1).toNatClampNeg) 1000 (zaM (zaM Pu (PA0.1 (v166.toNatClampNeg))) (PB0.1 (zrw PB0 - 1))) := hp181_0.ag (fun x hx1 hx2 => (heq191 x (zx_X16_depth_43 hx1 hx2 hgn1_1 hgb1)))
        have ho207_to := zU.o hb78
        have hb79 : zU w191 aD 1000 Pd := hb60.ag (fun x hx1 hx2 => ((heq191 x (zx_X16_depth_19 hx1 hx2 hmaD hgb1)).trans ((heq181 x (zx_X16_depth_20 hx1 hx2 hmaD hgn1_1 hgb1)).trans ((heq167 x (zx_X16_depth_49 hx1 hx2 hmaD hgn1_2 hgb1)).trans ((heq144 x ⟨(zx_X16_depth_18 hx1 hx2 hmaD hgb1), (zx_X16_depth_49 hx1 hx2 hmaD hgn1_2 hgb1)⟩).trans (heq140 x (zx_X16_depth_19 hx1 hx2 hmaD hgb1)))))))
        refine zr_callS (idx := 106) (j := 267) (by decide +kernel) (by decide +kernel) (by decide) (show zMe 267 = some zq_X16_times from rfl) rfl rfl (Nat.le_of_ble_eq_true rfl) rfl rfl (Nat.le_of_ble_eq_true rfl) (Nat.le_of_ble_eq_true rfl) (c_X16_times (w := w191) (m + 276 + 2 * (g 1 + 1).toNatClampNeg) (fB + 2 + 2 * (zrw PB0 - 1)) aD ho207_to hp200_0 hb79 (by first | omega | decide | assumption | exact zr1_1 | exact zr1_0 | fail "num") (by first | omega | decide | assumption | exact zr1_1 | exact zr1_0 | fail "num") (by first | omega | decide | assumption | exact zr1_1 | exact zr1_0 | fail "num") (by first | omega | decide | assumption | exact zr1_1 | exact zr1_0 | fail "num")) (by omega) (fun v207 w207 hp207 => ?_)
        obtain ⟨hsi207, heq207, hp207_0, rfl⟩ := hp207
        show zP _ _ _ _ [] _ _ _ _ _
        have hq4 := zln_Mle (PB0.1 (zrw PB0 - 1)) Pd
        refine zp_seg (pc' := 212) (lv' := [(11, .ref (m + 276 + 2 * (g 1 + 1 + 1).toNatClampNeg)), (10, .ref (m + 596 + 130 * (g 3).toNatClampNeg)), (9, .int 1), (8, .int 0), (5, .int v95), (7, .ref (m + 276 + 2 * (g 1 + 1).toNatClampNeg)), (6, .ref (m + 276 + 2 * (g 1).toNatClampNeg)), (4, .int m25), (3, .int (g 3)), (2, .int (g 1)), (0, .ref m), (1, .int z9)]) (st' := [.ref (m + 276 + 2 * (g 1).toNatClampNeg)]) [(210, .aload 6)] (by decide +kernel) rfl ?_
        obtain ⟨n80, f81, hu82, hu83, hu84, hu85, hu86⟩ := id hp191_0
        have kn80 := zrng n80
        have hb87 : w207 (m + 276 + 2 * (g 1).toNatClampNeg) = some (.inl (14, [.ref (m + 276 + 2 * (g 1).toNatClampNeg + 1), .int n80])) := (heq207 (m + 276 + 2 * (g 1).toNatClampNeg) (zx_X16_depth_50 hgn1_1 hgb1)).trans hu82
        refine zr_get (idx := 25) (k := 1) (v := .int n80) (by decide +kernel) (by decide +kernel) hb87 rfl ?_
        have hJ238 : ∀ (z0_238 : Int32), (zr1 z0_238) → zP (d + 1) zq_X16_depth 238 [(0, .ref m), (2, .int (g 1)), (3, .int (g 3)), (5, .int v95), (6, .ref (m + 276 + 2 * (g 1).toNatClampNeg)), (7, .ref (m + 276 + 2 * (g 1 + 1).toNatClampNeg))] [.int z0_238] w207 sz 0 0 Post := by
          intro z0_238 hn8
          have kz0_238 := zrng z0_238
          refine zp_seg (pc' := 246) (lv' := [(8, .int z0_238), (0, .ref m), (2, .int (g 1)), (3, .int (g 3)), (5, .int v95), (6, .ref (m + 276 + 2 * (g 1).toNatClampNeg)), (7, .ref (m + 276 + 2 * (g 1 + 1).toNatClampNeg))]) (st' := [.int z0_238, .ref (m + 276 + 2 * (g 1 + 1).toNatClampNeg), .ref (m + 276 + 2 * (g 1 + 1).toNatClampNeg)]) [(238, .istore 8), (240, .aload 7), (242, .aload 7), (244, .iload 8)] (by decide +kernel) rfl ?_
          have ho246_to := zU.o hp207_0
          refine zr_callS (idx := 70) (j := 266) (by decide +kernel) (by decide +kernel) (by decide) (show zMe 266 = some zq_X16_scale from rfl) rfl rfl (Nat.le_of_ble_eq_true rfl) rfl rfl (Nat.le_of_ble_eq_true rfl) (Nat.le_of_ble_eq_true rfl) (c_X16_scale (w := w207) (m + 276 + 2 * (g 1 + 1).toNatClampNeg) (m + 276 + 2 * (g 1 + 1).toNatClampNeg) z0_238 ho246_to hp207_0 (by exact hn8) (by first | omega | decide | assumption | exact zr1_1 | exact zr1_0 | fail "num")) (by omega) (fun v246 w246 hp246 => ?_)
          obtain ⟨hsi246, heq246, hp246_0, rfl⟩ := hp246
          show zP _ _ _ _ [] _ _ _ _ _
          refine zp_seg (pc' := 251) (lv' := [(8, .int z0_238), (0, .ref m), (2, .int (g 1)), (3, .int (g 3)), (5, .int v95), (6, .ref (m + 276 + 2 * (g 1).toNatClampNeg)), (7, .ref (m + 276 + 2 * (g 1 + 1).toNatClampNeg))]) (st' := [.int z0_238]) [(249, .iload 8)] (by decide +kernel) rfl ?_
          have hJ277 : ∀ (z0_277 : Int32), ((z0_277 = 0 ∨ z0_277 = 1)) → zP (d + 1) zq_X16_depth 277 [(0, .ref m), (2, .int (g 1)), (3, .int (g 3)), (5, .int v95), (8, .int z0_238)] [.int z0_277] w246 sz 0 0 Post := by
            intro z0_277 hi277_0
            have kz0_277 := zrng z0_277
            refine zp_seg (pc' := 281) (lv' := [(9, .int z0_277), (0, .ref m), (2, .int (g 1)), (3, .int (g 3)), (5, .int v95), (8, .int z0_238)]) (st' := [.int z0_277]) [(277, .istore 9), (279, .iload 9)] (by decide +kernel) rfl ?_
            have hJ305 : ∀ (z0_305 : Int32), (-200 ≤ z0_305.toInt ∧ z0_305.toInt ≤ 200) → zP (d + 1) zq_X16_depth 305 [(0, .ref m), (2, .int (g 1)), (3, .int (g 3))] [.int z0_305] w246 sz 0 0 Post := by
              intro z0_305 hd5
              have kz0_305 := zrng z0_305
              refine zp_seg (pc' := 309) (lv' := [(5, .int z0_305), (0, .ref m), (2, .int (g 1)), (3, .int (g 3))]) (st' := [.int (g 3), .ref m]) [(305, .istore 5), (307, .aload_n 0), (308, .iload_n 3)] (by decide +kernel) rfl ?_
              have hb88 : w246 m = some (.inl (15, zMo m (zs (zs g 1 (g 1 + 1 + 1 + 1)) 3 (g 3 + 1)) r)) := ((heq246 m (zx_X16_depth_48 hgn1_1 hgb1)).trans (heq207 m (zx_X16_depth_48 hgn1_1 hgb1))).trans hb75
              refine zr_put2 (idx := 90) (k := 3) (fs2 := zMo m (zs g 1 (g 1 + 1 + 1 + 1)) r) (by decide +kernel) (by decide +kernel) hb88 (Nat.le_of_ble_eq_true rfl) rfl rfl rfl ?_
              show zP (d + 1) zq_X16_depth 312 [(5, .int z0_305), (0, .ref m), (2, .int (g 1)), (3, .int (g 3))] [] (zup w246 m (.inl (15, zMo m (zs g 1 (g 1 + 1 + 1 + 1)) r))) sz 0 0 Post
              obtain ⟨w309, ew309⟩ : ∃ wz9, wz9 = zup w246 m (.inl (15, zMo m (zs g 1 (g 1 + 1 + 1 + 1)) r)) := ⟨_, rfl⟩
              have hsi309 : zSI w246 w309 := by rw [ew309]; exact zSI.setG hb88 _ _
              have heq309 : ∀ x, x ≠ m → w309 x = w246 x := fun x hx => by rw [ew309]; exact zup_n hx
              have hc309 : w309 m = some (.inl (15, zMo m (zs g 1 (g 1 + 1 + 1 + 1)) r)) := by rw [ew309]; exact zup_s
              rw [← ew309]
              clear ew309
              refine zp_seg (pc' := 314) (lv' := [(5, .int z0_305), (0, .ref m), (2, .int (g 1)), (3, .int (g 3))]) (st' := [.int (g 1), .ref m]) [(312, .aload_n 0), (313, .iload_n 2)] (by decide +kernel) rfl ?_
              refine zr_put2 (idx := 21) (k := 1) (fs2 := zMo m g r) (by decide +kernel) (by decide +kernel) hc309 (Nat.le_of_ble_eq_true rfl) rfl rfl rfl ?_
              show zP (d + 1) zq_X16_depth 317 [(5, .int z0_305), (0, .ref m), (2, .int (g 1)), (3, .int (g 3))] [] (zup w309 m (.inl (15, zMo m g r))) sz 0 0 Post
              obtain ⟨w314, ew314⟩ : ∃ wz9, wz9 = zup w309 m (.inl (15, zMo m g r)) := ⟨_, rfl⟩
              have hsi314 : zSI w309 w314 := by rw [ew314]; exact zSI.setG hc309 _ _
              have heq314 : ∀ x, x ≠ m → w314 x = w309 x := fun x hx => by rw [ew314]; exact zup_n hx
              have hc314 : w314 m = some (.inl (15, zMo m g r)) := by rw [ew314]; exact zup_s
              rw [← ew314]
              clear ew314
              refine zp_seg (pc' := 319) (lv' := [(5, .int z0_305), (0, .ref m), (2, .int (g 1)), (3, .int (g 3))]) (st' := [.int z0_305]) [(317, .iload 5)] (by decide +kernel) rfl ?_
              have hmend : w314 m = w m := by rw [hc314, hm]
              have hoffend : ∀ x, (x < m + 276 + 2 * (g 1).toNatClampNeg ∨ m + 276 + 2 * (g 1).toNatClampNeg + (320 - 2 * (g 1).toNatClampNeg) ≤ x) ∧ (x < m + 596 + 130 * (g 3).toNatClampNeg ∨ m + 596 + 130 * (g 3).toNatClampNeg + (5720 - 130 * (g 3).toNatClampNeg) ≤ x) → w314 x = w x := fun x hx => by
                  by_cases ex : x = m
                  · rw [ex]; exact hmend
                  · exact ((heq314 x ex).trans ((heq309 x ex).trans ((heq246 x (zx_X16_depth_17 hx.1 hgn1_1 hgb1)).trans ((heq207 x (zx_X16_depth_17 hx.1 hgn1_1 hgb1)).trans ((heq191 x (zx_X16_depth_16 hx.1 hgb1)).trans ((heq181 x (zx_X16_depth_17 hx.1 hgn1_1 hgb1)).trans ((heq167 x (zx_X16_depth_52 hx.1 hgn1_2 hgb1)).trans ((heq144 x ⟨(zx_X16_depth_15 ex), (zx_X16_depth_52 hx.1 hgn1_2 hgb1)⟩).trans ((heq140 x (zx_X16_depth_16 hx.1 hgb1)).trans ((heq121 x (zx_X16_depth_51 hx.2 hgb3)).trans ((heq107 x ⟨(zx_X16_depth_15 ex), (zx_X16_depth_51 hx.2 hgb3)⟩).trans ((heq60 x (zx_X16_depth_16 hx.1 hgb1)).trans ((heq42 x ⟨(zx_X16_depth_15 ex), (zx_X16_depth_17 hx.1 hgn1_1 hgb1)⟩).trans (heq36 x ⟨(zx_X16_depth_15 ex), (zx_X16_depth_16 hx.1 hgb1)⟩))))))))))))))
              refine zr_retI (by decide +kernel) rfl ?_
              rw [← hPost]; exact ⟨rfl, _, rfl, (((((((((((((hsi36.tr hsi42).tr hsi60).tr hsi107).tr hsi121).tr hsi140).tr hsi144).tr hsi167).tr hsi181).tr hsi191).tr hsi207).tr hsi246).tr hsi309).tr hsi314), hoffend, _, rfl, (by first | omega | decide | assumption)⟩
            refine zp_if (i := .ifCond .eq 22) (c := z0_277 = 0) (t := 303) (e := 284) (lv' := [(9, .int z0_277), (0, .ref m), (2, .int (g 1)), (3, .int (g 3)), (5, .int v95), (8, .int z0_238)]) (st' := []) (by decide +kernel) rfl (fun cc281 => ?_) (fun cc281 => ?_)
            ·
              have f89 := zeqI cc281
              rw [show (0 : Int32).toInt = 0 from by decide] at f89
              refine zp_seg (pc' := 305) (lv' := [(9, .int z0_277), (0, .ref m), (2, .int (g 1)), (3, .int (g 3)), (5, .int v95), (8, .int z0_238)]) (st' := [.int v95]) [(303, .iload 5)] (by decide +kernel) rfl ?_
              exact (hJ305 v95 (by
                    omega)).more (zfa1 rfl (zfa1 rfl (zfa1 rfl (zfa0))))
            ·
              have f90 := zneI cc281
              rw [show (0 : Int32).toInt = 0 from by decide] at f90
              refine zp_seg (pc' := 288) (lv' := [(9, .int z0_277), (0, .ref m), (2, .int (g 1)), (3, .int (g 3)), (5, .int v95), (8, .int z0_238)]) (st' := [.int 12, .int z0_238]) [(284, .iload 8), (286, .bipush 12)] (by decide +kernel) rfl ?_
              refine zp_if (i := .if_icmp .gt 15) (c := 12 < z0_238) (t := 303) (e := 291) (lv' := [(9, .int z0_277), (0, .ref m), (2, .int (g 1)), (3, .int (g 3)), (5, .int v95), (8, .int z0_238)]) (st' := []) (by decide +kernel) rfl (fun cc288 => ?_) (fun cc288 => ?_)
              ·
                have f92 := zltI cc288
                rw [show (12 : Int32).toInt = 12 from by decide] at f92
                refine zp_seg (pc' := 305) (lv' := [(9, .int z0_277), (0, .ref m), (2, .int (g 1)), (3, .int (g 3)), (5, .int v95), (8, .int z0_238)]) (st' := [.int v95]) [(303, .iload 5)] (by decide +kernel) rfl ?_
                exact (hJ305 v95 (by
                      omega)).more (zfa1 rfl (zfa1 rfl (zfa1 rfl (zfa0))))
              ·
                have f94 := znltI cc288
                rw [show (12 : Int32).toInt = 12 from by decide] at f94
                refine zp_seg (pc' := 295) (lv' := [(9, .int z0_277), (0, .ref m), (2, .int (g 1)), (3, .int (g 3)), (5, .int v95), (8, .int z0_238)]) (st' := [.int v95, .int z0_238]) [(291, .iload 8), (293, .iload 5)] (by decide +kernel) rfl ?_
                refine zp_if (i := .if_icmp .le 8) (c := z0_238 ≤ v95) (t := 303) (e := 298) (lv' := [(9, .int z0_277), (0, .ref m), (2, .int (g 1)), (3, .int (g 3)), (5, .int v95), (8, .int z0_238)]) (st' := []) (by decide +kernel) rfl (fun cc295 => ?_) (fun cc295 => ?_)
                ·
                  have f95 := zleI cc295
                  refine zp_seg (pc' := 305) (lv' := [(9, .int z0_277), (0, .ref m), (2, .int (g 1)), (3, .int (g 3)), (5, .int v95), (8, .int z0_238)]) (st' := [.int v95]) [(303, .iload 5)] (by decide +kernel) rfl ?_
                  exact (hJ305 v95 (by
                        omega)).more (zfa1 rfl (zfa1 rfl (zfa1 rfl (zfa0))))
                ·
                  have f96 := znleI cc295
                  refine zp_seg (pc' := 305) (lv' := [(9, .int z0_277), (0, .ref m), (2, .int (g 1)), (3, .int (g 3)), (5, .int v95), (8, .int z0_238)]) (st' := [.int z0_238]) [(298, .iload 8), (300, .goto 5)] (by decide +kernel) rfl ?_
                  exact (hJ305 z0_238 (by
                        omega)).more (zfa1 rfl (zfa1 rfl (zfa1 rfl (zfa0))))
          refine zp_if (i := .ifCond .ne 19) (c := ¬ z0_238 = 0) (t := 270) (e := 254) (lv' := [(8, .int z0_238), (0, .ref m), (2, .int (g 1)), (3, .int (g 3)), (5, .int v95), (6, .ref (m + 276 + 2 * (g 1).toNatClampNeg)), (7, .ref (m + 276 + 2 * (g 1 + 1).toNatClampNeg))]) (st' := []) (by decide +kernel) rfl (fun cc251 => ?_) (fun cc251 => ?_)
          ·
            have f97 := zneI cc251
            rw [show (0 : Int32).toInt = 0 from by decide] at f97
            refine zp_seg (pc' := 274) (lv' := [(8, .int z0_238), (0, .ref m), (2, .int (g 1)), (3, .int (g 3)), (5, .int v95), (6, .ref (m + 276 + 2 * (g 1).toNatClampNeg)), (7, .ref (m + 276 + 2 * (g 1 + 1).toNatClampNeg))]) (st' := [.ref (m + 276 + 2 * (g 1 + 1).toNatClampNeg), .ref (m + 276 + 2 * (g 1).toNatClampNeg)]) [(270, .aload 6), (272, .aload 7)] (by decide +kernel) rfl ?_
            have hb98 : zU w246 (m + 276 + 2 * (g 1).toNatClampNeg) 1000 (zaS (zaM ((zsh (zf 2147483646) PB0).1 (v135.toNatClampNeg)) Pd) (zaM (zaM Pu (PA0.1 (v166.toNatClampNeg))) (PB0.1 (zrw PB0 - 1)))) := hp191_0.ag (fun x hx1 hx2 => ((heq246 x (zx_X16_depth_7 hx1 hx2 hgn1_1 hgb1)).trans (heq207 x (zx_X16_depth_7 hx1 hx2 hgn1_1 hgb1))))
            refine zr_callS (idx := 716) (j := 383) (by decide +kernel) (by decide +kernel) (by decide) (show zMe 383 = some zq_X16_areSame from rfl) rfl rfl (Nat.le_of_ble_eq_true rfl) rfl rfl (Nat.le_of_ble_eq_true rfl) (Nat.le_of_ble_eq_true rfl) (c_X16_areSame (w := w246) (m + 276 + 2 * (g 1).toNatClampNeg) (m + 276 + 2 * (g 1 + 1).toNatClampNeg) hb98 hp246_0) (by omega) (fun v274 w274 hp274 => ?_)
            obtain ⟨hpw274, r274, rfl, hrb274, hr274⟩ := hp274
            replace hpw274 := hpw274.symm
            subst hpw274
            have kr274 := zrng r274
            show zP _ _ _ _ [.int r274] _ _ _ _ _
            exact (hJ277 r274 (by first | assumption | omega | decide)).more (zfa1 rfl (zfa1 rfl (zfa1 rfl (zfa1 rfl (zfa1 rfl (zfa0))))))
          ·
            replace cc251 := Classical.not_not.mp cc251
            have f99 := zeqI cc251
            rw [show (0 : Int32).toInt = 0 from by decide] at f99
            refine zp_seg (pc' := 256) (lv' := [(8, .int z0_238), (0, .ref m), (2, .int (g 1)), (3, .int (g 3)), (5, .int v95), (6, .ref (m + 276 + 2 * (g 1).toNatClampNeg)), (7, .ref (m + 276 + 2 * (g 1 + 1).toNatClampNeg))]) (st' := [.ref (m + 276 + 2 * (g 1).toNatClampNeg)]) [(254, .aload 6)] (by decide +kernel) rfl ?_
            have hb100 : w246 (m + 276 + 2 * (g 1).toNatClampNeg) = some (.inl (14, [.ref (m + 276 + 2 * (g 1).toNatClampNeg + 1), .int n80])) := (heq246 (m + 276 + 2 * (g 1).toNatClampNeg) (zx_X16_depth_50 hgn1_1 hgb1)).trans hb87
            refine zr_get (idx := 25) (k := 1) (v := .int n80) (by decide +kernel) (by decide +kernel) hb100 rfl ?_
            refine zp_if (i := .ifCond .ne 7) (c := ¬ n80 = 0) (t := 266) (e := 262) (lv' := [(8, .int z0_238), (0, .ref m), (2, .int (g 1)), (3, .int (g 3)), (5, .int v95), (6, .ref (m + 276 + 2 * (g 1).toNatClampNeg)), (7, .ref (m + 276 + 2 * (g 1 + 1).toNatClampNeg))]) (st' := []) (by decide +kernel) rfl (fun cc259 => ?_) (fun cc259 => ?_)
            ·
              have f101 := zneI cc259
              rw [show (0 : Int32).toInt = 0 from by decide] at f101
              refine zp_seg (pc' := 277) (lv' := [(8, .int z0_238), (0, .ref m), (2, .int (g 1)), (3, .int (g 3)), (5, .int v95), (6, .ref (m + 276 + 2 * (g 1).toNatClampNeg)), (7, .ref (m + 276 + 2 * (g 1 + 1).toNatClampNeg))]) (st' := [.int 0]) [(266, .iconst 0), (267, .goto 10)] (by decide +kernel) rfl ?_
              have hl102 : (0 : Int32).toInt = 0 := by decide
              exact (hJ277 0 (by first | assumption | omega | decide)).more (zfa1 rfl (zfa1 rfl (zfa1 rfl (zfa1 rfl (zfa1 rfl (zfa0))))))
            ·
              replace cc259 := Classical.not_not.mp cc259
              have f103 := zeqI cc259
              rw [show (0 : Int32).toInt = 0 from by decide] at f103
              refine zp_seg (pc' := 277) (lv' := [(8, .int z0_238), (0, .ref m), (2, .int (g 1)), (3, .int (g 3)), (5, .int v95), (6, .ref (m + 276 + 2 * (g 1).toNatClampNeg)), (7, .ref (m + 276 + 2 * (g 1 + 1).toNatClampNeg))]) (st' := [.int 1]) [(262, .iconst 1), (263, .goto 14)] (by decide +kernel) rfl ?_
              have hl104 : (1 : Int32).toInt = 1 := by decide
              exact (hJ277 1 (by first | assumption | omega | decide)).more (zfa1 rfl (zfa1 rfl (zfa1 rfl (zfa1 rfl (zfa1 rfl (zfa0))))))
        refine zp_if (i := .ifCond .ne 7) (c := ¬ n80 = 0) (t := 222) (e := 218) (lv' := [(11, .ref (m + 276 + 2 * (g 1 + 1 + 1).toNatClampNeg)), (10, .ref (m + 596 + 130 * (g 3).toNatClampNeg)), (9, .int 1), (8, .int 0), (5, .int v95), (7, .ref (m + 276 + 2 * (g 1 + 1).toNatClampNeg)), (6, .ref (m + 276 + 2 * (g 1).toNatClampNeg)), (4, .int m25), (3, .int (g 3)), (2, .int (g 1)), (0, .ref m), (1, .int z9)]) (st' := []) (by decide +kernel) rfl (fun cc215 => ?_) (fun cc215 => ?_)
        ·
          have f105 := zneI cc215
          rw [show (0 : Int32).toInt = 0 from by decide] at f105
          refine zp_seg (pc' := 224) (lv' := [(11, .ref (m + 276 + 2 * (g 1 + 1 + 1).toNatClampNeg)), (10, .ref (m + 596 + 130 * (g 3).toNatClampNeg)), (9, .int 1), (8, .int 0), (5, .int v95), (7, .ref (m + 276 + 2 * (g 1 + 1).toNatClampNeg)), (6, .ref (m + 276 + 2 * (g 1).toNatClampNeg)), (4, .int m25), (3, .int (g 3)), (2, .int (g 1)), (0, .ref m), (1, .int z9)]) (st' := [.ref (m + 276 + 2 * (g 1).toNatClampNeg)]) [(222, .aload 6)] (by decide +kernel) rfl ?_
          have hb106 : zU w207 (m + 276 + 2 * (g 1).toNatClampNeg) 1000 (zaS (zaM ((zsh (zf 2147483646) PB0).1 (v135.toNatClampNeg)) Pd) (zaM (zaM Pu (PA0.1 (v166.toNatClampNeg))) (PB0.1 (zrw PB0 - 1)))) := hp191_0.ag (fun x hx1 hx2 => (heq207 x (zx_X16_depth_7 hx1 hx2 hgn1_1 hgb1)))
          refine zr_callV (idx := 66) (j := 253) (by decide +kernel) (by decide +kernel) (show zMe 253 = some zq_X15_head from rfl) rfl rfl (Nat.le_of_ble_eq_true rfl) rfl rfl hb87 (Nat.le_of_ble_eq_true rfl) (Nat.le_of_ble_eq_true rfl) (c_X15_head (w := w207) (m + 276 + 2 * (g 1).toNatClampNeg) hb106) (by omega) (fun v224 w224 hp224 => ?_)
          obtain ⟨hpw224, r224, rfl, hr224⟩ := hp224
          replace hpw224 := hpw224.symm
          subst hpw224
          have kr224 := zrng r224
          show zP _ _ _ _ [.int r224] _ _ _ _ _
          refine zp_seg (pc' := 229) (lv' := [(11, .ref (m + 276 + 2 * (g 1 + 1 + 1).toNatClampNeg)), (10, .ref (m + 596 + 130 * (g 3).toNatClampNeg)), (9, .int 1), (8, .int 0), (5, .int v95), (7, .ref (m + 276 + 2 * (g 1 + 1).toNatClampNeg)), (6, .ref (m + 276 + 2 * (g 1).toNatClampNeg)), (4, .int m25), (3, .int (g 3)), (2, .int (g 1)), (0, .ref m), (1, .int z9)]) (st' := [.ref (m + 276 + 2 * (g 1 + 1).toNatClampNeg), .int r224]) [(227, .aload 7)] (by decide +kernel) rfl ?_
          obtain ⟨n107, f108, hu109, hu110, hu111, hu112, hu113⟩ := id hp207_0
          have kn107 := zrng n107
          refine zr_callV (idx := 66) (j := 253) (by decide +kernel) (by decide +kernel) (show zMe 253 = some zq_X15_head from rfl) rfl rfl (Nat.le_of_ble_eq_true rfl) rfl rfl hu109 (Nat.le_of_ble_eq_true rfl) (Nat.le_of_ble_eq_true rfl) (c_X15_head (w := w207) (m + 276 + 2 * (g 1 + 1).toNatClampNeg) hp207_0) (by omega) (fun v229 w229 hp229 => ?_)
          obtain ⟨hpw229, r229, rfl, hr229⟩ := hp229
          replace hpw229 := hpw229.symm
          subst hpw229
          have kr229 := zrng r229
          show zP _ _ _ _ [.int r229, .int r224] _ _ _ _ _
          refine zr_callS (idx := 13) (j := 259) (by decide +kernel) (by decide +kernel) (by decide) (show zMe 259 = some zq_X16_inv from rfl) rfl rfl (Nat.le_of_ble_eq_true rfl) rfl rfl (Nat.le_of_ble_eq_true rfl) (Nat.le_of_ble_eq_true rfl) (c_X16_inv (w := w207) r229 (by exact hr229.1)) (by omega) (fun v232 w232 hp232 => ?_)
          obtain ⟨hpw232, r232, rfl, hr232⟩ := hp232
          replace hpw232 := hpw232.symm
          subst hpw232
          have kr232 := zrng r232
          show zP _ _ _ _ [.int r232, .int r224] _ _ _ _ _
          refine zr_callS (idx := 56) (j := 257) (by decide +kernel) (by decide +kernel) (by decide) (show zMe 257 = some zq_X16_mul from rfl) rfl rfl (Nat.le_of_ble_eq_true rfl) rfl rfl (Nat.le_of_ble_eq_true rfl) (Nat.le_of_ble_eq_true rfl) (c_X16_mul (w := w207) r224 r232 (by exact hr224.1) (by exact hr232.1)) (by omega) (fun v235 w235 hp235 => ?_)
          obtain ⟨hpw235, r235, rfl, hr235⟩ := hp235
          replace hpw235 := hpw235.symm
          subst hpw235
          have kr235 := zrng r235
          show zP _ _ _ _ [.int r235] _ _ _ _ _
          exact (hJ238 r235 (by
                first | exact zr1_0 | exact hr235.1)).more (zfa1 rfl (zfa1 rfl (zfa1 rfl (zfa1 rfl (zfa1 rfl (zfa1 rfl (zfa0)))))))
        ·
          replace cc215 := Classical.not_not.mp cc215
          have f114 := zeqI cc215
          rw [show (0 : Int32).toInt = 0 from by decide] at f114
          refine zp_seg (pc' := 238) (lv' := [(11, .ref (m + 276 + 2 * (g 1 + 1 + 1).toNatClampNeg)), (10, .ref (m + 596 + 130 * (g 3).toNatClampNeg)), (9, .int 1), (8, .int 0), (5, .int v95), (7, .ref (m + 276 + 2 * (g 1 + 1).toNatClampNeg)), (6, .ref (m + 276 + 2 * (g 1).toNatClampNeg)), (4, .int m25), (3, .int (g 3)), (2, .int (g 1)), (0, .ref m), (1, .int z9)]) (st' := [.int 0]) [(218, .iconst 0), (219, .goto 19)] (by decide +kernel) rfl ?_
          have hl115 : (0 : Int32).toInt = 0 := by decide
          exact (hJ238 0 (by
                first | exact zr1_0 | exact hr235.1)).more (zfa1 rfl (zfa1 rfl (zfa1 rfl (zfa1 rfl (zfa1 rfl (zfa1 rfl (zfa0)))))))
