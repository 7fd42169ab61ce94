theorem zx_X16_part_0 {G3_0 m x : Nat} (h0 : m + 596 + 130 * G3_0 ≤ x) (h1 : x < m + 596 + 130 * G3_0 + 130) (h2 : G3_0 + 4 ≤ 44) : x < m ∨ m + 1 ≤ x := by omega
theorem zx_X16_part_1 {G3_0 G3_1 m x : Nat} (h0 : m + 596 + 130 * G3_0 ≤ x) (h1 : x < m + 596 + 130 * G3_0 + 130) (h2 : G3_1 = G3_0 + 1) (h3 : G3_0 + 4 ≤ 44) : x < m + 596 + 130 * G3_1 ∨ m + 596 + 130 * G3_1 + 130 ≤ x := by omega
theorem zx_X16_part_2 {G3_0 G3_2 m x : Nat} (h0 : m + 596 + 130 * G3_0 ≤ x) (h1 : x < m + 596 + 130 * G3_0 + 130) (h2 : G3_2 = G3_0 + 2) (h3 : G3_0 + 4 ≤ 44) : x < m + 596 + 130 * G3_2 ∨ m + 596 + 130 * G3_2 + 130 ≤ x := by omega
theorem zx_X16_part_3 {G1_0 G3_0 m x : Nat} (h0 : m + 596 + 130 * G3_0 ≤ x) (h1 : x < m + 596 + 130 * G3_0 + 130) (h2 : G1_0 + 5 ≤ 160) (h3 : G3_0 + 4 ≤ 44) : x < m + 276 + 2 * G1_0 ∨ m + 276 + 2 * G1_0 + 2 ≤ x := by omega
theorem zx_X16_part_4 {G1_0 G1_1 G3_0 m x : Nat} (h0 : m + 596 + 130 * G3_0 ≤ x) (h1 : x < m + 596 + 130 * G3_0 + 130) (h2 : G1_1 = G1_0 + 1) (h3 : G1_0 + 5 ≤ 160) (h4 : G3_0 + 4 ≤ 44) : x < m + 276 + 2 * G1_1 ∨ m + 276 + 2 * G1_1 + 2 ≤ x := by omega
theorem zx_X16_part_5 {G3_0 m : Nat} (h0 : G3_0 + 4 ≤ 44) : m < m + 596 + 130 * G3_0 ∨ m + 596 + 130 * G3_0 + 130 ≤ m := by omega
theorem zx_X16_part_6 {G3_0 G3_1 m x : Nat} (h0 : m + 596 + 130 * G3_1 ≤ x) (h1 : x < m + 596 + 130 * G3_1 + 130) (h2 : G3_1 = G3_0 + 1) (h3 : G3_0 + 4 ≤ 44) : x < m ∨ m + 1 ≤ x := by omega
theorem zx_X16_part_7 {G3_0 G3_1 G3_2 m x : Nat} (h0 : m + 596 + 130 * G3_1 ≤ x) (h1 : x < m + 596 + 130 * G3_1 + 130) (h2 : G3_1 = G3_0 + 1) (h3 : G3_2 = G3_0 + 2) (h4 : G3_0 + 4 ≤ 44) : x < m + 596 + 130 * G3_2 ∨ m + 596 + 130 * G3_2 + 130 ≤ x := by omega
theorem zx_X16_part_8 {G1_0 G3_0 G3_1 m x : Nat} (h0 : m + 596 + 130 * G3_1 ≤ x) (h1 : x < m + 596 + 130 * G3_1 + 130) (h2 : G3_1 = G3_0 + 1) (h3 : G1_0 + 5 ≤ 160) (h4 : G3_0 + 4 ≤ 44) : x < m + 276 + 2 * G1_0 ∨ m + 276 + 2 * G1_0 + 2 ≤ x := by omega
theorem zx_X16_part_9 {G1_0 G1_1 G3_0 G3_1 m x : Nat} (h0 : m + 596 + 130 * G3_1 ≤ x) (h1 : x < m + 596 + 130 * G3_1 + 130) (h2 : G1_1 = G1_0 + 1) (h3 : G3_1 = G3_0 + 1) (h4 : G1_0 + 5 ≤ 160) (h5 : G3_0 + 4 ≤ 44) : x < m + 276 + 2 * G1_1 ∨ m + 276 + 2 * G1_1 + 2 ≤ x := by omega
theorem zx_X16_part_10 {G3_0 G3_1 m x : Nat} (h0 : m + 596 + 130 * G3_1 ≤ x) (h1 : x < m + 596 + 130 * G3_1 + 130) (h2 : G3_1 = G3_0 + 1) (h3 : G3_0 + 4 ≤ 44) : x < m + 596 + 130 * G3_0 ∨ m + 596 + 130 * G3_0 + 130 ≤ x := by omega
theorem zx_X16_part_11 {G3_0 G3_1 m : Nat} (h0 : G3_1 = G3_0 + 1) (h1 : G3_0 + 4 ≤ 44) : m < m + 596 + 130 * G3_1 ∨ m + 596 + 130 * G3_1 + 130 ≤ m := by omega
theorem zx_X16_part_12 {G1_0 m x : Nat} (h0 : m + 276 + 2 * G1_0 ≤ x) (h1 : x < m + 276 + 2 * G1_0 + 2) (h2 : G1_0 + 5 ≤ 160) : x < m ∨ m + 1 ≤ x := by omega
theorem zx_X16_part_13 {G1_0 G1_1 m x : Nat} (h0 : m + 276 + 2 * G1_0 ≤ x) (h1 : x < m + 276 + 2 * G1_0 + 2) (h2 : G1_1 = G1_0 + 1) (h3 : G1_0 + 5 ≤ 160) : x < m + 276 + 2 * G1_1 ∨ m + 276 + 2 * G1_1 + 2 ≤ x := by omega
theorem zx_X16_part_14 {G1_0 G3_0 m x : Nat} (h0 : m + 276 + 2 * G1_0 ≤ x) (h1 : x < m + 276 + 2 * G1_0 + 2) (h2 : G1_0 + 5 ≤ 160) (h3 : G3_0 + 4 ≤ 44) : x < m + 596 + 130 * G3_0 ∨ m + 596 + 130 * G3_0 + 130 ≤ x := by omega
theorem zx_X16_part_15 {G1_0 G3_0 G3_1 m x : Nat} (h0 : m + 276 + 2 * G1_0 ≤ x) (h1 : x < m + 276 + 2 * G1_0 + 2) (h2 : G3_1 = G3_0 + 1) (h3 : G1_0 + 5 ≤ 160) (h4 : G3_0 + 4 ≤ 44) : x < m + 596 + 130 * G3_1 ∨ m + 596 + 130 * G3_1 + 130 ≤ x := by omega
theorem zx_X16_part_16 {G1_0 m : Nat} (h0 : G1_0 + 5 ≤ 160) : m < m + 276 + 2 * G1_0 ∨ m + 276 + 2 * G1_0 + 2 ≤ m := by omega
theorem zx_X16_part_17 {G1_0 G1_2 m : Nat} (h0 : G1_2 = G1_0 + 2) (h1 : G1_0 + 5 ≤ 160) : m < m + 276 + 2 * G1_2 ∨ m + 276 + 2 * G1_2 + (320 - 2 * G1_2) ≤ m := by omega
theorem zx_X16_part_18 {G3_0 G3_2 m x : Nat} (h0 : m + 596 + 130 * G3_2 ≤ x) (h1 : x < m + 596 + 130 * G3_2 + 130) (h2 : G3_2 = G3_0 + 2) (h3 : G3_0 + 4 ≤ 44) : x < m ∨ m + 1 ≤ x := by omega
theorem zx_X16_part_19 {G1_0 G3_0 G3_2 m x : Nat} (h0 : m + 596 + 130 * G3_2 ≤ x) (h1 : x < m + 596 + 130 * G3_2 + 130) (h2 : G3_2 = G3_0 + 2) (h3 : G1_0 + 5 ≤ 160) (h4 : G3_0 + 4 ≤ 44) : x < m + 276 + 2 * G1_0 ∨ m + 276 + 2 * G1_0 + 2 ≤ x := by omega
theorem zx_X16_part_20 {G1_0 G1_1 G3_0 G3_2 m x : Nat} (h0 : m + 596 + 130 * G3_2 ≤ x) (h1 : x < m + 596 + 130 * G3_2 + 130) (h2 : G1_1 = G1_0 + 1) (h3 : G3_2 = G3_0 + 2) (h4 : G1_0 + 5 ≤ 160) (h5 : G3_0 + 4 ≤ 44) : x < m + 276 + 2 * G1_1 ∨ m + 276 + 2 * G1_1 + 2 ≤ x := by omega
theorem zx_X16_part_21 {G3_0 G3_2 m x : Nat} (h0 : m + 596 + 130 * G3_2 ≤ x) (h1 : x < m + 596 + 130 * G3_2 + 130) (h2 : G3_2 = G3_0 + 2) (h3 : G3_0 + 4 ≤ 44) : x < m + 596 + 130 * G3_0 ∨ m + 596 + 130 * G3_0 + 130 ≤ x := by omega
theorem zx_X16_part_22 {G3_0 G3_1 G3_2 m x : Nat} (h0 : m + 596 + 130 * G3_2 ≤ x) (h1 : x < m + 596 + 130 * G3_2 + 130) (h2 : G3_1 = G3_0 + 1) (h3 : G3_2 = G3_0 + 2) (h4 : G3_0 + 4 ≤ 44) : x < m + 596 + 130 * G3_1 ∨ m + 596 + 130 * G3_1 + 130 ≤ x := by omega
theorem zx_X16_part_23 {G1_0 G1_2 G3_0 G3_2 m x : Nat} (h0 : m + 596 + 130 * G3_2 ≤ x) (h1 : x < m + 596 + 130 * G3_2 + 130) (h2 : G1_2 = G1_0 + 2) (h3 : G3_2 = G3_0 + 2) (h4 : G1_0 + 5 ≤ 160) (h5 : G3_0 + 4 ≤ 44) : x < m + 276 + 2 * G1_2 ∨ m + 276 + 2 * G1_2 + (320 - 2 * G1_2) ≤ x := by omega
theorem zx_X16_part_24 {G3_0 m q x : Nat} (h0 : q ≤ x) (h1 : x < q + 130) (h2 : m + 596 ≤ q ∧ q + 130 ≤ m + 596 + 130 * G3_0) (h3 : G3_0 + 4 ≤ 44) : x < m ∨ m + 1 ≤ x := by omega
theorem zx_X16_part_25 {G3_0 m q x : Nat} (h0 : q ≤ x) (h1 : x < q + 130) (h2 : m + 596 ≤ q ∧ q + 130 ≤ m + 596 + 130 * G3_0) (h3 : G3_0 + 4 ≤ 44) : x < m + 596 + 130 * G3_0 ∨ m + 596 + 130 * G3_0 + 130 ≤ x := by omega
theorem zx_X16_part_26 {G3_0 G3_1 m q x : Nat} (h0 : q ≤ x) (h1 : x < q + 130) (h2 : m + 596 ≤ q ∧ q + 130 ≤ m + 596 + 130 * G3_0) (h3 : G3_1 = G3_0 + 1) (h4 : G3_0 + 4 ≤ 44) : x < m + 596 + 130 * G3_1 ∨ m + 596 + 130 * G3_1 + 130 ≤ x := by omega
theorem zx_X16_part_27 {G3_0 G3_2 m q x : Nat} (h0 : q ≤ x) (h1 : x < q + 130) (h2 : m + 596 ≤ q ∧ q + 130 ≤ m + 596 + 130 * G3_0) (h3 : G3_2 = G3_0 + 2) (h4 : G3_0 + 4 ≤ 44) : x < m + 596 + 130 * G3_2 ∨ m + 596 + 130 * G3_2 + 130 ≤ x := by omega
theorem zx_X16_part_28 {G1_0 G3_0 m q x : Nat} (h0 : q ≤ x) (h1 : x < q + 130) (h2 : m + 596 ≤ q ∧ q + 130 ≤ m + 596 + 130 * G3_0) (h3 : G1_0 + 5 ≤ 160) (h4 : G3_0 + 4 ≤ 44) : x < m + 276 + 2 * G1_0 ∨ m + 276 + 2 * G1_0 + 2 ≤ x := by omega
theorem zx_X16_part_29 {G1_0 G1_1 G3_0 m q x : Nat} (h0 : q ≤ x) (h1 : x < q + 130) (h2 : m + 596 ≤ q ∧ q + 130 ≤ m + 596 + 130 * G3_0) (h3 : G1_1 = G1_0 + 1) (h4 : G1_0 + 5 ≤ 160) (h5 : G3_0 + 4 ≤ 44) : x < m + 276 + 2 * G1_1 ∨ m + 276 + 2 * G1_1 + 2 ≤ x := by omega
theorem zx_X16_part_30 {G1_0 G1_2 G3_0 m q x : Nat} (h0 : q ≤ x) (h1 : x < q + 130) (h2 : m + 596 ≤ q ∧ q + 130 ≤ m + 596 + 130 * G3_0) (h3 : G1_2 = G1_0 + 2) (h4 : G1_0 + 5 ≤ 160) (h5 : G3_0 + 4 ≤ 44) : x < m + 276 + 2 * G1_2 ∨ m + 276 + 2 * G1_2 + (320 - 2 * G1_2) ≤ x := by omega
theorem zx_X16_part_31 {G3_0 G3_2 m : Nat} (h0 : G3_2 = G3_0 + 2) (h1 : G3_0 + 4 ≤ 44) : m < m + 596 + 130 * G3_2 ∨ m + 596 + 130 * G3_2 + 130 ≤ m := by omega
theorem zx_X16_part_32 {G3_0 G3_3 m : Nat} (h0 : G3_3 = G3_0 + 3) (h1 : G3_0 + 4 ≤ 44) : m < m + 596 + 130 * G3_3 ∨ m + 596 + 130 * G3_3 + (5720 - 130 * G3_3) ≤ m := by omega
theorem zx_X16_part_33 {G1_0 G1_2 G3_0 m x : Nat} (h0 : m + 596 + 130 * G3_0 ≤ x) (h1 : x < m + 596 + 130 * G3_0 + 130) (h2 : G1_2 = G1_0 + 2) (h3 : G1_0 + 5 ≤ 160) (h4 : G3_0 + 4 ≤ 44) : x < m + 276 + 2 * G1_2 ∨ m + 276 + 2 * G1_2 + (320 - 2 * G1_2) ≤ x := by omega
theorem zx_X16_part_34 {G3_0 G3_3 m x : Nat} (h0 : m + 596 + 130 * G3_0 ≤ x) (h1 : x < m + 596 + 130 * G3_0 + 130) (h2 : G3_3 = G3_0 + 3) (h3 : G3_0 + 4 ≤ 44) : x < m + 596 + 130 * G3_3 ∨ m + 596 + 130 * G3_3 + (5720 - 130 * G3_3) ≤ x := by omega
theorem zx_X16_part_35 {G3_0 G3_3 m q x : Nat} (h0 : q ≤ x) (h1 : x < q + 130) (h2 : m + 596 ≤ q ∧ q + 130 ≤ m + 596 + 130 * G3_0) (h3 : G3_3 = G3_0 + 3) (h4 : G3_0 + 4 ≤ 44) : x < m + 596 + 130 * G3_3 ∨ m + 596 + 130 * G3_3 + (5720 - 130 * G3_3) ≤ x := by omega
theorem zx_X16_part_36 {G3_0 m q up x : Nat} (h0 : q ≤ x) (h1 : x < q + 130) (h2 : up + 130 ≤ q ∨ q + 130 ≤ up) (h3 : m + 596 ≤ up ∧ up + 130 ≤ m + 596 + 130 * G3_0) (h4 : m + 596 ≤ q ∧ q + 130 ≤ m + 596 + 130 * G3_0) (h5 : G3_0 + 4 ≤ 44) : x < up ∨ up + 130 ≤ x := by omega
theorem zx_X16_part_37 {G1_0 G3_0 G3_2 m x : Nat} (h0 : m + 276 + 2 * G1_0 ≤ x) (h1 : x < m + 276 + 2 * G1_0 + 2) (h2 : G3_2 = G3_0 + 2) (h3 : G1_0 + 5 ≤ 160) (h4 : G3_0 + 4 ≤ 44) : x < m + 596 + 130 * G3_2 ∨ m + 596 + 130 * G3_2 + 130 ≤ x := by omega
theorem zx_X16_part_38 {G1_0 G1_2 m x : Nat} (h0 : m + 276 + 2 * G1_0 ≤ x) (h1 : x < m + 276 + 2 * G1_0 + 2) (h2 : G1_2 = G1_0 + 2) (h3 : G1_0 + 5 ≤ 160) : x < m + 276 + 2 * G1_2 ∨ m + 276 + 2 * G1_2 + (320 - 2 * G1_2) ≤ x := by omega
theorem zx_X16_part_39 {G1_0 G3_0 G3_3 m x : Nat} (h0 : m + 276 + 2 * G1_0 ≤ x) (h1 : x < m + 276 + 2 * G1_0 + 2) (h2 : G3_3 = G3_0 + 3) (h3 : G1_0 + 5 ≤ 160) (h4 : G3_0 + 4 ≤ 44) : x < m + 596 + 130 * G3_3 ∨ m + 596 + 130 * G3_3 + (5720 - 130 * G3_3) ≤ x := by omega
theorem zx_X16_part_40 {G1_0 G3_0 m up x : Nat} (h0 : m + 276 + 2 * G1_0 ≤ x) (h1 : x < m + 276 + 2 * G1_0 + 2) (h2 : m + 596 ≤ up ∧ up + 130 ≤ m + 596 + 130 * G3_0) (h3 : G1_0 + 5 ≤ 160) (h4 : G3_0 + 4 ≤ 44) : x < up ∨ up + 130 ≤ x := by omega
theorem zx_X16_part_41 {G3_0 m up : Nat} (h0 : m + 596 ≤ up ∧ up + 130 ≤ m + 596 + 130 * G3_0) (h1 : G3_0 + 4 ≤ 44) : m < up ∨ up + 130 ≤ m := by omega
theorem zx_X16_part_42 {G1_0 down m : Nat} (h0 : m + 276 ≤ down ∧ down + 2 ≤ m + 276 + 2 * G1_0) (h1 : G1_0 + 5 ≤ 160) : m < down ∨ down + 2 ≤ m := by omega
theorem zx_X16_part_43 {G1_0 G1_1 G3_0 m x : Nat} (h0 : m + 276 + 2 * G1_1 ≤ x) (h1 : x < m + 276 + 2 * G1_1 + 2) (h2 : G1_1 = G1_0 + 1) (h3 : G1_0 + 5 ≤ 160) (h4 : G3_0 + 4 ≤ 44) : x < m + 596 + 130 * G3_0 ∨ m + 596 + 130 * G3_0 + 130 ≤ x := by omega
theorem zx_X16_part_44 {G1_0 G1_1 G3_0 G3_1 m x : Nat} (h0 : m + 276 + 2 * G1_1 ≤ x) (h1 : x < m + 276 + 2 * G1_1 + 2) (h2 : G1_1 = G1_0 + 1) (h3 : G3_1 = G3_0 + 1) (h4 : G1_0 + 5 ≤ 160) (h5 : G3_0 + 4 ≤ 44) : x < m + 596 + 130 * G3_1 ∨ m + 596 + 130 * G3_1 + 130 ≤ x := by omega
theorem zx_X16_part_45 {G1_0 G1_1 m x : Nat} (h0 : m + 276 + 2 * G1_1 ≤ x) (h1 : x < m + 276 + 2 * G1_1 + 2) (h2 : G1_1 = G1_0 + 1) (h3 : G1_0 + 5 ≤ 160) : x < m + 276 + 2 * G1_0 ∨ m + 276 + 2 * G1_0 + 2 ≤ x := by omega
theorem zx_X16_part_46 {G1_0 G1_1 G1_2 m x : Nat} (h0 : m + 276 + 2 * G1_1 ≤ x) (h1 : x < m + 276 + 2 * G1_1 + 2) (h2 : G1_1 = G1_0 + 1) (h3 : G1_2 = G1_0 + 2) (h4 : G1_0 + 5 ≤ 160) : x < m + 276 + 2 * G1_2 ∨ m + 276 + 2 * G1_2 + (320 - 2 * G1_2) ≤ x := by omega
theorem zx_X16_part_47 {G1_0 G1_1 G3_0 G3_2 m x : Nat} (h0 : m + 276 + 2 * G1_1 ≤ x) (h1 : x < m + 276 + 2 * G1_1 + 2) (h2 : G1_1 = G1_0 + 1) (h3 : G3_2 = G3_0 + 2) (h4 : G1_0 + 5 ≤ 160) (h5 : G3_0 + 4 ≤ 44) : x < m + 596 + 130 * G3_2 ∨ m + 596 + 130 * G3_2 + 130 ≤ x := by omega
theorem zx_X16_part_48 {G1_0 G1_1 G3_0 G3_3 m x : Nat} (h0 : m + 276 + 2 * G1_1 ≤ x) (h1 : x < m + 276 + 2 * G1_1 + 2) (h2 : G1_1 = G1_0 + 1) (h3 : G3_3 = G3_0 + 3) (h4 : G1_0 + 5 ≤ 160) (h5 : G3_0 + 4 ≤ 44) : x < m + 596 + 130 * G3_3 ∨ m + 596 + 130 * G3_3 + (5720 - 130 * G3_3) ≤ x := by omega
theorem zx_X16_part_49 {G1_0 G1_1 G3_0 m up x : Nat} (h0 : m + 276 + 2 * G1_1 ≤ x) (h1 : x < m + 276 + 2 * G1_1 + 2) (h2 : m + 596 ≤ up ∧ up + 130 ≤ m + 596 + 130 * G3_0) (h3 : G1_1 = G1_0 + 1) (h4 : G1_0 + 5 ≤ 160) (h5 : G3_0 + 4 ≤ 44) : x < up ∨ up + 130 ≤ x := by omega
theorem zx_X16_part_50 {G1_0 G1_1 down m x : Nat} (h0 : m + 276 + 2 * G1_1 ≤ x) (h1 : x < m + 276 + 2 * G1_1 + 2) (h2 : m + 276 ≤ down ∧ down + 2 ≤ m + 276 + 2 * G1_0) (h3 : G1_1 = G1_0 + 1) (h4 : G1_0 + 5 ≤ 160) : x < down ∨ down + 2 ≤ x := by omega
theorem zx_X16_part_51 {G1_0 G3_0 down m up x : Nat} (h0 : up ≤ x) (h1 : x < up + 130) (h2 : m + 596 ≤ up ∧ up + 130 ≤ m + 596 + 130 * G3_0) (h3 : m + 276 ≤ down ∧ down + 2 ≤ m + 276 + 2 * G1_0) (h4 : G1_0 + 5 ≤ 160) (h5 : G3_0 + 4 ≤ 44) : x < down ∨ down + 2 ≤ x := by omega
theorem zx_X16_part_52 {G1_0 G1_1 m : Nat} (h0 : G1_1 = G1_0 + 1) (h1 : G1_0 + 5 ≤ 160) : m < m + 276 + 2 * G1_1 ∨ m + 276 + 2 * G1_1 + 2 ≤ m := by omega
theorem zx_X16_part_53 {G1_0 G1_1 down m x : Nat} (h0 : down ≤ x) (h1 : x < down + 2) (h2 : m + 276 ≤ down ∧ down + 2 ≤ m + 276 + 2 * G1_0) (h3 : G1_1 = G1_0 + 1) (h4 : G1_0 + 5 ≤ 160) : x < m + 276 + 2 * G1_1 ∨ m + 276 + 2 * G1_1 + 2 ≤ x := by omega
theorem zx_X16_part_54 {G1_0 G1_2 down m x : Nat} (h0 : down ≤ x) (h1 : x < down + 2) (h2 : m + 276 ≤ down ∧ down + 2 ≤ m + 276 + 2 * G1_0) (h3 : G1_2 = G1_0 + 2) (h4 : G1_0 + 5 ≤ 160) : x < m + 276 + 2 * G1_2 ∨ m + 276 + 2 * G1_2 + (320 - 2 * G1_2) ≤ x := by omega
theorem zx_X16_part_55 {G1_0 G1_1 G3_0 m up x : Nat} (h0 : up ≤ x) (h1 : x < up + 130) (h2 : m + 596 ≤ up ∧ up + 130 ≤ m + 596 + 130 * G3_0) (h3 : G1_1 = G1_0 + 1) (h4 : G1_0 + 5 ≤ 160) (h5 : G3_0 + 4 ≤ 44) : x < m + 276 + 2 * G1_1 ∨ m + 276 + 2 * G1_1 + 2 ≤ x := by omega
theorem zx_X16_part_56 {G1_0 G1_2 G3_0 m up x : Nat} (h0 : up ≤ x) (h1 : x < up + 130) (h2 : m + 596 ≤ up ∧ up + 130 ≤ m + 596 + 130 * G3_0) (h3 : G1_2 = G1_0 + 2) (h4 : G1_0 + 5 ≤ 160) (h5 : G3_0 + 4 ≤ 44) : x < m + 276 + 2 * G1_2 ∨ m + 276 + 2 * G1_2 + (320 - 2 * G1_2) ≤ x := by omega
theorem zx_X16_part_57 {G1_0 G3_0 down m up x : Nat} (h0 : down ≤ x) (h1 : x < down + 2) (h2 : m + 596 ≤ up ∧ up + 130 ≤ m + 596 + 130 * G3_0) (h3 : m + 276 ≤ down ∧ down + 2 ≤ m + 276 + 2 * G1_0) (h4 : G1_0 + 5 ≤ 160) (h5 : G3_0 + 4 ≤ 44) : x < up ∨ up + 130 ≤ x := by omega
theorem zx_X16_part_58 {G1_0 G3_0 down m up : Nat} (h0 : m + 596 ≤ up ∧ up + 130 ≤ m + 596 + 130 * G3_0) (h1 : m + 276 ≤ down ∧ down + 2 ≤ m + 276 + 2 * G1_0) (h2 : G1_0 + 5 ≤ 160) (h3 : G3_0 + 4 ≤ 44) : up < down ∨ down + 2 ≤ up := by omega
theorem zx_X16_part_59 {G1_0 G1_2 G3_0 m up : Nat} (h0 : m + 596 ≤ up ∧ up + 130 ≤ m + 596 + 130 * G3_0) (h1 : G1_2 = G1_0 + 2) (h2 : G1_0 + 5 ≤ 160) (h3 : G3_0 + 4 ≤ 44) : up < m + 276 + 2 * G1_2 ∨ m + 276 + 2 * G1_2 + (320 - 2 * G1_2) ≤ up := by omega
theorem zx_X16_part_60 {G3_0 m up : Nat} (h0 : m + 596 ≤ up ∧ up + 130 ≤ m + 596 + 130 * G3_0) (h1 : G3_0 + 4 ≤ 44) : up ≠ m := by omega
theorem zx_X16_part_61 {m x : Nat} (h0 : x ≠ m) : x < m ∨ m + 1 ≤ x := by omega
theorem zx_X16_part_62 {G3_0 m x : Nat} (h0 : x < m + 596 + 130 * G3_0 ∨ m + 596 + 130 * G3_0 + (5720 - 130 * G3_0) ≤ x) (h1 : G3_0 + 4 ≤ 44) : x < m + 596 + 130 * G3_0 ∨ m + 596 + 130 * G3_0 + 130 ≤ x := by omega
theorem zx_X16_part_63 {G3_0 G3_1 m x : Nat} (h0 : x < m + 596 + 130 * G3_0 ∨ m + 596 + 130 * G3_0 + (5720 - 130 * G3_0) ≤ x) (h1 : G3_1 = G3_0 + 1) (h2 : G3_0 + 4 ≤ 44) : x < m + 596 + 130 * G3_1 ∨ m + 596 + 130 * G3_1 + 130 ≤ x := by omega
theorem zx_X16_part_64 {G3_0 G3_2 m x : Nat} (h0 : x < m + 596 + 130 * G3_0 ∨ m + 596 + 130 * G3_0 + (5720 - 130 * G3_0) ≤ x) (h1 : G3_2 = G3_0 + 2) (h2 : G3_0 + 4 ≤ 44) : x < m + 596 + 130 * G3_2 ∨ m + 596 + 130 * G3_2 + 130 ≤ x := by omega
theorem zx_X16_part_65 {G1_0 m x : Nat} (h0 : x < m + 276 + 2 * G1_0 ∨ m + 276 + 2 * G1_0 + (320 - 2 * G1_0) ≤ x) (h1 : G1_0 + 5 ≤ 160) : x < m + 276 + 2 * G1_0 ∨ m + 276 + 2 * G1_0 + 2 ≤ x := by omega
theorem zx_X16_part_66 {G1_0 G1_1 m x : Nat} (h0 : x < m + 276 + 2 * G1_0 ∨ m + 276 + 2 * G1_0 + (320 - 2 * G1_0) ≤ x) (h1 : G1_1 = G1_0 + 1) (h2 : G1_0 + 5 ≤ 160) : x < m + 276 + 2 * G1_1 ∨ m + 276 + 2 * G1_1 + 2 ≤ x := by omega
theorem zx_X16_part_67 {G1_0 G1_2 m x : Nat} (h0 : x < m + 276 + 2 * G1_0 ∨ m + 276 + 2 * G1_0 + (320 - 2 * G1_0) ≤ x) (h1 : G1_2 = G1_0 + 2) (h2 : G1_0 + 5 ≤ 160) : x < m + 276 + 2 * G1_2 ∨ m + 276 + 2 * G1_2 + (320 - 2 * G1_2) ≤ x := by omega
theorem zx_X16_part_68 {G3_0 G3_3 m x : Nat} (h0 : x < m + 596 + 130 * G3_0 ∨ m + 596 + 130 * G3_0 + (5720 - 130 * G3_0) ≤ x) (h1 : G3_3 = G3_0 + 3) (h2 : G3_0 + 4 ≤ 44) : x < m + 596 + 130 * G3_3 ∨ m + 596 + 130 * G3_3 + (5720 - 130 * G3_3) ≤ x := by omega
theorem zx_X16_part_69 {G3_0 m up x : Nat} (h0 : up ≤ x) (h1 : x < up + 130) (h2 : m + 596 ≤ up ∧ up + 130 ≤ m + 596 + 130 * G3_0) (h3 : G3_0 + 4 ≤ 44) : x ≠ m := by omega
theorem zx_X16_part_70 {G1_0 down m x : Nat} (h0 : down ≤ x) (h1 : x < down + 2) (h2 : m + 276 ≤ down ∧ down + 2 ≤ m + 276 + 2 * G1_0) (h3 : G1_0 + 5 ≤ 160) : x ≠ m := by omega
theorem zx_X16_part_71 {G1_0 down m : Nat} (h0 : m + 276 ≤ down ∧ down + 2 ≤ m + 276 + 2 * G1_0) (h1 : G1_0 + 5 ≤ 160) : down ≠ m := by omega
set_option maxHeartbeats 8000000 in
set_option maxRecDepth 100000 in
theorem c_X16_part {w : zM} {g : Nat → Int32} {r : Nat → Value} {fn fd : Nat → Int32} {Pq : zA2} {g1 : Int32} {g3 : Int32} (m : Nat) (up : Nat) (down : Nat) (i9 : Int32) (q : Nat) (hm : w m = some (.inl (15, zMo m g r))) (hR_m : zR m w) (hBo_up : zBo w up) (hUo_down : zUo w down 1000) (hB_q : zB w q Pq) (hA_m_182_i9_toNatClampNeg : w (m + 182 + i9.toNatClampNeg) = some (.inr (0, 325, .inl fn))) (hA_m_187_i9_toNatClampNeg : w (m + 187 + i9.toNatClampNeg) = some (.inr (0, 325, .inl fd))) (hut : 0 ≤ g1.toInt ∧ g1.toInt + 5 ≤ 160) (hbt : 0 ≤ g3.toInt ∧ g3.toInt + 4 ≤ 44) (hi9 : 0 ≤ i9.toInt ∧ i9.toInt < 4) (huq : up + 130 ≤ q ∨ q + 130 ≤ up) (hmup : m + 596 ≤ up ∧ up + 130 ≤ m + 596 + 130 * g3.toNatClampNeg) (hmq : m + 596 ≤ q ∧ q + 130 ≤ m + 596 + 130 * g3.toNatClampNeg) (hmd : m + 276 ≤ down ∧ down + 2 ≤ m + 276 + 2 * g1.toNatClampNeg) (hcr : (zCr fn ∧ zCr fd ∧ 0 < zrw (zbT fn) ∧ 0 < zrw (zbT fd)) ∧ (0 < zrw Pq ∧ zrw Pq ≤ 9 ∧ zdn Pq ≤ 12) ∧ ∃ s, Pq = zbM s (zprim (zbT fd))) (hg1 : g 1 = g1) (hg3 : g 3 = g3) : zCon 7 zq_X16_part [.ref m, .ref up, .ref down, .int i9, .ref q] w (fun v9 w9' => ∃ UP : zA2, ∃ DN : zA1, zSI w w9' ∧ (∀ x, (x < up ∨ up + 130 ≤ x) ∧ (x < down ∨ down + 2 ≤ x) ∧ (x < m + 276 + 2 * g1.toNatClampNeg ∨ m + 276 + 2 * g1.toNatClampNeg + (320 - 2 * g1.toNatClampNeg) ≤ x) ∧ (x < m + 596 + 130 * g3.toNatClampNeg ∨ m + 596 + 130 * g3.toNatClampNeg + (5720 - 130 * g3.toNatClampNeg) ≤ x) → w9' x = w x) ∧ zB w9' up UP ∧ zU w9' down 1000 DN ∧ (0 < zrw UP ∧ 0 < zln DN) ∧ ∃ r9 : Int32, v9 = some (.int r9) ∧ (r9 = 0 ∨ r9 = 1) ∧ (r9 = 1 → zrw UP ≤ 9 ∧ zdn UP ≤ 12 ∧ zln DN ≤ 13)) := by
  subst hg1
  subst hg3
  intro d sz hd
  obtain ⟨d, rfl⟩ : ∃ d9, d = d9 + 1 := ⟨d - 1, by omega⟩
  generalize hPost : (fun (r9' : Option (Option Value)) (w9' : zM) (z9 : Nat) => z9 = sz ∧ ∃ v9, r9' = some v9 ∧ (∃ UP : zA2, ∃ DN : zA1, zSI w w9' ∧ (∀ x, (x < up ∨ up + 130 ≤ x) ∧ (x < down ∨ down + 2 ≤ x) ∧ (x < m + 276 + 2 * (g 1).toNatClampNeg ∨ m + 276 + 2 * (g 1).toNatClampNeg + (320 - 2 * (g 1).toNatClampNeg) ≤ x) ∧ (x < m + 596 + 130 * (g 3).toNatClampNeg ∨ m + 596 + 130 * (g 3).toNatClampNeg + (5720 - 130 * (g 3).toNatClampNeg) ≤ x) → w9' x = w x) ∧ zB w9' up UP ∧ zU w9' down 1000 DN ∧ (0 < zrw UP ∧ 0 < zln DN) ∧ ∃ r9 : Int32, v9 = some (.int r9) ∧ (r9 = 0 ∨ r9 = 1) ∧ (r9 = 1 → zrw UP ≤ 9 ∧ zdn UP ≤ 12 ∧ zln DN ≤ 13))) = Post
  show zP (d + 1) zq_X16_part 0 [(0, .ref m), (1, .ref up), (2, .ref down), (3, .int i9), (4, .ref q)] [] w sz 0 0 Post
  have k1 := zrng i9
  have k2 := zrng (g 1)
  have hz3 : ((g 1).toNatClampNeg : Int) = (g 1).toInt := znat (by first | omega | decide)
  have hgb1 : (g 1).toNatClampNeg + 5 ≤ 160 := by omega
  have k4 := zrng (g 3)
  have hz5 : ((g 3).toNatClampNeg : Int) = (g 3).toInt := znat (by first | omega | decide)
  have hgb3 : (g 3).toNatClampNeg + 4 ≤ 44 := by omega
  have hz6 : (i9.toNatClampNeg : Int) = i9.toInt := znat (by first | omega | decide)
  have hdn1 := zbT_dn fn
  have hrn1 := zbT_rw fn
  have hdn2 := zbT_dn fd
  have hrn2 := zbT_rw fd
  have hpr9 := zprim_rw (zbT fd)
  have hpd9 := zprim_dn (zbT fd)
  have hcl9 := zcont_le (zbT fd)
  have hcz9 := zcont_nz hcr.1.2.2.2
  refine zp_seg (pc' := 1) (lv' := [(0, .ref m), (1, .ref up), (2, .ref down), (3, .int i9), (4, .ref q)]) (st' := [.ref m]) [(0, .aload_n 0)] (by decide +kernel) rfl ?_
  refine zr_get (idx := 90) (k := 3) (v := .int (g 3)) (by decide +kernel) (by decide +kernel) hm rfl ?_
  refine zp_seg (pc' := 7) (lv' := [(5, .int (g 3)), (0, .ref m), (1, .ref up), (2, .ref down), (3, .int i9), (4, .ref q)]) (st' := [.ref m]) [(4, .istore 5), (6, .aload_n 0)] (by decide +kernel) rfl ?_
  refine zr_get (idx := 21) (k := 1) (v := .int (g 1)) (by decide +kernel) (by decide +kernel) hm rfl ?_
  refine zp_seg (pc' := 12) (lv' := [(6, .int (g 1)), (5, .int (g 3)), (0, .ref m), (1, .ref up), (2, .ref down), (3, .int i9), (4, .ref q)]) (st' := []) [(10, .istore 6)] (by decide +kernel) rfl ?_
  have k8 := zaddC (g 1) 1 (n := 1) (by decide) (by omega) (by omega)
  have hz9 : ((g 1 + 1).toNatClampNeg : Int) = (g 1 + 1).toInt := znat (by first | omega | decide)
  have hgn1_1 : (g 1 + 1).toNatClampNeg = (g 1).toNatClampNeg + 1 := by omega
  have k10 := zaddC (g 1 + 1) 1 (n := 1) (by decide) (by omega) (by omega)
  have hz11 : ((g 1 + 1 + 1).toNatClampNeg : Int) = (g 1 + 1 + 1).toInt := znat (by first | omega | decide)
  have hgn1_2 : (g 1 + 1 + 1).toNatClampNeg = (g 1).toNatClampNeg + 2 := by omega
  have k12 := zaddC (g 3) 1 (n := 1) (by decide) (by omega) (by omega)
  have hz13 : ((g 3 + 1).toNatClampNeg : Int) = (g 3 + 1).toInt := znat (by first | omega | decide)
  have hgn3_1 : (g 3 + 1).toNatClampNeg = (g 3).toNatClampNeg + 1 := by omega
  have k14 := zaddC (g 3 + 1) 1 (n := 1) (by decide) (by omega) (by omega)
  have hz15 : ((g 3 + 1 + 1).toNatClampNeg : Int) = (g 3 + 1 + 1).toInt := znat (by first | omega | decide)
  have hgn3_2 : (g 3 + 1 + 1).toNatClampNeg = (g 3).toNatClampNeg + 2 := by omega
  have k16 := zaddC (g 3 + 1 + 1) 1 (n := 1) (by decide) (by omega) (by omega)
  have hz17 : ((g 3 + 1 + 1 + 1).toNatClampNeg : Int) = (g 3 + 1 + 1 + 1).toInt := znat (by first | omega | decide)
  have hgn3_3 : (g 3 + 1 + 1 + 1).toNatClampNeg = (g 3).toNatClampNeg + 3 := by omega
  refine zp_seg (pc' := 13) (lv' := [(6, .int (g 1)), (5, .int (g 3)), (0, .ref m), (1, .ref up), (2, .ref down), (3, .int i9), (4, .ref q)]) (st' := [.ref m]) [(12, .aload_n 0)] (by decide +kernel) rfl ?_
  refine zr_callV (idx := 140) (j := 274) (by decide +kernel) (by decide +kernel) (show zMe 274 = some zq_X16_newB from rfl) rfl rfl (Nat.le_of_ble_eq_true rfl) rfl rfl hm (Nat.le_of_ble_eq_true rfl) (Nat.le_of_ble_eq_true rfl) (c_X16_newB (w := w) (g3 := (g 3)) m hm hR_m (by first | omega | decide | assumption | exact zr1_1 | exact zr1_0 | fail "num") rfl) (by omega) (fun v13 w13 hp13 => ?_)
  obtain ⟨hsi13, heq13, hp13_0, hp13_1, rfl⟩ := hp13
  have hM13 : w13 m = some (.inl (15, zMo m (zs g 3 (g 3 + 1)) r)) := hp13_0
  show zP _ _ _ _ [.ref (m + 596 + 130 * (g 3).toNatClampNeg)] _ _ _ _ _
  refine zp_seg (pc' := 19) (lv' := [(7, .ref (m + 596 + 130 * (g 3).toNatClampNeg)), (6, .int (g 1)), (5, .int (g 3)), (0, .ref m), (1, .ref up), (2, .ref down), (3, .int i9), (4, .ref q)]) (st' := [.ref m]) [(16, .astore 7), (18, .aload_n 0)] (by decide +kernel) rfl ?_
  have hb18 := hR_m.si hsi13
  refine zr_callV (idx := 140) (j := 274) (by decide +kernel) (by decide +kernel) (show zMe 274 = some zq_X16_newB from rfl) rfl rfl (Nat.le_of_ble_eq_true rfl) rfl rfl hM13 (Nat.le_of_ble_eq_true rfl) (Nat.le_of_ble_eq_true rfl) (c_X16_newB (w := w13) (g3 := (g 3 + 1)) m hM13 hb18 (by first | omega | decide | assumption | exact zr1_1 | exact zr1_0 | fail "num") rfl) (by omega) (fun v19 w19 hp19 => ?_)
  obtain ⟨hsi19, heq19, hp19_0, hp19_1, rfl⟩ := hp19
  have hM19 : w19 m = some (.inl (15, zMo m (zs g 3 (g 3 + 1 + 1)) r)) := hp19_0
  show zP _ _ _ _ [.ref (m + 596 + 130 * (g 3 + 1).toNatClampNeg)] _ _ _ _ _
  refine zp_seg (pc' := 25) (lv' := [(8, .ref (m + 596 + 130 * (g 3 + 1).toNatClampNeg)), (7, .ref (m + 596 + 130 * (g 3).toNatClampNeg)), (6, .int (g 1)), (5, .int (g 3)), (0, .ref m), (1, .ref up), (2, .ref down), (3, .int i9), (4, .ref q)]) (st' := [.ref m]) [(22, .astore 8), (24, .aload_n 0)] (by decide +kernel) rfl ?_
  have hb19 := hb18.si hsi19
  refine zr_callV (idx := 140) (j := 274) (by decide +kernel) (by decide +kernel) (show zMe 274 = some zq_X16_newB from rfl) rfl rfl (Nat.le_of_ble_eq_true rfl) rfl rfl hM19 (Nat.le_of_ble_eq_true rfl) (Nat.le_of_ble_eq_true rfl) (c_X16_newB (w := w19) (g3 := (g 3 + 1 + 1)) m hM19 hb19 (by first | omega | decide | assumption | exact zr1_1 | exact zr1_0 | fail "num") rfl) (by omega) (fun v25 w25 hp25 => ?_)
  obtain ⟨hsi25, heq25, hp25_0, hp25_1, rfl⟩ := hp25
  have hM25 : w25 m = some (.inl (15, zMo m (zs g 3 (g 3 + 1 + 1 + 1)) r)) := hp25_0
  show zP _ _ _ _ [.ref (m + 596 + 130 * (g 3 + 1 + 1).toNatClampNeg)] _ _ _ _ _
  refine zp_seg (pc' := 31) (lv' := [(9, .ref (m + 596 + 130 * (g 3 + 1 + 1).toNatClampNeg)), (8, .ref (m + 596 + 130 * (g 3 + 1).toNatClampNeg)), (7, .ref (m + 596 + 130 * (g 3).toNatClampNeg)), (6, .int (g 1)), (5, .int (g 3)), (0, .ref m), (1, .ref up), (2, .ref down), (3, .int i9), (4, .ref q)]) (st' := [.ref m]) [(28, .astore 9), (30, .aload_n 0)] (by decide +kernel) rfl ?_
  have hb20 := hb19.si hsi25
  refine zr_callV (idx := 74) (j := 263) (by decide +kernel) (by decide +kernel) (show zMe 263 = some zq_X16_newU from rfl) rfl rfl (Nat.le_of_ble_eq_true rfl) rfl rfl hM25 (Nat.le_of_ble_eq_true rfl) (Nat.le_of_ble_eq_true rfl) (c_X16_newU (w := w25) (g1 := (g 1)) m hM25 hb20 (by first | omega | decide | assumption | exact zr1_1 | exact zr1_0 | fail "num") rfl) (by omega) (fun v31 w31 hp31 => ?_)
  obtain ⟨hsi31, heq31, hp31_0, hp31_1, rfl⟩ := hp31
  have hM31 : w31 m = some (.inl (15, zMo m (zs (zs g 1 (g 1 + 1)) 3 (g 3 + 1 + 1 + 1)) r)) := hp31_0
  show zP _ _ _ _ [.ref (m + 276 + 2 * (g 1).toNatClampNeg)] _ _ _ _ _
  refine zp_seg (pc' := 37) (lv' := [(10, .ref (m + 276 + 2 * (g 1).toNatClampNeg)), (9, .ref (m + 596 + 130 * (g 3 + 1 + 1).toNatClampNeg)), (8, .ref (m + 596 + 130 * (g 3 + 1).toNatClampNeg)), (7, .ref (m + 596 + 130 * (g 3).toNatClampNeg)), (6, .int (g 1)), (5, .int (g 3)), (0, .ref m), (1, .ref up), (2, .ref down), (3, .int i9), (4, .ref q)]) (st' := [.ref m]) [(34, .astore 10), (36, .aload_n 0)] (by decide +kernel) rfl ?_
  have hb21 := hb20.si hsi31
  refine zr_callV (idx := 74) (j := 263) (by decide +kernel) (by decide +kernel) (show zMe 263 = some zq_X16_newU from rfl) rfl rfl (Nat.le_of_ble_eq_true rfl) rfl rfl hM31 (Nat.le_of_ble_eq_true rfl) (Nat.le_of_ble_eq_true rfl) (c_X16_newU (w := w31) (g1 := (g 1 + 1)) m hM31 hb21 (by first | omega | decide | assumption | exact zr1_1 | exact zr1_0 | fail "num") rfl) (by omega) (fun v37 w37 hp37 => ?_)
  obtain ⟨hsi37, heq37, hp37_0, hp37_1, rfl⟩ := hp37
  have hM37 : w37 m = some (.inl (15, zMo m (zs (zs g 1 (g 1 + 1 + 1)) 3 (g 3 + 1 + 1 + 1)) r)) := hp37_0
  show zP _ _ _ _ [.ref (m + 276 + 2 * (g 1 + 1).toNatClampNeg)] _ _ _ _ _
  refine zp_seg (pc' := 45) (lv' := [(11, .ref (m + 276 + 2 * (g 1 + 1).toNatClampNeg)), (10, .ref (m + 276 + 2 * (g 1).toNatClampNeg)), (9, .ref (m + 596 + 130 * (g 3 + 1 + 1).toNatClampNeg)), (8, .ref (m + 596 + 130 * (g 3 + 1).toNatClampNeg)), (7, .ref (m + 596 + 130 * (g 3).toNatClampNeg)), (6, .int (g 1)), (5, .int (g 3)), (0, .ref m), (1, .ref up), (2, .ref down), (3, .int i9), (4, .ref q)]) (st' := [.ref m, .ref (m + 596 + 130 * (g 3).toNatClampNeg)]) [(40, .astore 11), (42, .aload 7), (44, .aload_n 0)] (by decide +kernel) rfl ?_
  refine zr_get (idx := 505) (k := 51) (v := .ref (m + 181)) (by decide +kernel) (by decide +kernel) hM37 rfl ?_
  refine zp_seg (pc' := 49) (lv' := [(11, .ref (m + 276 + 2 * (g 1 + 1).toNatClampNeg)), (10, .ref (m + 276 + 2 * (g 1).toNatClampNeg)), (9, .ref (m + 596 + 130 * (g 3 + 1 + 1).toNatClampNeg)), (8, .ref (m + 596 + 130 * (g 3 + 1).toNatClampNeg)), (7, .ref (m + 596 + 130 * (g 3).toNatClampNeg)), (6, .int (g 1)), (5, .int (g 3)), (0, .ref m), (1, .ref up), (2, .ref down), (3, .int i9), (4, .ref q)]) (st' := [.int i9, .ref (m + 181), .ref (m + 596 + 130 * (g 3).toNatClampNeg)]) [(48, .iload_n 3)] (by decide +kernel) rfl ?_
  have hb22 := hb21.si hsi37
  have hb24 := hb22.sNum
  refine zr_aald (v := .ref (m + 182 + i9.toNatClampNeg)) (by decide +kernel) hb24 (by decide) (zin (by first | omega | decide) (by first | omega | decide)) (zsN_at (by omega)) ?_
  have hb25 : zB w37 (m + 596 + 130 * (g 3).toNatClampNeg) zbZ := hp13_1.ag (fun x hx1 hx2 => ((heq37 x ⟨(zx_X16_part_0 hx1 hx2 hgb3), (zx_X16_part_4 hx1 hx2 hgn1_1 hgb1 hgb3)⟩).trans ((heq31 x ⟨(zx_X16_part_0 hx1 hx2 hgb3), (zx_X16_part_3 hx1 hx2 hgb1 hgb3)⟩).trans ((heq25 x ⟨(zx_X16_part_0 hx1 hx2 hgb3), (zx_X16_part_2 hx1 hx2 hgn3_2 hgb3)⟩).trans (heq19 x ⟨(zx_X16_part_0 hx1 hx2 hgb3), (zx_X16_part_1 hx1 hx2 hgn3_1 hgb3)⟩)))))
  have ho50_b := zB.o hb25
  have hb26 : w37 (m + 182 + i9.toNatClampNeg) = some (.inr (0, 325, .inl fn)) := ((heq37 (m + 182 + i9.toNatClampNeg) (by omega)).trans ((heq31 (m + 182 + i9.toNatClampNeg) (by omega)).trans ((heq25 (m + 182 + i9.toNatClampNeg) (by omega)).trans ((heq19 (m + 182 + i9.toNatClampNeg) (by omega)).trans (heq13 (m + 182 + i9.toNatClampNeg) (by omega)))))).trans hA_m_182_i9_toNatClampNeg
  refine zr_callS (idx := 295) (j := 299) (by decide +kernel) (by decide +kernel) (by decide) (show zMe 299 = some zq_X16_load from rfl) rfl rfl (Nat.le_of_ble_eq_true rfl) rfl rfl (Nat.le_of_ble_eq_true rfl) (Nat.le_of_ble_eq_true rfl) (c_X16_load (w := w37) (m + 596 + 130 * (g 3).toNatClampNeg) (m + 182 + i9.toNatClampNeg) ho50_b hb26 (by exact hcr.1.1) (by first | omega | decide | assumption | exact zr1_1 | exact zr1_0 | fail "num")) (by omega) (fun v50 w50 hp50 => ?_)
  obtain ⟨hsi50, heq50, hp50_0, rfl⟩ := hp50
  show zP _ _ _ _ [] _ _ _ _ _
  refine zp_seg (pc' := 56) (lv' := [(11, .ref (m + 276 + 2 * (g 1 + 1).toNatClampNeg)), (10, .ref (m + 276 + 2 * (g 1).toNatClampNeg)), (9, .ref (m + 596 + 130 * (g 3 + 1 + 1).toNatClampNeg)), (8, .ref (m + 596 + 130 * (g 3 + 1).toNatClampNeg)), (7, .ref (m + 596 + 130 * (g 3).toNatClampNeg)), (6, .int (g 1)), (5, .int (g 3)), (0, .ref m), (1, .ref up), (2, .ref down), (3, .int i9), (4, .ref q)]) (st' := [.ref m, .ref (m + 596 + 130 * (g 3 + 1).toNatClampNeg)]) [(53, .aload 8), (55, .aload_n 0)] (by decide +kernel) rfl ?_
  have hb27 : w50 m = some (.inl (15, zMo m (zs (zs g 1 (g 1 + 1 + 1)) 3 (g 3 + 1 + 1 + 1)) r)) := (heq50 m (zx_X16_part_5 hgb3)).trans hM37
  refine zr_get (idx := 508) (k := 52) (v := .ref (m + 186)) (by decide +kernel) (by decide +kernel) hb27 rfl ?_
  refine zp_seg (pc' := 60) (lv' := [(11, .ref (m + 276 + 2 * (g 1 + 1).toNatClampNeg)), (10, .ref (m + 276 + 2 * (g 1).toNatClampNeg)), (9, .ref (m + 596 + 130 * (g 3 + 1 + 1).toNatClampNeg)), (8, .ref (m + 596 + 130 * (g 3 + 1).toNatClampNeg)), (7, .ref (m + 596 + 130 * (g 3).toNatClampNeg)), (6, .int (g 1)), (5, .int (g 3)), (0, .ref m), (1, .ref up), (2, .ref down), (3, .int i9), (4, .ref q)]) (st' := [.int i9, .ref (m + 186), .ref (m + 596 + 130 * (g 3 + 1).toNatClampNeg)]) [(59, .iload_n 3)] (by decide +kernel) rfl ?_
  have hb28 := hb22.si hsi50
  have hb30 := hb28.sDen
  refine zr_aald (v := .ref (m + 187 + i9.toNatClampNeg)) (by decide +kernel) hb30 (by decide) (zin (by first | omega | decide) (by first | omega | decide)) (zsD_at (by omega)) ?_
  have hb31 : zB w50 (m + 596 + 130 * (g 3 + 1).toNatClampNeg) zbZ := hp19_1.ag (fun x hx1 hx2 => ((heq50 x (zx_X16_part_10 hx1 hx2 hgn3_1 hgb3)).trans ((heq37 x ⟨(zx_X16_part_6 hx1 hx2 hgn3_1 hgb3), (zx_X16_part_9 hx1 hx2 hgn1_1 hgn3_1 hgb1 hgb3)⟩).trans ((heq31 x ⟨(zx_X16_part_6 hx1 hx2 hgn3_1 hgb3), (zx_X16_part_8 hx1 hx2 hgn3_1 hgb1 hgb3)⟩).trans (heq25 x ⟨(zx_X16_part_6 hx1 hx2 hgn3_1 hgb3), (zx_X16_part_7 hx1 hx2 hgn3_1 hgn3_2 hgb3)⟩)))))
  have ho61_b := zB.o hb31
  have hb32 : w50 (m + 187 + i9.toNatClampNeg) = some (.inr (0, 325, .inl fd)) := ((heq50 (m + 187 + i9.toNatClampNeg) (by omega)).trans ((heq37 (m + 187 + i9.toNatClampNeg) (by omega)).trans ((heq31 (m + 187 + i9.toNatClampNeg) (by omega)).trans ((heq25 (m + 187 + i9.toNatClampNeg) (by omega)).trans ((heq19 (m + 187 + i9.toNatClampNeg) (by omega)).trans (heq13 (m + 187 + i9.toNatClampNeg) (by omega))))))).trans hA_m_187_i9_toNatClampNeg
  refine zr_callS (idx := 295) (j := 299) (by decide +kernel) (by decide +kernel) (by decide) (show zMe 299 = some zq_X16_load from rfl) rfl rfl (Nat.le_of_ble_eq_true rfl) rfl rfl (Nat.le_of_ble_eq_true rfl) (Nat.le_of_ble_eq_true rfl) (c_X16_load (w := w50) (m + 596 + 130 * (g 3 + 1).toNatClampNeg) (m + 187 + i9.toNatClampNeg) ho61_b hb32 (by exact hcr.1.2.1) (by first | omega | decide | assumption | exact zr1_1 | exact zr1_0 | fail "num")) (by omega) (fun v61 w61 hp61 => ?_)
  obtain ⟨hsi61, heq61, hp61_0, rfl⟩ := hp61
  show zP _ _ _ _ [] _ _ _ _ _
  refine zp_seg (pc' := 71) (lv' := [(11, .ref (m + 276 + 2 * (g 1 + 1).toNatClampNeg)), (10, .ref (m + 276 + 2 * (g 1).toNatClampNeg)), (9, .ref (m + 596 + 130 * (g 3 + 1 + 1).toNatClampNeg)), (8, .ref (m + 596 + 130 * (g 3 + 1).toNatClampNeg)), (7, .ref (m + 596 + 130 * (g 3).toNatClampNeg)), (6, .int (g 1)), (5, .int (g 3)), (0, .ref m), (1, .ref up), (2, .ref down), (3, .int i9), (4, .ref q)]) (st' := [.ref (m + 276 + 2 * (g 1).toNatClampNeg), .ref (m + 596 + 130 * (g 3 + 1).toNatClampNeg), .ref (m + 596 + 130 * (g 3 + 1).toNatClampNeg), .ref m]) [(64, .aload_n 0), (65, .aload 8), (67, .aload 8), (69, .aload 10)] (by decide +kernel) rfl ?_
  have hb33 : w61 m = some (.inl (15, zMo m (zs (zs g 1 (g 1 + 1 + 1)) 3 (g 3 + 1 + 1 + 1)) r)) := (heq61 m (zx_X16_part_11 hgn3_1 hgb3)).trans hb27
  have hb34 := hb28.si hsi61
  have ho71_to := zB.o hp61_0
  have hb35 : zU w61 (m + 276 + 2 * (g 1).toNatClampNeg) 1000 zaZ := hp31_1.ag (fun x hx1 hx2 => ((heq61 x (zx_X16_part_15 hx1 hx2 hgn3_1 hgb1 hgb3)).trans ((heq50 x (zx_X16_part_14 hx1 hx2 hgb1 hgb3)).trans (heq37 x ⟨(zx_X16_part_12 hx1 hx2 hgb1), (zx_X16_part_13 hx1 hx2 hgn1_1 hgb1)⟩))))
  have ho71_c := zU.o hb35
  refine zr_callV (idx := 167) (j := 285) (by decide +kernel) (by decide +kernel) (show zMe 285 = some zq_X16_primitive from rfl) rfl rfl (Nat.le_of_ble_eq_true rfl) rfl rfl hb33 (Nat.le_of_ble_eq_true rfl) (Nat.le_of_ble_eq_true rfl) (c_X16_primitive (w := w61) (g1 := (g 1 + 1 + 1)) m (m + 596 + 130 * (g 3 + 1).toNatClampNeg) (m + 596 + 130 * (g 3 + 1).toNatClampNeg) (m + 276 + 2 * (g 1).toNatClampNeg) hb33 hb34 ho71_to hp61_0 ho71_c (by first | omega | decide | assumption | exact zr1_1 | exact zr1_0 | fail "num") (by first | omega | decide | assumption | exact zr1_1 | exact zr1_0 | fail "num") (by first | omega | decide | assumption | exact zr1_1 | exact zr1_0 | fail "num") (by first | omega | decide | assumption | exact zr1_1 | exact zr1_0 | fail "num") (by first | omega | decide | assumption | exact zr1_1 | exact zr1_0 | fail "num") (by first | omega | decide | assumption | exact zr1_1 | exact zr1_0 | fail "num") (by first | omega | decide | assumption | exact zr1_1 | exact zr1_0 | fail "num") (by first | omega | decide | assumption | exact zr1_1 | exact zr1_0 | fail "num") rfl) (by omega) (fun v71 w71 hp71 => ?_)
  obtain ⟨hsi71, heq71, hp71_0, hp71_1, rfl⟩ := hp71
  show zP _ _ _ _ [] _ _ _ _ _
  refine zp_seg (pc' := 81) (lv' := [(11, .ref (m + 276 + 2 * (g 1 + 1).toNatClampNeg)), (10, .ref (m + 276 + 2 * (g 1).toNatClampNeg)), (9, .ref (m + 596 + 130 * (g 3 + 1 + 1).toNatClampNeg)), (8, .ref (m + 596 + 130 * (g 3 + 1).toNatClampNeg)), (7, .ref (m + 596 + 130 * (g 3).toNatClampNeg)), (6, .int (g 1)), (5, .int (g 3)), (0, .ref m), (1, .ref up), (2, .ref down), (3, .int i9), (4, .ref q)]) (st' := [.ref (m + 596 + 130 * (g 3 + 1).toNatClampNeg), .ref q, .ref (m + 596 + 130 * (g 3 + 1 + 1).toNatClampNeg), .ref m]) [(74, .aload_n 0), (75, .aload 9), (77, .aload 4), (79, .aload 8)] (by decide +kernel) rfl ?_
  have hb36 : w71 m = some (.inl (15, zMo m (zs (zs g 1 (g 1 + 1 + 1)) 3 (g 3 + 1 + 1 + 1)) r)) := (heq71 m ⟨(zx_X16_part_11 hgn3_1 hgb3), (zx_X16_part_16 hgb1), (zx_X16_part_17 hgn1_2 hgb1)⟩).trans hb33
  have hb37 := hb34.si hsi71
  have hb38 : zB w71 (m + 596 + 130 * (g 3 + 1 + 1).toNatClampNeg) zbZ := hp25_1.ag (fun x hx1 hx2 => ((heq71 x ⟨(zx_X16_part_22 hx1 hx2 hgn3_1 hgn3_2 hgb3), (zx_X16_part_19 hx1 hx2 hgn3_2 hgb1 hgb3), (zx_X16_part_23 hx1 hx2 hgn1_2 hgn3_2 hgb1 hgb3)⟩).trans ((heq61 x (zx_X16_part_22 hx1 hx2 hgn3_1 hgn3_2 hgb3)).trans ((heq50 x (zx_X16_part_21 hx1 hx2 hgn3_2 hgb3)).trans ((heq37 x ⟨(zx_X16_part_18 hx1 hx2 hgn3_2 hgb3), (zx_X16_part_20 hx1 hx2 hgn1_1 hgn3_2 hgb1 hgb3)⟩).trans (heq31 x ⟨(zx_X16_part_18 hx1 hx2 hgn3_2 hgb3), (zx_X16_part_19 hx1 hx2 hgn3_2 hgb1 hgb3)⟩))))))
  have ho81_q := zB.o hb38
  have hb39 : zB w71 q Pq := hB_q.ag (fun x hx1 hx2 => ((heq71 x ⟨(zx_X16_part_26 hx1 hx2 hmq hgn3_1 hgb3), (zx_X16_part_28 hx1 hx2 hmq hgb1 hgb3), (zx_X16_part_30 hx1 hx2 hmq hgn1_2 hgb1 hgb3)⟩).trans ((heq61 x (zx_X16_part_26 hx1 hx2 hmq hgn3_1 hgb3)).trans ((heq50 x (zx_X16_part_25 hx1 hx2 hmq hgb3)).trans ((heq37 x ⟨(zx_X16_part_24 hx1 hx2 hmq hgb3), (zx_X16_part_29 hx1 hx2 hmq hgn1_1 hgb1 hgb3)⟩).trans ((heq31 x ⟨(zx_X16_part_24 hx1 hx2 hmq hgb3), (zx_X16_part_28 hx1 hx2 hmq hgb1 hgb3)⟩).trans ((heq25 x ⟨(zx_X16_part_24 hx1 hx2 hmq hgb3), (zx_X16_part_27 hx1 hx2 hmq hgn3_2 hgb3)⟩).trans ((heq19 x ⟨(zx_X16_part_24 hx1 hx2 hmq hgb3), (zx_X16_part_26 hx1 hx2 hmq hgn3_1 hgb3)⟩).trans (heq13 x ⟨(zx_X16_part_24 hx1 hx2 hmq hgb3), (zx_X16_part_25 hx1 hx2 hmq hgb3)⟩)))))))))
  refine zr_callV (idx := 170) (j := 288) (by decide +kernel) (by decide +kernel) (show zMe 288 = some zq_X16_divides from rfl) rfl rfl (Nat.le_of_ble_eq_true rfl) rfl rfl hb36 (Nat.le_of_ble_eq_true rfl) (Nat.le_of_ble_eq_true rfl) (c_X16_divides (w := w71) (g1 := (g 1 + 1 + 1)) (g3 := (g 3 + 1 + 1 + 1)) m (m + 596 + 130 * (g 3 + 1 + 1).toNatClampNeg) q (m + 596 + 130 * (g 3 + 1).toNatClampNeg) hb36 hb37 ho81_q hb39 hp71_0 (by first | omega | decide | assumption | exact zr1_1 | exact zr1_0 | fail "num") (by first | omega | decide | assumption | exact zr1_1 | exact zr1_0 | fail "num") (by first | omega | decide | assumption | exact zr1_1 | exact zr1_0 | fail "num") (by first | omega | decide | assumption | exact zr1_1 | exact zr1_0 | fail "num") (by first | omega | decide | assumption | exact zr1_1 | exact zr1_0 | fail "num") (by first | omega | decide | assumption | exact zr1_1 | exact zr1_0 | fail "num") (by first | omega | decide | assumption | exact zr1_1 | exact zr1_0 | fail "num") (by first | omega | decide | assumption | exact zr1_1 | exact zr1_0 | fail "num") (by first | omega | decide | assumption | exact zr1_1 | exact zr1_0 | fail "num") rfl rfl) (by omega) (fun v81 w81 hp81 => ?_)
  obtain ⟨Q_81, hsi81, heq81, hp81_0, r81, rfl, hrb81, hr81⟩ := hp81
  have kr81 := zrng r81
  show zP _ _ _ _ [.int r81] _ _ _ _ _
  obtain ⟨s9, hs9⟩ := hcr.2.2
  have hsz9 : 0 < zrw s9 := zrw_nz (fun e => by rw [e] at hs9; have h9 := zrw_M0 zbZ (zprim (zbT fd)) (Or.inl zrw_Z); rw [← hs9] at h9; omega)
  have hsd9 := zdn_MM hsz9 (show 0 < zrw (zprim (zbT fd)) by omega)
  rw [← hs9] at hsd9
  have hQ1 := hr81.1 (hr81.2 ⟨s9, hs9, fun i => Nat.le_trans (zdn_le s9 i) (by omega)⟩)
  have hQz1 : 0 < zrw Q_81 := zrw_nz (fun e => by rw [e] at hQ1; have h9 := zrw_M0 zbZ (zprim (zbT fd)) (Or.inl zrw_Z); rw [← hQ1] at h9; omega)
  have hQd1 := zdn_MM hQz1 (show 0 < zrw (zprim (zbT fd)) by omega)
  have hQr1 := (zrw_M hQz1 (show 0 < zrw (zprim (zbT fd)) by omega)).1
  rw [← hQ1] at hQd1 hQr1
  have hur9 := (zrw_M hcr.1.2.2.1 hQz1).1
  have hud9 := zdn_M (zbT fn) Q_81
  have hlq9 := zdn_le Pq (zrw Pq - 1)
  have hlz9 := zln_nz (zrw_hd hcr.2.1.1)
  have hdl9 := zln_M (p := zcont (zbT fd)) (q := Pq.1 (zrw Pq - 1)) (by omega) (by omega)
  have huz9 := zcont_nz (q := zbM (zbT fn) Q_81) (by omega)
  have huc9 := zcont_le (zbM (zbT fn) Q_81)
  have hgg9 := zgcd_le1 (p := zcont (zbM (zbT fn) Q_81)) (q := zaM (zcont (zbT fd)) (Pq.1 (zrw Pq - 1))) (by omega)
  have hgg8 := zgcd_le2 (p := zcont (zbM (zbT fn) Q_81)) (q := zaM (zcont (zbT fd)) (Pq.1 (zrw Pq - 1))) (by omega)
  have hgdv9 : ∀ j, zdv (zgcd (zcont (zbM (zbT fn) Q_81)) (zaM (zcont (zbT fd)) (Pq.1 (zrw Pq - 1)))) ((zbM (zbT fn) Q_81).1 j) := fun j => zdv_tr (zgcd_ok _ _).1 (zcont_dv _ j)
  have hqq9 := zquo_ln (p := zaM (zcont (zbT fd)) (Pq.1 (zrw Pq - 1))) (d := zgcd (zcont (zbM (zbT fn) Q_81)) (zaM (zcont (zbT fd)) (Pq.1 (zrw Pq - 1)))) hgg9.1
  have hbr9 := zbQ_rw hgg9.1 hgdv9
  have hbd9 := zbQ_dn (zbM (zbT fn) Q_81) (zgcd (zcont (zbM (zbT fn) Q_81)) (zaM (zcont (zbT fd)) (Pq.1 (zrw Pq - 1))))
  refine zp_seg (pc' := 92) (lv' := [(12, .int r81), (11, .ref (m + 276 + 2 * (g 1 + 1).toNatClampNeg)), (10, .ref (m + 276 + 2 * (g 1).toNatClampNeg)), (9, .ref (m + 596 + 130 * (g 3 + 1 + 1).toNatClampNeg)), (8, .ref (m + 596 + 130 * (g 3 + 1).toNatClampNeg)), (7, .ref (m + 596 + 130 * (g 3).toNatClampNeg)), (6, .int (g 1)), (5, .int (g 3)), (0, .ref m), (1, .ref up), (2, .ref down), (3, .int i9), (4, .ref q)]) (st' := [.ref (m + 596 + 130 * (g 3 + 1 + 1).toNatClampNeg), .ref (m + 596 + 130 * (g 3).toNatClampNeg), .ref up, .ref m]) [(84, .istore 12), (86, .aload_n 0), (87, .aload_n 1), (88, .aload 7), (90, .aload 9)] (by decide +kernel) rfl ?_
  have hb40 : w81 m = some (.inl (15, zMo m (zs (zs g 1 (g 1 + 1 + 1)) 3 (g 3 + 1 + 1 + 1)) r)) := (heq81 m ⟨(zx_X16_part_31 hgn3_2 hgb3), (zx_X16_part_17 hgn1_2 hgb1), (zx_X16_part_32 hgn3_3 hgb3)⟩).trans hb36
  have hb41 := hb37.si hsi81
  have hb42 := hBo_up.si ((((((((hsi13.tr hsi19).tr hsi25).tr hsi31).tr hsi37).tr hsi50).tr hsi61).tr hsi71).tr hsi81)
  have hb43 : zB w81 (m + 596 + 130 * (g 3).toNatClampNeg) (zbT fn) := hp50_0.ag (fun x hx1 hx2 => ((heq81 x ⟨(zx_X16_part_2 hx1 hx2 hgn3_2 hgb3), (zx_X16_part_33 hx1 hx2 hgn1_2 hgb1 hgb3), (zx_X16_part_34 hx1 hx2 hgn3_3 hgb3)⟩).trans ((heq71 x ⟨(zx_X16_part_1 hx1 hx2 hgn3_1 hgb3), (zx_X16_part_3 hx1 hx2 hgb1 hgb3), (zx_X16_part_33 hx1 hx2 hgn1_2 hgb1 hgb3)⟩).trans (heq61 x (zx_X16_part_1 hx1 hx2 hgn3_1 hgb3)))))
  refine zr_callV (idx := 197) (j := 278) (by decide +kernel) (by decide +kernel) (show zMe 278 = some zq_X16_times_ from rfl) rfl rfl (Nat.le_of_ble_eq_true rfl) rfl rfl hb40 (Nat.le_of_ble_eq_true rfl) (Nat.le_of_ble_eq_true rfl) (c_X16_times_ (w := w81) (g1 := (g 1 + 1 + 1)) m up (m + 596 + 130 * (g 3).toNatClampNeg) (m + 596 + 130 * (g 3 + 1 + 1).toNatClampNeg) hb40 hb41 hb42 hb43 hp81_0 (by first | omega | decide | assumption | exact zr1_1 | exact zr1_0 | fail "num") (by first | omega | decide | assumption | exact zr1_1 | exact zr1_0 | fail "num") (by first | omega | decide | assumption | exact zr1_1 | exact zr1_0 | fail "num") (by first | omega | decide | assumption | exact zr1_1 | exact zr1_0 | fail "num") (by first | omega | decide | assumption | exact zr1_1 | exact zr1_0 | fail "num") (by first | omega | decide | assumption | exact zr1_1 | exact zr1_0 | fail "num") (by first | omega | decide | assumption | exact zr1_1 | exact zr1_0 | fail "num") (by first | omega | decide | assumption | exact zr1_1 | exact zr1_0 | fail "num") rfl) (by omega) (fun v92 w92 hp92 => ?_)
  obtain ⟨hsi92, heq92, hp92_0, rfl⟩ := hp92
  show zP _ _ _ _ [] _ _ _ _ _
  refine zp_seg (pc' := 100) (lv' := [(12, .int r81), (11, .ref (m + 276 + 2 * (g 1 + 1).toNatClampNeg)), (10, .ref (m + 276 + 2 * (g 1).toNatClampNeg)), (9, .ref (m + 596 + 130 * (g 3 + 1 + 1).toNatClampNeg)), (8, .ref (m + 596 + 130 * (g 3 + 1).toNatClampNeg)), (7, .ref (m + 596 + 130 * (g 3).toNatClampNeg)), (6, .int (g 1)), (5, .int (g 3)), (0, .ref m), (1, .ref up), (2, .ref down), (3, .int i9), (4, .ref q)]) (st' := [.ref q, .ref (m + 276 + 2 * (g 1).toNatClampNeg), .ref down]) [(95, .aload_n 2), (96, .aload 10), (98, .aload 4)] (by decide +kernel) rfl ?_
  have hb44 : zB w92 q Pq := hb39.ag (fun x hx1 hx2 => ((heq92 x ⟨(zx_X16_part_36 hx1 hx2 huq hmup hmq hgb3), (zx_X16_part_30 hx1 hx2 hmq hgn1_2 hgb1 hgb3)⟩).trans (heq81 x ⟨(zx_X16_part_27 hx1 hx2 hmq hgn3_2 hgb3), (zx_X16_part_30 hx1 hx2 hmq hgn1_2 hgb1 hgb3), (zx_X16_part_35 hx1 hx2 hmq hgn3_3 hgb3)⟩)))
  obtain ⟨n45, hb46, hb47, hb48, hb49, -⟩ := id hb44
  have kn45 := zrng n45
  refine zr_callV (idx := 144) (j := 246) (by decide +kernel) (by decide +kernel) (show zMe 246 = some zq_X12_lead from rfl) rfl rfl (Nat.le_of_ble_eq_true rfl) rfl rfl hb46 (Nat.le_of_ble_eq_true rfl) (Nat.le_of_ble_eq_true rfl) (c_X12_lead (w := w92) q hb44 (by first | omega | decide | assumption | exact zr1_1 | exact zr1_0 | fail "num")) (by omega) (fun v100 w100 hp100 => ?_)
  obtain ⟨hpw100, hp100_0, rfl⟩ := hp100
  replace hpw100 := hpw100.symm
  subst hpw100
  show zP _ _ _ _ [.ref (q + 2 + 2 * (zrw Pq - 1)), .ref (m + 276 + 2 * (g 1).toNatClampNeg), .ref down] _ _ _ _ _
  have hb50 := hUo_down.si (((((((((hsi13.tr hsi19).tr hsi25).tr hsi31).tr hsi37).tr hsi50).tr hsi61).tr hsi71).tr hsi81).tr hsi92)
  have hb51 : zU w92 (m + 276 + 2 * (g 1).toNatClampNeg) 1000 (zcont (zbT fd)) := hp71_1.ag (fun x hx1 hx2 => ((heq92 x ⟨(zx_X16_part_40 hx1 hx2 hmup hgb1 hgb3), (zx_X16_part_38 hx1 hx2 hgn1_2 hgb1)⟩).trans (heq81 x ⟨(zx_X16_part_37 hx1 hx2 hgn3_2 hgb1 hgb3), (zx_X16_part_38 hx1 hx2 hgn1_2 hgb1), (zx_X16_part_39 hx1 hx2 hgn3_3 hgb1 hgb3)⟩)))
  refine zr_callS (idx := 106) (j := 267) (by decide +kernel) (by decide +kernel) (by decide) (show zMe 267 = some zq_X16_times from rfl) rfl rfl (Nat.le_of_ble_eq_true rfl) rfl rfl (Nat.le_of_ble_eq_true rfl) (Nat.le_of_ble_eq_true rfl) (c_X16_times (w := w92) down (m + 276 + 2 * (g 1).toNatClampNeg) (q + 2 + 2 * (zrw Pq - 1)) hb50 hb51 hp100_0 (by first | omega | decide | assumption | exact zr1_1 | exact zr1_0 | fail "num") (by first | omega | decide | assumption | exact zr1_1 | exact zr1_0 | fail "num") (by first | omega | decide | assumption | exact zr1_1 | exact zr1_0 | fail "num") (by first | omega | decide | assumption | exact zr1_1 | exact zr1_0 | fail "num")) (by omega) (fun v103 w103 hp103 => ?_)
  obtain ⟨hsi103, heq103, hp103_0, rfl⟩ := hp103
  show zP _ _ _ _ [] _ _ _ _ _
  refine zp_seg (pc' := 110) (lv' := [(12, .int r81), (11, .ref (m + 276 + 2 * (g 1 + 1).toNatClampNeg)), (10, .ref (m + 276 + 2 * (g 1).toNatClampNeg)), (9, .ref (m + 596 + 130 * (g 3 + 1 + 1).toNatClampNeg)), (8, .ref (m + 596 + 130 * (g 3 + 1).toNatClampNeg)), (7, .ref (m + 596 + 130 * (g 3).toNatClampNeg)), (6, .int (g 1)), (5, .int (g 3)), (0, .ref m), (1, .ref up), (2, .ref down), (3, .int i9), (4, .ref q)]) (st' := [.ref up, .ref (m + 276 + 2 * (g 1 + 1).toNatClampNeg), .ref m]) [(106, .aload_n 0), (107, .aload 11), (109, .aload_n 1)] (by decide +kernel) rfl ?_
  have hb52 : w103 m = some (.inl (15, zMo m (zs (zs g 1 (g 1 + 1 + 1)) 3 (g 3 + 1 + 1 + 1)) r)) := ((heq103 m (zx_X16_part_42 hmd hgb1)).trans (heq92 m ⟨(zx_X16_part_41 hmup hgb3), (zx_X16_part_17 hgn1_2 hgb1)⟩)).trans hb40
  have hb53 := hb41.si (hsi92.tr hsi103)
  have hb54 : zU w103 (m + 276 + 2 * (g 1 + 1).toNatClampNeg) 1000 zaZ := hp37_1.ag (fun x hx1 hx2 => ((heq103 x (zx_X16_part_50 hx1 hx2 hmd hgn1_1 hgb1)).trans ((heq92 x ⟨(zx_X16_part_49 hx1 hx2 hmup hgn1_1 hgb1 hgb3), (zx_X16_part_46 hx1 hx2 hgn1_1 hgn1_2 hgb1)⟩).trans ((heq81 x ⟨(zx_X16_part_47 hx1 hx2 hgn1_1 hgn3_2 hgb1 hgb3), (zx_X16_part_46 hx1 hx2 hgn1_1 hgn1_2 hgb1), (zx_X16_part_48 hx1 hx2 hgn1_1 hgn3_3 hgb1 hgb3)⟩).trans ((heq71 x ⟨(zx_X16_part_44 hx1 hx2 hgn1_1 hgn3_1 hgb1 hgb3), (zx_X16_part_45 hx1 hx2 hgn1_1 hgb1), (zx_X16_part_46 hx1 hx2 hgn1_1 hgn1_2 hgb1)⟩).trans ((heq61 x (zx_X16_part_44 hx1 hx2 hgn1_1 hgn3_1 hgb1 hgb3)).trans (heq50 x (zx_X16_part_43 hx1 hx2 hgn1_1 hgb1 hgb3))))))))
  have ho110_to := zU.o hb54
  have hb55 : zB w103 up (zbM (zbT fn) Q_81) := hp92_0.ag (fun x hx1 hx2 => (heq103 x (zx_X16_part_51 hx1 hx2 hmup hmd hgb1 hgb3)))
  refine zr_callV (idx := 128) (j := 284) (by decide +kernel) (by decide +kernel) (show zMe 284 = some zq_X16_content from rfl) rfl rfl (Nat.le_of_ble_eq_true rfl) rfl rfl hb52 (Nat.le_of_ble_eq_true rfl) (Nat.le_of_ble_eq_true rfl) (c_X16_content (w := w103) (g1 := (g 1 + 1 + 1)) m (m + 276 + 2 * (g 1 + 1).toNatClampNeg) up hb52 hb53 ho110_to hb55 (by first | omega | decide | assumption | exact zr1_1 | exact zr1_0 | fail "num") (by first | omega | decide | assumption | exact zr1_1 | exact zr1_0 | fail "num") (by first | omega | decide | assumption | exact zr1_1 | exact zr1_0 | fail "num") (by first | omega | decide | assumption | exact zr1_1 | exact zr1_0 | fail "num") (by first | omega | decide | assumption | exact zr1_1 | exact zr1_0 | fail "num") rfl) (by omega) (fun v110 w110 hp110 => ?_)
  obtain ⟨hsi110, heq110, hp110_0, rfl⟩ := hp110
  show zP _ _ _ _ [] _ _ _ _ _
  refine zp_seg (pc' := 119) (lv' := [(12, .int r81), (11, .ref (m + 276 + 2 * (g 1 + 1).toNatClampNeg)), (10, .ref (m + 276 + 2 * (g 1).toNatClampNeg)), (9, .ref (m + 596 + 130 * (g 3 + 1 + 1).toNatClampNeg)), (8, .ref (m + 596 + 130 * (g 3 + 1).toNatClampNeg)), (7, .ref (m + 596 + 130 * (g 3).toNatClampNeg)), (6, .int (g 1)), (5, .int (g 3)), (0, .ref m), (1, .ref up), (2, .ref down), (3, .int i9), (4, .ref q)]) (st' := [.ref down, .ref (m + 276 + 2 * (g 1 + 1).toNatClampNeg), .ref (m + 276 + 2 * (g 1 + 1).toNatClampNeg), .ref m]) [(113, .aload_n 0), (114, .aload 11), (116, .aload 11), (118, .aload_n 2)] (by decide +kernel) rfl ?_
  have hb56 : w110 m = some (.inl (15, zMo m (zs (zs g 1 (g 1 + 1 + 1)) 3 (g 3 + 1 + 1 + 1)) r)) := (heq110 m ⟨(zx_X16_part_52 hgn1_1 hgb1), (zx_X16_part_17 hgn1_2 hgb1)⟩).trans hb52
  have hb57 := hb53.si hsi110
  have ho119_to := zU.o hp110_0
  have hb58 : zU w110 down 1000 (zaM (zcont (zbT fd)) (Pq.1 (zrw Pq - 1))) := hp103_0.ag (fun x hx1 hx2 => (heq110 x ⟨(zx_X16_part_53 hx1 hx2 hmd hgn1_1 hgb1), (zx_X16_part_54 hx1 hx2 hmd hgn1_2 hgb1)⟩))
  refine zr_callV (idx := 125) (j := 270) (by decide +kernel) (by decide +kernel) (show zMe 270 = some zq_X16_gcd from rfl) rfl rfl (Nat.le_of_ble_eq_true rfl) rfl rfl hb56 (Nat.le_of_ble_eq_true rfl) (Nat.le_of_ble_eq_true rfl) (c_X16_gcd (w := w110) (g1 := (g 1 + 1 + 1)) m (m + 276 + 2 * (g 1 + 1).toNatClampNeg) (m + 276 + 2 * (g 1 + 1).toNatClampNeg) down hb56 hb57 ho119_to hp110_0 hb58 (by first | omega | decide | assumption | exact zr1_1 | exact zr1_0 | fail "num") (by first | omega | decide | assumption | exact zr1_1 | exact zr1_0 | fail "num") (by first | omega | decide | assumption | exact zr1_1 | exact zr1_0 | fail "num") (by first | omega | decide | assumption | exact zr1_1 | exact zr1_0 | fail "num") (by first | omega | decide | assumption | exact zr1_1 | exact zr1_0 | fail "num") (by first | omega | decide | assumption | exact zr1_1 | exact zr1_0 | fail "num") (by first | omega | decide | assumption | exact zr1_1 | exact zr1_0 | fail "num") rfl) (by omega) (fun v119 w119 hp119 => ?_)
  obtain ⟨hsi119, heq119, hp119_0, rfl⟩ := hp119
  show zP _ _ _ _ [] _ _ _ _ _
  refine zp_seg (pc' := 127) (lv' := [(12, .int r81), (11, .ref (m + 276 + 2 * (g 1 + 1).toNatClampNeg)), (10, .ref (m + 276 + 2 * (g 1).toNatClampNeg)), (9, .ref (m + 596 + 130 * (g 3 + 1 + 1).toNatClampNeg)), (8, .ref (m + 596 + 130 * (g 3 + 1).toNatClampNeg)), (7, .ref (m + 596 + 130 * (g 3).toNatClampNeg)), (6, .int (g 1)), (5, .int (g 3)), (0, .ref m), (1, .ref up), (2, .ref down), (3, .int i9), (4, .ref q)]) (st' := [.ref (m + 276 + 2 * (g 1 + 1).toNatClampNeg), .ref up, .ref up, .ref m]) [(122, .aload_n 0), (123, .aload_n 1), (124, .aload_n 1), (125, .aload 11)] (by decide +kernel) rfl ?_
  have hb59 : w119 m = some (.inl (15, zMo m (zs (zs g 1 (g 1 + 1 + 1)) 3 (g 3 + 1 + 1 + 1)) r)) := (heq119 m ⟨(zx_X16_part_52 hgn1_1 hgb1), (zx_X16_part_17 hgn1_2 hgb1)⟩).trans hb56
  have hb60 := hb57.si hsi119
  have hb61 : zB w119 up (zbM (zbT fn) Q_81) := hb55.ag (fun x hx1 hx2 => ((heq119 x ⟨(zx_X16_part_55 hx1 hx2 hmup hgn1_1 hgb1 hgb3), (zx_X16_part_56 hx1 hx2 hmup hgn1_2 hgb1 hgb3)⟩).trans (heq110 x ⟨(zx_X16_part_55 hx1 hx2 hmup hgn1_1 hgb1 hgb3), (zx_X16_part_56 hx1 hx2 hmup hgn1_2 hgb1 hgb3)⟩)))
  have ho127_to := zB.o hb61
  refine zr_callV (idx := 132) (j := 280) (by decide +kernel) (by decide +kernel) (show zMe 280 = some zq_X16_byU from rfl) rfl rfl (Nat.le_of_ble_eq_true rfl) rfl rfl hb59 (Nat.le_of_ble_eq_true rfl) (Nat.le_of_ble_eq_true rfl) (c_X16_byU (w := w119) (g1 := (g 1 + 1 + 1)) m up up (m + 276 + 2 * (g 1 + 1).toNatClampNeg) hb59 hb60 ho127_to hb61 hp119_0 (by first | omega | decide | assumption | exact zr1_1 | exact zr1_0 | fail "num") (by first | omega | decide | assumption | exact zr1_1 | exact zr1_0 | fail "num") (by first | omega | decide | assumption | exact zr1_1 | exact zr1_0 | fail "num") (by first | omega | decide | assumption | exact zr1_1 | exact zr1_0 | fail "num") (by first | omega | decide | assumption | exact zr1_1 | exact zr1_0 | fail "num") (by first | omega | decide | assumption | exact zr1_1 | exact zr1_0 | fail "num") (by exact fun _ => hgg9.1) (by exact hgdv9) (by first | omega | decide | assumption | exact zr1_1 | exact zr1_0 | fail "num") rfl) (by omega) (fun v127 w127 hp127 => ?_)
  obtain ⟨hsi127, heq127, hp127_0, rfl⟩ := hp127
  show zP _ _ _ _ [] _ _ _ _ _
  refine zp_seg (pc' := 135) (lv' := [(12, .int r81), (11, .ref (m + 276 + 2 * (g 1 + 1).toNatClampNeg)), (10, .ref (m + 276 + 2 * (g 1).toNatClampNeg)), (9, .ref (m + 596 + 130 * (g 3 + 1 + 1).toNatClampNeg)), (8, .ref (m + 596 + 130 * (g 3 + 1).toNatClampNeg)), (7, .ref (m + 596 + 130 * (g 3).toNatClampNeg)), (6, .int (g 1)), (5, .int (g 3)), (0, .ref m), (1, .ref up), (2, .ref down), (3, .int i9), (4, .ref q)]) (st' := [.ref (m + 276 + 2 * (g 1 + 1).toNatClampNeg), .ref down, .ref down, .ref m]) [(130, .aload_n 0), (131, .aload_n 2), (132, .aload_n 2), (133, .aload 11)] (by decide +kernel) rfl ?_
  have hb62 : w127 m = some (.inl (15, zMo m (zs (zs g 1 (g 1 + 1 + 1)) 3 (g 3 + 1 + 1 + 1)) r)) := (heq127 m ⟨(zx_X16_part_41 hmup hgb3), (zx_X16_part_17 hgn1_2 hgb1)⟩).trans hb59
  have hb63 := hb60.si hsi127
  have hb64 : zU w127 down 1000 (zaM (zcont (zbT fd)) (Pq.1 (zrw Pq - 1))) := hb58.ag (fun x hx1 hx2 => ((heq127 x ⟨(zx_X16_part_57 hx1 hx2 hmup hmd hgb1 hgb3), (zx_X16_part_54 hx1 hx2 hmd hgn1_2 hgb1)⟩).trans (heq119 x ⟨(zx_X16_part_53 hx1 hx2 hmd hgn1_1 hgb1), (zx_X16_part_54 hx1 hx2 hmd hgn1_2 hgb1)⟩)))
  have ho135_to := zU.o hb64
  have hb65 : zU w127 (m + 276 + 2 * (g 1 + 1).toNatClampNeg) 1000 (zgcd (zcont (zbM (zbT fn) Q_81)) (zaM (zcont (zbT fd)) (Pq.1 (zrw Pq - 1)))) := hp119_0.ag (fun x hx1 hx2 => (heq127 x ⟨(zx_X16_part_49 hx1 hx2 hmup hgn1_1 hgb1 hgb3), (zx_X16_part_46 hx1 hx2 hgn1_1 hgn1_2 hgb1)⟩))
  refine zr_callV (idx := 110) (j := 271) (by decide +kernel) (by decide +kernel) (show zMe 271 = some zq_X16_exact from rfl) rfl rfl (Nat.le_of_ble_eq_true rfl) rfl rfl hb62 (Nat.le_of_ble_eq_true rfl) (Nat.le_of_ble_eq_true rfl) (c_X16_exact (w := w127) (g1 := (g 1 + 1 + 1)) m down down (m + 276 + 2 * (g 1 + 1).toNatClampNeg) hb62 hb63 ho135_to hb64 hb65 (by first | omega | decide | assumption | exact zr1_1 | exact zr1_0 | fail "num") (by first | omega | decide | assumption | exact zr1_1 | exact zr1_0 | fail "num") (by first | omega | decide | assumption | exact zr1_1 | exact zr1_0 | fail "num") (by first | omega | decide | assumption | exact zr1_1 | exact zr1_0 | fail "num") (by first | omega | decide | assumption | exact zr1_1 | exact zr1_0 | fail "num") (by first | omega | decide | assumption | exact zr1_1 | exact zr1_0 | fail "num") (by first | omega | decide | assumption | exact zr1_1 | exact zr1_0 | fail "num") (by first | omega | decide | assumption | exact zr1_1 | exact zr1_0 | fail "num") rfl) (by omega) (fun v135 w135 hp135 => ?_)
  obtain ⟨hsi135, heq135, hp135_0, rfl⟩ := hp135
  show zP _ _ _ _ [] _ _ _ _ _
  refine zp_seg (pc' := 141) (lv' := [(12, .int r81), (11, .ref (m + 276 + 2 * (g 1 + 1).toNatClampNeg)), (10, .ref (m + 276 + 2 * (g 1).toNatClampNeg)), (9, .ref (m + 596 + 130 * (g 3 + 1 + 1).toNatClampNeg)), (8, .ref (m + 596 + 130 * (g 3 + 1).toNatClampNeg)), (7, .ref (m + 596 + 130 * (g 3).toNatClampNeg)), (6, .int (g 1)), (5, .int (g 3)), (0, .ref m), (1, .ref up), (2, .ref down), (3, .int i9), (4, .ref q)]) (st' := [.int (g 3), .ref m]) [(138, .aload_n 0), (139, .iload 5)] (by decide +kernel) rfl ?_
  have hb66 : w135 m = some (.inl (15, zMo m (zs (zs g 1 (g 1 + 1 + 1)) 3 (g 3 + 1 + 1 + 1)) r)) := (heq135 m ⟨(zx_X16_part_42 hmd hgb1), (zx_X16_part_17 hgn1_2 hgb1)⟩).trans hb62
  refine zr_put2 (idx := 90) (k := 3) (fs2 := zMo m (zs g 1 (g 1 + 1 + 1)) r) (by decide +kernel) (by decide +kernel) hb66 (Nat.le_of_ble_eq_true rfl) rfl rfl rfl ?_
  show zP (d + 1) zq_X16_part 144 [(12, .int r81), (11, .ref (m + 276 + 2 * (g 1 + 1).toNatClampNeg)), (10, .ref (m + 276 + 2 * (g 1).toNatClampNeg)), (9, .ref (m + 596 + 130 * (g 3 + 1 + 1).toNatClampNeg)), (8, .ref (m + 596 + 130 * (g 3 + 1).toNatClampNeg)), (7, .ref (m + 596 + 130 * (g 3).toNatClampNeg)), (6, .int (g 1)), (5, .int (g 3)), (0, .ref m), (1, .ref up), (2, .ref down), (3, .int i9), (4, .ref q)] [] (zup w135 m (.inl (15, zMo m (zs g 1 (g 1 + 1 + 1)) r))) sz 0 0 Post
  obtain ⟨w141, ew141⟩ : ∃ wz9, wz9 = zup w135 m (.inl (15, zMo m (zs g 1 (g 1 + 1 + 1)) r)) := ⟨_, rfl⟩
  have hsi141 : zSI w135 w141 := by rw [ew141]; exact zSI.setG hb66 _ _
  have heq141 : ∀ x, x ≠ m → w141 x = w135 x := fun x hx => by rw [ew141]; exact zup_n hx
  have hc141 : w141 m = some (.inl (15, zMo m (zs g 1 (g 1 + 1 + 1)) r)) := by rw [ew141]; exact zup_s
  rw [← ew141]
  clear ew141
  refine zp_seg (pc' := 147) (lv' := [(12, .int r81), (11, .ref (m + 276 + 2 * (g 1 + 1).toNatClampNeg)), (10, .ref (m + 276 + 2 * (g 1).toNatClampNeg)), (9, .ref (m + 596 + 130 * (g 3 + 1 + 1).toNatClampNeg)), (8, .ref (m + 596 + 130 * (g 3 + 1).toNatClampNeg)), (7, .ref (m + 596 + 130 * (g 3).toNatClampNeg)), (6, .int (g 1)), (5, .int (g 3)), (0, .ref m), (1, .ref up), (2, .ref down), (3, .int i9), (4, .ref q)]) (st' := [.int (g 1), .ref m]) [(144, .aload_n 0), (145, .iload 6)] (by decide +kernel) rfl ?_
  refine zr_put2 (idx := 21) (k := 1) (fs2 := zMo m g r) (by decide +kernel) (by decide +kernel) hc141 (Nat.le_of_ble_eq_true rfl) rfl rfl rfl ?_
  show zP (d + 1) zq_X16_part 150 [(12, .int r81), (11, .ref (m + 276 + 2 * (g 1 + 1).toNatClampNeg)), (10, .ref (m + 276 + 2 * (g 1).toNatClampNeg)), (9, .ref (m + 596 + 130 * (g 3 + 1 + 1).toNatClampNeg)), (8, .ref (m + 596 + 130 * (g 3 + 1).toNatClampNeg)), (7, .ref (m + 596 + 130 * (g 3).toNatClampNeg)), (6, .int (g 1)), (5, .int (g 3)), (0, .ref m), (1, .ref up), (2, .ref down), (3, .int i9), (4, .ref q)] [] (zup w141 m (.inl (15, zMo m g r))) sz 0 0 Post
  obtain ⟨w147, ew147⟩ : ∃ wz9, wz9 = zup w141 m (.inl (15, zMo m g r)) := ⟨_, rfl⟩
  have hsi147 : zSI w141 w147 := by rw [ew147]; exact zSI.setG hc141 _ _
  have heq147 : ∀ x, x ≠ m → w147 x = w141 x := fun x hx => by rw [ew147]; exact zup_n hx
  have hc147 : w147 m = some (.inl (15, zMo m g r)) := by rw [ew147]; exact zup_s
  rw [← ew147]
  clear ew147
  refine zp_seg (pc' := 151) (lv' := [(12, .int r81), (11, .ref (m + 276 + 2 * (g 1 + 1).toNatClampNeg)), (10, .ref (m + 276 + 2 * (g 1).toNatClampNeg)), (9, .ref (m + 596 + 130 * (g 3 + 1 + 1).toNatClampNeg)), (8, .ref (m + 596 + 130 * (g 3 + 1).toNatClampNeg)), (7, .ref (m + 596 + 130 * (g 3).toNatClampNeg)), (6, .int (g 1)), (5, .int (g 3)), (0, .ref m), (1, .ref up), (2, .ref down), (3, .int i9), (4, .ref q)]) (st' := [.ref up]) [(150, .aload_n 1)] (by decide +kernel) rfl ?_
  obtain ⟨n67, hb68, hb69, hb70, hb71, -⟩ := id hp127_0
  have kn67 := zrng n67
  have hb72 : w147 up = some (.inl (11, [.ref (up + 1), .int n67])) := ((heq147 up (zx_X16_part_60 hmup hgb3)).trans ((heq141 up (zx_X16_part_60 hmup hgb3)).trans (heq135 up ⟨(zx_X16_part_58 hmup hmd hgb1 hgb3), (zx_X16_part_59 hmup hgn1_2 hgb1 hgb3)⟩))).trans hb68
  refine zr_get (idx := 93) (k := 1) (v := .int n67) (by decide +kernel) (by decide +kernel) hb72 rfl ?_
  refine zp_seg (pc' := 156) (lv' := [(12, .int r81), (11, .ref (m + 276 + 2 * (g 1 + 1).toNatClampNeg)), (10, .ref (m + 276 + 2 * (g 1).toNatClampNeg)), (9, .ref (m + 596 + 130 * (g 3 + 1 + 1).toNatClampNeg)), (8, .ref (m + 596 + 130 * (g 3 + 1).toNatClampNeg)), (7, .ref (m + 596 + 130 * (g 3).toNatClampNeg)), (6, .int (g 1)), (5, .int (g 3)), (0, .ref m), (1, .ref up), (2, .ref down), (3, .int i9), (4, .ref q)]) (st' := [.int 9, .int n67]) [(154, .bipush 9)] (by decide +kernel) rfl ?_
  have hJ182 : ∀ (z0_182 : Int32), ((z0_182 = 0 ∨ z0_182 = 1)) → (z0_182 = 1 → zrw (zbQ (zbM (zbT fn) Q_81) (zgcd (zcont (zbM (zbT fn) Q_81)) (zaM (zcont (zbT fd)) (Pq.1 (zrw Pq - 1))))) ≤ 9 ∧ zdn (zbQ (zbM (zbT fn) Q_81) (zgcd (zcont (zbM (zbT fn) Q_81)) (zaM (zcont (zbT fd)) (Pq.1 (zrw Pq - 1))))) ≤ 12 ∧ zln (zquo (zaM (zcont (zbT fd)) (Pq.1 (zrw Pq - 1))) (zgcd (zcont (zbM (zbT fn) Q_81)) (zaM (zcont (zbT fd)) (Pq.1 (zrw Pq - 1))))) ≤ 13) → zP (d + 1) zq_X16_part 182 [] [.int z0_182] w147 sz 0 0 Post := by
    intro z0_182 hi182_0 hfin9
    have kz0_182 := zrng z0_182
    have hmend : w147 m = w m := by rw [hc147, hm]
    have hoffend : ∀ x, (x < up ∨ up + 130 ≤ x) ∧ (x < down ∨ down + 2 ≤ x) ∧ (x < m + 276 + 2 * (g 1).toNatClampNeg ∨ m + 276 + 2 * (g 1).toNatClampNeg + (320 - 2 * (g 1).toNatClampNeg) ≤ x) ∧ (x < m + 596 + 130 * (g 3).toNatClampNeg ∨ m + 596 + 130 * (g 3).toNatClampNeg + (5720 - 130 * (g 3).toNatClampNeg) ≤ x) → w147 x = w x := fun x hx => by
        by_cases ex : x = m
        · rw [ex]; exact hmend
        · exact ((heq147 x ex).trans ((heq141 x ex).trans ((heq135 x ⟨hx.2.1, (zx_X16_part_67 hx.2.2.1 hgn1_2 hgb1)⟩).trans ((heq127 x ⟨hx.1, (zx_X16_part_67 hx.2.2.1 hgn1_2 hgb1)⟩).trans ((heq119 x ⟨(zx_X16_part_66 hx.2.2.1 hgn1_1 hgb1), (zx_X16_part_67 hx.2.2.1 hgn1_2 hgb1)⟩).trans ((heq110 x ⟨(zx_X16_part_66 hx.2.2.1 hgn1_1 hgb1), (zx_X16_part_67 hx.2.2.1 hgn1_2 hgb1)⟩).trans ((heq103 x hx.2.1).trans ((heq92 x ⟨hx.1, (zx_X16_part_67 hx.2.2.1 hgn1_2 hgb1)⟩).trans ((heq81 x ⟨(zx_X16_part_64 hx.2.2.2 hgn3_2 hgb3), (zx_X16_part_67 hx.2.2.1 hgn1_2 hgb1), (zx_X16_part_68 hx.2.2.2 hgn3_3 hgb3)⟩).trans ((heq71 x ⟨(zx_X16_part_63 hx.2.2.2 hgn3_1 hgb3), (zx_X16_part_65 hx.2.2.1 hgb1), (zx_X16_part_67 hx.2.2.1 hgn1_2 hgb1)⟩).trans ((heq61 x (zx_X16_part_63 hx.2.2.2 hgn3_1 hgb3)).trans ((heq50 x (zx_X16_part_62 hx.2.2.2 hgb3)).trans ((heq37 x ⟨(zx_X16_part_61 ex), (zx_X16_part_66 hx.2.2.1 hgn1_1 hgb1)⟩).trans ((heq31 x ⟨(zx_X16_part_61 ex), (zx_X16_part_65 hx.2.2.1 hgb1)⟩).trans ((heq25 x ⟨(zx_X16_part_61 ex), (zx_X16_part_64 hx.2.2.2 hgn3_2 hgb3)⟩).trans ((heq19 x ⟨(zx_X16_part_61 ex), (zx_X16_part_63 hx.2.2.2 hgn3_1 hgb3)⟩).trans (heq13 x ⟨(zx_X16_part_61 ex), (zx_X16_part_62 hx.2.2.2 hgb3)⟩)))))))))))))))))
    have hb73 : zB w147 up (zbQ (zbM (zbT fn) Q_81) (zgcd (zcont (zbM (zbT fn) Q_81)) (zaM (zcont (zbT fd)) (Pq.1 (zrw Pq - 1))))) := hp127_0.ag (fun x hx1 hx2 => ((heq147 x (zx_X16_part_69 hx1 hx2 hmup hgb3)).trans ((heq141 x (zx_X16_part_69 hx1 hx2 hmup hgb3)).trans (heq135 x ⟨(zx_X16_part_51 hx1 hx2 hmup hmd hgb1 hgb3), (zx_X16_part_56 hx1 hx2 hmup hgn1_2 hgb1 hgb3)⟩))))
    have hb74 : zU w147 down 1000 (zquo (zaM (zcont (zbT fd)) (Pq.1 (zrw Pq - 1))) (zgcd (zcont (zbM (zbT fn) Q_81)) (zaM (zcont (zbT fd)) (Pq.1 (zrw Pq - 1))))) := hp135_0.ag (fun x hx1 hx2 => ((heq147 x (zx_X16_part_70 hx1 hx2 hmd hgb1)).trans (heq141 x (zx_X16_part_70 hx1 hx2 hmd hgb1))))
    refine zr_retB (by decide +kernel) rfl hi182_0 ?_
    rw [← hPost]; exact ⟨rfl, _, rfl, (zbQ (zbM (zbT fn) Q_81) (zgcd (zcont (zbM (zbT fn) Q_81)) (zaM (zcont (zbT fd)) (Pq.1 (zrw Pq - 1))))), (zquo (zaM (zcont (zbT fd)) (Pq.1 (zrw Pq - 1))) (zgcd (zcont (zbM (zbT fn) Q_81)) (zaM (zcont (zbT fd)) (Pq.1 (zrw Pq - 1))))), ((((((((((((((((hsi13.tr hsi19).tr hsi25).tr hsi31).tr hsi37).tr hsi50).tr hsi61).tr hsi71).tr hsi81).tr hsi92).tr hsi103).tr hsi110).tr hsi119).tr hsi127).tr hsi135).tr hsi141).tr hsi147), hoffend, (by first | exact hb73 | (have z9 := hb73; simpa using z9)), (by first | exact hb74 | (have z9 := hb74; simpa using z9)), (by
          exact ⟨by omega, by omega⟩), _, rfl, hi182_0, (by
          exact hfin9)⟩
  refine zp_if (i := .if_icmp .gt 25) (c := 9 < n67) (t := 181) (e := 159) (lv' := [(12, .int r81), (11, .ref (m + 276 + 2 * (g 1 + 1).toNatClampNeg)), (10, .ref (m + 276 + 2 * (g 1).toNatClampNeg)), (9, .ref (m + 596 + 130 * (g 3 + 1 + 1).toNatClampNeg)), (8, .ref (m + 596 + 130 * (g 3 + 1).toNatClampNeg)), (7, .ref (m + 596 + 130 * (g 3).toNatClampNeg)), (6, .int (g 1)), (5, .int (g 3)), (0, .ref m), (1, .ref up), (2, .ref down), (3, .int i9), (4, .ref q)]) (st' := []) (by decide +kernel) rfl (fun cc156 => ?_) (fun cc156 => ?_)
  ·
    have f76 := zltI cc156
    rw [show (9 : Int32).toInt = 9 from by decide] at f76
    refine zp_seg (pc' := 182) (lv' := [(12, .int r81), (11, .ref (m + 276 + 2 * (g 1 + 1).toNatClampNeg)), (10, .ref (m + 276 + 2 * (g 1).toNatClampNeg)), (9, .ref (m + 596 + 130 * (g 3 + 1 + 1).toNatClampNeg)), (8, .ref (m + 596 + 130 * (g 3 + 1).toNatClampNeg)), (7, .ref (m + 596 + 130 * (g 3).toNatClampNeg)), (6, .int (g 1)), (5, .int (g 3)), (0, .ref m), (1, .ref up), (2, .ref down), (3, .int i9), (4, .ref q)]) (st' := [.int 0]) [(181, .iconst 0)] (by decide +kernel) rfl ?_
    have hl77 : (0 : Int32).toInt = 0 := by decide
    exact (hJ182 0 (by first | assumption | omega | decide) (by
          first | exact fun e => absurd e (by decide) | exact fun _ => ⟨by omega, by omega, by omega⟩)).more (zfa0)
  ·
    have f79 := znltI cc156
    rw [show (9 : Int32).toInt = 9 from by decide] at f79
    refine zp_seg (pc' := 160) (lv' := [(12, .int r81), (11, .ref (m + 276 + 2 * (g 1 + 1).toNatClampNeg)), (10, .ref (m + 276 + 2 * (g 1).toNatClampNeg)), (9, .ref (m + 596 + 130 * (g 3 + 1 + 1).toNatClampNeg)), (8, .ref (m + 596 + 130 * (g 3 + 1).toNatClampNeg)), (7, .ref (m + 596 + 130 * (g 3).toNatClampNeg)), (6, .int (g 1)), (5, .int (g 3)), (0, .ref m), (1, .ref up), (2, .ref down), (3, .int i9), (4, .ref q)]) (st' := [.ref up]) [(159, .aload_n 1)] (by decide +kernel) rfl ?_
    have hb80 : zB w147 up (zbQ (zbM (zbT fn) Q_81) (zgcd (zcont (zbM (zbT fn) Q_81)) (zaM (zcont (zbT fd)) (Pq.1 (zrw Pq - 1))))) := hp127_0.ag (fun x hx1 hx2 => ((heq147 x (zx_X16_part_69 hx1 hx2 hmup hgb3)).trans ((heq141 x (zx_X16_part_69 hx1 hx2 hmup hgb3)).trans (heq135 x ⟨(zx_X16_part_51 hx1 hx2 hmup hmd hgb1 hgb3), (zx_X16_part_56 hx1 hx2 hmup hgn1_2 hgb1 hgb3)⟩))))
    refine zr_callV (idx := 119) (j := 248) (by decide +kernel) (by decide +kernel) (show zMe 248 = some zq_X12_degreeN from rfl) rfl rfl (Nat.le_of_ble_eq_true rfl) rfl rfl hb72 (Nat.le_of_ble_eq_true rfl) (Nat.le_of_ble_eq_true rfl) (c_X12_degreeN (w := w147) up hb80) (by omega) (fun v160 w160 hp160 => ?_)
    obtain ⟨hpw160, r160, rfl, hr160⟩ := hp160
    replace hpw160 := hpw160.symm
    subst hpw160
    have kr160 := zrng r160
    show zP _ _ _ _ [.int r160] _ _ _ _ _
    refine zp_seg (pc' := 165) (lv' := [(12, .int r81), (11, .ref (m + 276 + 2 * (g 1 + 1).toNatClampNeg)), (10, .ref (m + 276 + 2 * (g 1).toNatClampNeg)), (9, .ref (m + 596 + 130 * (g 3 + 1 + 1).toNatClampNeg)), (8, .ref (m + 596 + 130 * (g 3 + 1).toNatClampNeg)), (7, .ref (m + 596 + 130 * (g 3).toNatClampNeg)), (6, .int (g 1)), (5, .int (g 3)), (0, .ref m), (1, .ref up), (2, .ref down), (3, .int i9), (4, .ref q)]) (st' := [.int 12, .int r160]) [(163, .bipush 12)] (by decide +kernel) rfl ?_
    refine zp_if (i := .if_icmp .gt 16) (c := 12 < r160) (t := 181) (e := 168) (lv' := [(12, .int r81), (11, .ref (m + 276 + 2 * (g 1 + 1).toNatClampNeg)), (10, .ref (m + 276 + 2 * (g 1).toNatClampNeg)), (9, .ref (m + 596 + 130 * (g 3 + 1 + 1).toNatClampNeg)), (8, .ref (m + 596 + 130 * (g 3 + 1).toNatClampNeg)), (7, .ref (m + 596 + 130 * (g 3).toNatClampNeg)), (6, .int (g 1)), (5, .int (g 3)), (0, .ref m), (1, .ref up), (2, .ref down), (3, .int i9), (4, .ref q)]) (st' := []) (by decide +kernel) rfl (fun cc165 => ?_) (fun cc165 => ?_)
    ·
      have f82 := zltI cc165
      rw [show (12 : Int32).toInt = 12 from by decide] at f82
      refine zp_seg (pc' := 182) (lv' := [(12, .int r81), (11, .ref (m + 276 + 2 * (g 1 + 1).toNatClampNeg)), (10, .ref (m + 276 + 2 * (g 1).toNatClampNeg)), (9, .ref (m + 596 + 130 * (g 3 + 1 + 1).toNatClampNeg)), (8, .ref (m + 596 + 130 * (g 3 + 1).toNatClampNeg)), (7, .ref (m + 596 + 130 * (g 3).toNatClampNeg)), (6, .int (g 1)), (5, .int (g 3)), (0, .ref m), (1, .ref up), (2, .ref down), (3, .int i9), (4, .ref q)]) (st' := [.int 0]) [(181, .iconst 0)] (by decide +kernel) rfl ?_
      have hl83 : (0 : Int32).toInt = 0 := by decide
      exact (hJ182 0 (by first | assumption | omega | decide) (by
            first | exact fun e => absurd e (by decide) | exact fun _ => ⟨by omega, by omega, by omega⟩)).more (zfa0)
    ·
      have f85 := znltI cc165
      rw [show (12 : Int32).toInt = 12 from by decide] at f85
      refine zp_seg (pc' := 169) (lv' := [(12, .int r81), (11, .ref (m + 276 + 2 * (g 1 + 1).toNatClampNeg)), (10, .ref (m + 276 + 2 * (g 1).toNatClampNeg)), (9, .ref (m + 596 + 130 * (g 3 + 1 + 1).toNatClampNeg)), (8, .ref (m + 596 + 130 * (g 3 + 1).toNatClampNeg)), (7, .ref (m + 596 + 130 * (g 3).toNatClampNeg)), (6, .int (g 1)), (5, .int (g 3)), (0, .ref m), (1, .ref up), (2, .ref down), (3, .int i9), (4, .ref q)]) (st' := [.ref down]) [(168, .aload_n 2)] (by decide +kernel) rfl ?_
      obtain ⟨n86, f87, hu88, hu89, hu90, hu91, hu92⟩ := id hp135_0
      have kn86 := zrng n86
      have hb93 : w147 down = some (.inl (14, [.ref (down + 1), .int n86])) := ((heq147 down (zx_X16_part_71 hmd hgb1)).trans (heq141 down (zx_X16_part_71 hmd hgb1))).trans hu88
      refine zr_get (idx := 25) (k := 1) (v := .int n86) (by decide +kernel) (by decide +kernel) hb93 rfl ?_
      refine zp_seg (pc' := 174) (lv' := [(12, .int r81), (11, .ref (m + 276 + 2 * (g 1 + 1).toNatClampNeg)), (10, .ref (m + 276 + 2 * (g 1).toNatClampNeg)), (9, .ref (m + 596 + 130 * (g 3 + 1 + 1).toNatClampNeg)), (8, .ref (m + 596 + 130 * (g 3 + 1).toNatClampNeg)), (7, .ref (m + 596 + 130 * (g 3).toNatClampNeg)), (6, .int (g 1)), (5, .int (g 3)), (0, .ref m), (1, .ref up), (2, .ref down), (3, .int i9), (4, .ref q)]) (st' := [.int 13, .int n86]) [(172, .bipush 13)] (by decide +kernel) rfl ?_
      refine zp_if (i := .if_icmp .gt 7) (c := 13 < n86) (t := 181) (e := 177) (lv' := [(12, .int r81), (11, .ref (m + 276 + 2 * (g 1 + 1).toNatClampNeg)), (10, .ref (m + 276 + 2 * (g 1).toNatClampNeg)), (9, .ref (m + 596 + 130 * (g 3 + 1 + 1).toNatClampNeg)), (8, .ref (m + 596 + 130 * (g 3 + 1).toNatClampNeg)), (7, .ref (m + 596 + 130 * (g 3).toNatClampNeg)), (6, .int (g 1)), (5, .int (g 3)), (0, .ref m), (1, .ref up), (2, .ref down), (3, .int i9), (4, .ref q)]) (st' := []) (by decide +kernel) rfl (fun cc174 => ?_) (fun cc174 => ?_)
      ·
        have f95 := zltI cc174
        rw [show (13 : Int32).toInt = 13 from by decide] at f95
        refine zp_seg (pc' := 182) (lv' := [(12, .int r81), (11, .ref (m + 276 + 2 * (g 1 + 1).toNatClampNeg)), (10, .ref (m + 276 + 2 * (g 1).toNatClampNeg)), (9, .ref (m + 596 + 130 * (g 3 + 1 + 1).toNatClampNeg)), (8, .ref (m + 596 + 130 * (g 3 + 1).toNatClampNeg)), (7, .ref (m + 596 + 130 * (g 3).toNatClampNeg)), (6, .int (g 1)), (5, .int (g 3)), (0, .ref m), (1, .ref up), (2, .ref down), (3, .int i9), (4, .ref q)]) (st' := [.int 0]) [(181, .iconst 0)] (by decide +kernel) rfl ?_
        have hl96 : (0 : Int32).toInt = 0 := by decide
        exact (hJ182 0 (by first | assumption | omega | decide) (by
              first | exact fun e => absurd e (by decide) | exact fun _ => ⟨by omega, by omega, by omega⟩)).more (zfa0)
      ·
        have f98 := znltI cc174
        rw [show (13 : Int32).toInt = 13 from by decide] at f98
        refine zp_seg (pc' := 182) (lv' := [(12, .int r81), (11, .ref (m + 276 + 2 * (g 1 + 1).toNatClampNeg)), (10, .ref (m + 276 + 2 * (g 1).toNatClampNeg)), (9, .ref (m + 596 + 130 * (g 3 + 1 + 1).toNatClampNeg)), (8, .ref (m + 596 + 130 * (g 3 + 1).toNatClampNeg)), (7, .ref (m + 596 + 130 * (g 3).toNatClampNeg)), (6, .int (g 1)), (5, .int (g 3)), (0, .ref m), (1, .ref up), (2, .ref down), (3, .int i9), (4, .ref q)]) (st' := [.int 1]) [(177, .iconst 1), (178, .goto 4)] (by decide +kernel) rfl ?_
        have hl99 : (1 : Int32).toInt = 1 := by decide
        exact (hJ182 1 (by first | assumption | omega | decide) (by
              first | exact fun e => absurd e (by decide) | exact fun _ => ⟨by omega, by omega, by omega⟩)).more (zfa0)
