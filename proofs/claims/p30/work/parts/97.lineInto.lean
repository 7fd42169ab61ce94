theorem zx_X16_lineInto_0 {G3_0 m x : Nat} (h0 : m + 596 + 130 * G3_0 ≤ x) (h1 : x < m + 596 + 130 * G3_0 + 130) (h2 : G3_0 + 3 ≤ 44) : x < m ∨ m + 1 ≤ x := by omega
theorem zx_X16_lineInto_1 {G3_0 G3_1 m x : Nat} (h0 : m + 596 + 130 * G3_0 ≤ x) (h1 : x < m + 596 + 130 * G3_0 + 130) (h2 : G3_1 = G3_0 + 1) (h3 : G3_0 + 3 ≤ 44) : x < m + 596 + 130 * G3_1 ∨ m + 596 + 130 * G3_1 + 130 ≤ x := by omega
theorem zx_X16_lineInto_2 {m : Nat}  : (m + 98) < m ∨ m + 1 ≤ (m + 98) := by omega
theorem zx_X16_lineInto_3 {G3_0 m : Nat} (h0 : G3_0 + 3 ≤ 44) : (m + 98) < m + 596 + 130 * G3_0 ∨ m + 596 + 130 * G3_0 + 130 ≤ (m + 98) := by omega
theorem zx_X16_lineInto_4 {G3_0 G3_1 m : Nat} (h0 : G3_1 = G3_0 + 1) (h1 : G3_0 + 3 ≤ 44) : (m + 98) < m + 596 + 130 * G3_1 ∨ m + 596 + 130 * G3_1 + 130 ≤ (m + 98) := by omega
theorem zx_X16_lineInto_5 {G3_0 m : Nat} (h0 : G3_0 + 3 ≤ 44) : (m + 596 + 130 * G3_0) ≠ m + 596 + 130 * G3_0 + 2 + 2 * 0 + 1 := by omega
theorem zx_X16_lineInto_6 {G3_0 m : Nat} (h0 : G3_0 + 3 ≤ 44) : (m + 596 + 130 * G3_0 + 1) ≠ m + 596 + 130 * G3_0 + 2 + 2 * 0 + 1 := by omega
theorem zx_X16_lineInto_7 {G3_0 m : Nat} (h0 : G3_0 + 3 ≤ 44) : (m + 596 + 130 * G3_0 + 2 + 2 * 0) ≠ m + 596 + 130 * G3_0 + 2 + 2 * 0 + 1 := by omega
theorem zx_X16_lineInto_8 {G3_0 m : Nat} (h0 : G3_0 + 3 ≤ 44) : m ≠ m + 596 + 130 * G3_0 + 2 + 2 * 0 + 1 := by omega
theorem zx_X16_lineInto_9 {m : Nat}  : (m + 96) < m ∨ m + 1 ≤ (m + 96) := by omega
theorem zx_X16_lineInto_10 {G3_0 m : Nat} (h0 : G3_0 + 3 ≤ 44) : (m + 96) < m + 596 + 130 * G3_0 ∨ m + 596 + 130 * G3_0 + 130 ≤ (m + 96) := by omega
theorem zx_X16_lineInto_11 {G3_0 G3_1 m : Nat} (h0 : G3_1 = G3_0 + 1) (h1 : G3_0 + 3 ≤ 44) : (m + 96) < m + 596 + 130 * G3_1 ∨ m + 596 + 130 * G3_1 + 130 ≤ (m + 96) := by omega
theorem zx_X16_lineInto_12 {G3_0 m : Nat} (h0 : G3_0 + 3 ≤ 44) : (m + 96) ≠ m + 596 + 130 * G3_0 + 2 + 2 * 0 + 1 := by omega
theorem zx_X16_lineInto_13 {G3_0 m : Nat} (h0 : G3_0 + 3 ≤ 44) : (m + 596 + 130 * G3_0) ≠ m + 596 + 130 * G3_0 + 2 + 2 * 0 := by omega
theorem zx_X16_lineInto_14 {G3_0 m : Nat} (h0 : G3_0 + 3 ≤ 44) : (m + 596 + 130 * G3_0 + 1) ≠ m + 596 + 130 * G3_0 + 2 + 2 * 0 := by omega
theorem zx_X16_lineInto_15 {G3_0 m : Nat} (h0 : G3_0 + 3 ≤ 44) : (m + 596 + 130 * G3_0 + 2 + 2 * 0 + 1) ≠ m + 596 + 130 * G3_0 + 2 + 2 * 0 := by omega
theorem zx_X16_lineInto_16 {G3_0 m : Nat} (h0 : G3_0 + 3 ≤ 44) : (m + 596 + 130 * G3_0) < m + 596 + 130 * G3_0 + 2 + 2 * 0 ∨ m + 596 + 130 * G3_0 + 2 + 2 * 0 + 1 ≤ (m + 596 + 130 * G3_0) := by omega
theorem zx_X16_lineInto_17 {G3_0 m : Nat} (h0 : G3_0 + 3 ≤ 44) : m ≠ m + 596 + 130 * G3_0 + 2 + 2 * 0 := by omega
theorem zx_X16_lineInto_18 {G3_0 m : Nat} (h0 : G3_0 + 3 ≤ 44) : m < m + 596 + 130 * G3_0 + 2 + 2 * 0 ∨ m + 596 + 130 * G3_0 + 2 + 2 * 0 + 1 ≤ m := by omega
theorem zx_X16_lineInto_19 {G3_0 m : Nat} (h0 : G3_0 + 3 ≤ 44) : m ≠ m + 596 + 130 * G3_0 := by omega
theorem zx_X16_lineInto_20 {m : Nat}  : (m + 97) < m ∨ m + 1 ≤ (m + 97) := by omega
theorem zx_X16_lineInto_21 {G3_0 m : Nat} (h0 : G3_0 + 3 ≤ 44) : (m + 97) < m + 596 + 130 * G3_0 ∨ m + 596 + 130 * G3_0 + 130 ≤ (m + 97) := by omega
theorem zx_X16_lineInto_22 {G3_0 G3_1 m : Nat} (h0 : G3_1 = G3_0 + 1) (h1 : G3_0 + 3 ≤ 44) : (m + 97) < m + 596 + 130 * G3_1 ∨ m + 596 + 130 * G3_1 + 130 ≤ (m + 97) := by omega
theorem zx_X16_lineInto_23 {G3_0 m : Nat} (h0 : G3_0 + 3 ≤ 44) : (m + 97) ≠ m + 596 + 130 * G3_0 + 2 + 2 * 0 + 1 := by omega
theorem zx_X16_lineInto_24 {G3_0 m : Nat} (h0 : G3_0 + 3 ≤ 44) : (m + 97) ≠ m + 596 + 130 * G3_0 + 2 + 2 * 0 := by omega
theorem zx_X16_lineInto_25 {G3_0 m : Nat} (h0 : G3_0 + 3 ≤ 44) : (m + 97) < m + 596 + 130 * G3_0 + 2 + 2 * 0 ∨ m + 596 + 130 * G3_0 + 2 + 2 * 0 + 1 ≤ (m + 97) := by omega
theorem zx_X16_lineInto_26 {G3_0 m : Nat} (h0 : G3_0 + 3 ≤ 44) : (m + 97) ≠ m + 596 + 130 * G3_0 := by omega
theorem zx_X16_lineInto_27 {m : Nat}  : (m + 99) < m ∨ m + 1 ≤ (m + 99) := by omega
theorem zx_X16_lineInto_28 {G3_0 m : Nat} (h0 : G3_0 + 3 ≤ 44) : (m + 99) < m + 596 + 130 * G3_0 ∨ m + 596 + 130 * G3_0 + 130 ≤ (m + 99) := by omega
theorem zx_X16_lineInto_29 {G3_0 G3_1 m : Nat} (h0 : G3_1 = G3_0 + 1) (h1 : G3_0 + 3 ≤ 44) : (m + 99) < m + 596 + 130 * G3_1 ∨ m + 596 + 130 * G3_1 + 130 ≤ (m + 99) := by omega
theorem zx_X16_lineInto_30 {G3_0 m : Nat} (h0 : G3_0 + 3 ≤ 44) : (m + 99) ≠ m + 596 + 130 * G3_0 + 2 + 2 * 0 + 1 := by omega
theorem zx_X16_lineInto_31 {G3_0 m : Nat} (h0 : G3_0 + 3 ≤ 44) : (m + 99) ≠ m + 596 + 130 * G3_0 + 2 + 2 * 0 := by omega
theorem zx_X16_lineInto_32 {G3_0 m : Nat} (h0 : G3_0 + 3 ≤ 44) : (m + 99) < m + 596 + 130 * G3_0 + 2 + 2 * 0 ∨ m + 596 + 130 * G3_0 + 2 + 2 * 0 + 1 ≤ (m + 99) := by omega
theorem zx_X16_lineInto_33 {G3_0 m : Nat} (h0 : G3_0 + 3 ≤ 44) : (m + 99) ≠ m + 596 + 130 * G3_0 := by omega
theorem zx_X16_lineInto_34 {m : Nat}  : (m + 99) ≠ m := by omega
theorem zx_X16_lineInto_35 {m x : Nat} (h0 : x ≠ m) : x < m ∨ m + 1 ≤ x := by omega
theorem zx_X16_lineInto_36 {G3_0 m x : Nat} (h0 : x < m + 596 + 130 * G3_0 ∨ m + 596 + 130 * G3_0 + (5720 - 130 * G3_0) ≤ x) (h1 : G3_0 + 3 ≤ 44) : x < m + 596 + 130 * G3_0 ∨ m + 596 + 130 * G3_0 + 130 ≤ x := by omega
theorem zx_X16_lineInto_37 {G3_0 G3_1 m x : Nat} (h0 : x < m + 596 + 130 * G3_0 ∨ m + 596 + 130 * G3_0 + (5720 - 130 * G3_0) ≤ x) (h1 : G3_1 = G3_0 + 1) (h2 : G3_0 + 3 ≤ 44) : x < m + 596 + 130 * G3_1 ∨ m + 596 + 130 * G3_1 + 130 ≤ x := by omega
theorem zx_X16_lineInto_38 {G3_0 m x : Nat} (h0 : x < m + 596 + 130 * G3_0 ∨ m + 596 + 130 * G3_0 + (5720 - 130 * G3_0) ≤ x) (h1 : G3_0 + 3 ≤ 44) : x ≠ m + 596 + 130 * G3_0 + 2 + 2 * 0 + 1 := by omega
theorem zx_X16_lineInto_39 {G3_0 m x : Nat} (h0 : x < m + 596 + 130 * G3_0 ∨ m + 596 + 130 * G3_0 + (5720 - 130 * G3_0) ≤ x) (h1 : G3_0 + 3 ≤ 44) : x ≠ m + 596 + 130 * G3_0 + 2 + 2 * 0 := by omega
theorem zx_X16_lineInto_40 {G3_0 m x : Nat} (h0 : x < m + 596 + 130 * G3_0 ∨ m + 596 + 130 * G3_0 + (5720 - 130 * G3_0) ≤ x) (h1 : G3_0 + 3 ≤ 44) : x < m + 596 + 130 * G3_0 + 2 + 2 * 0 ∨ m + 596 + 130 * G3_0 + 2 + 2 * 0 + 1 ≤ x := by omega
theorem zx_X16_lineInto_41 {G3_0 m x : Nat} (h0 : x < m + 596 + 130 * G3_0 ∨ m + 596 + 130 * G3_0 + (5720 - 130 * G3_0) ≤ x) (h1 : G3_0 + 3 ≤ 44) : x ≠ m + 596 + 130 * G3_0 := by omega
theorem zx_X16_lineInto_42 {G3_0 G3_2 m x : Nat} (h0 : x < m + 596 + 130 * G3_0 ∨ m + 596 + 130 * G3_0 + (5720 - 130 * G3_0) ≤ x) (h1 : G3_2 = G3_0 + 2) (h2 : G3_0 + 3 ≤ 44) : x < m + 596 + 130 * G3_2 ∨ m + 596 + 130 * G3_2 + (5720 - 130 * G3_2) ≤ x := by omega
theorem zx_X16_lineInto_43 {G3_0 m num x : Nat} (h0 : num ≤ x) (h1 : x < num + 130) (h2 : m + 596 ≤ num ∧ num + 130 ≤ m + 596 + 130 * G3_0) (h3 : G3_0 + 3 ≤ 44) : x ≠ m := by omega
theorem zx_X16_lineInto_44 {G3_0 den m x : Nat} (h0 : den ≤ x) (h1 : x < den + 130) (h2 : m + 596 ≤ den ∧ den + 130 ≤ m + 596 + 130 * G3_0) (h3 : G3_0 + 3 ≤ 44) : x ≠ m := by omega
theorem zx_X16_lineInto_45 {G3_0 m num : Nat} (h0 : m + 596 ≤ num ∧ num + 130 ≤ m + 596 + 130 * G3_0) (h1 : G3_0 + 3 ≤ 44) : (m + 99) < num ∨ num + 130 ≤ (m + 99) := by omega
theorem zx_X16_lineInto_46 {G3_0 den m : Nat} (h0 : m + 596 ≤ den ∧ den + 130 ≤ m + 596 + 130 * G3_0) (h1 : G3_0 + 3 ≤ 44) : (m + 99) < den ∨ den + 130 ≤ (m + 99) := by omega
theorem zx_X16_lineInto_47 {G1_0 m : Nat} (h0 : G1_0 + 3 ≤ 160) : (m + 99) < m + 276 + 2 * G1_0 ∨ m + 276 + 2 * G1_0 + (320 - 2 * G1_0) ≤ (m + 99) := by omega
theorem zx_X16_lineInto_48 {G3_0 G3_2 m : Nat} (h0 : G3_2 = G3_0 + 2) (h1 : G3_0 + 3 ≤ 44) : (m + 99) < m + 596 + 130 * G3_2 ∨ m + 596 + 130 * G3_2 + (5720 - 130 * G3_2) ≤ (m + 99) := by omega
theorem zx_X16_lineInto_49 {G3_0 m num x : Nat} (h0 : m + 596 + 130 * G3_0 ≤ x) (h1 : x < m + 596 + 130 * G3_0 + 130) (h2 : m + 596 ≤ num ∧ num + 130 ≤ m + 596 + 130 * G3_0) (h3 : G3_0 + 3 ≤ 44) : x < num ∨ num + 130 ≤ x := by omega
theorem zx_X16_lineInto_50 {G3_0 den m x : Nat} (h0 : m + 596 + 130 * G3_0 ≤ x) (h1 : x < m + 596 + 130 * G3_0 + 130) (h2 : m + 596 ≤ den ∧ den + 130 ≤ m + 596 + 130 * G3_0) (h3 : G3_0 + 3 ≤ 44) : x < den ∨ den + 130 ≤ x := by omega
theorem zx_X16_lineInto_51 {G1_0 G3_0 m x : Nat} (h0 : m + 596 + 130 * G3_0 ≤ x) (h1 : x < m + 596 + 130 * G3_0 + 130) (h2 : G1_0 + 3 ≤ 160) (h3 : G3_0 + 3 ≤ 44) : x < m + 276 + 2 * G1_0 ∨ m + 276 + 2 * G1_0 + (320 - 2 * G1_0) ≤ x := by omega
theorem zx_X16_lineInto_52 {G3_0 G3_2 m x : Nat} (h0 : m + 596 + 130 * G3_0 ≤ x) (h1 : x < m + 596 + 130 * G3_0 + 130) (h2 : G3_2 = G3_0 + 2) (h3 : G3_0 + 3 ≤ 44) : x < m + 596 + 130 * G3_2 ∨ m + 596 + 130 * G3_2 + (5720 - 130 * G3_2) ≤ x := by omega
theorem zx_X16_lineInto_53 {G3_0 m x : Nat} (h0 : m + 596 + 130 * G3_0 ≤ x) (h1 : x < m + 596 + 130 * G3_0 + 130) (h2 : G3_0 + 3 ≤ 44) : x ≠ m := by omega
theorem zx_X16_lineInto_54 {G3_0 G3_1 m : Nat} (h0 : G3_1 = G3_0 + 1) (h1 : G3_0 + 3 ≤ 44) : m < m + 596 + 130 * G3_1 ∨ m + 596 + 130 * G3_1 + 130 ≤ m := by omega
theorem zx_X16_lineInto_55 {G1_0 m : Nat} (h0 : G1_0 + 3 ≤ 160) : m < m + 276 + 2 * G1_0 ∨ m + 276 + 2 * G1_0 + (320 - 2 * G1_0) ≤ m := by omega
theorem zx_X16_lineInto_56 {G3_0 G3_2 m : Nat} (h0 : G3_2 = G3_0 + 2) (h1 : G3_0 + 3 ≤ 44) : m < m + 596 + 130 * G3_2 ∨ m + 596 + 130 * G3_2 + (5720 - 130 * G3_2) ≤ m := by omega
theorem zx_X16_lineInto_57 {G3_0 G3_1 den m x : Nat} (h0 : den ≤ x) (h1 : x < den + 130) (h2 : m + 596 ≤ den ∧ den + 130 ≤ m + 596 + 130 * G3_0) (h3 : G3_1 = G3_0 + 1) (h4 : G3_0 + 3 ≤ 44) : x < m + 596 + 130 * G3_1 ∨ m + 596 + 130 * G3_1 + 130 ≤ x := by omega
theorem zx_X16_lineInto_58 {G1_0 G3_0 den m x : Nat} (h0 : den ≤ x) (h1 : x < den + 130) (h2 : m + 596 ≤ den ∧ den + 130 ≤ m + 596 + 130 * G3_0) (h3 : G1_0 + 3 ≤ 160) (h4 : G3_0 + 3 ≤ 44) : x < m + 276 + 2 * G1_0 ∨ m + 276 + 2 * G1_0 + (320 - 2 * G1_0) ≤ x := by omega
theorem zx_X16_lineInto_59 {G3_0 G3_2 den m x : Nat} (h0 : den ≤ x) (h1 : x < den + 130) (h2 : m + 596 ≤ den ∧ den + 130 ≤ m + 596 + 130 * G3_0) (h3 : G3_2 = G3_0 + 2) (h4 : G3_0 + 3 ≤ 44) : x < m + 596 + 130 * G3_2 ∨ m + 596 + 130 * G3_2 + (5720 - 130 * G3_2) ≤ x := by omega
theorem zx_X16_lineInto_60 {G3_0 G3_1 m num x : Nat} (h0 : num ≤ x) (h1 : x < num + 130) (h2 : m + 596 ≤ num ∧ num + 130 ≤ m + 596 + 130 * G3_0) (h3 : G3_1 = G3_0 + 1) (h4 : G3_0 + 3 ≤ 44) : x < m + 596 + 130 * G3_1 ∨ m + 596 + 130 * G3_1 + 130 ≤ x := by omega
theorem zx_X16_lineInto_61 {G1_0 G3_0 m num x : Nat} (h0 : num ≤ x) (h1 : x < num + 130) (h2 : m + 596 ≤ num ∧ num + 130 ≤ m + 596 + 130 * G3_0) (h3 : G1_0 + 3 ≤ 160) (h4 : G3_0 + 3 ≤ 44) : x < m + 276 + 2 * G1_0 ∨ m + 276 + 2 * G1_0 + (320 - 2 * G1_0) ≤ x := by omega
theorem zx_X16_lineInto_62 {G3_0 G3_2 m num x : Nat} (h0 : num ≤ x) (h1 : x < num + 130) (h2 : m + 596 ≤ num ∧ num + 130 ≤ m + 596 + 130 * G3_0) (h3 : G3_2 = G3_0 + 2) (h4 : G3_0 + 3 ≤ 44) : x < m + 596 + 130 * G3_2 ∨ m + 596 + 130 * G3_2 + (5720 - 130 * G3_2) ≤ x := by omega
theorem zx_X16_lineInto_63 {G3_0 den m num x : Nat} (h0 : num ≤ x) (h1 : x < num + 130) (h2 : num + 130 ≤ den ∨ den + 130 ≤ num) (h3 : m + 596 ≤ num ∧ num + 130 ≤ m + 596 + 130 * G3_0) (h4 : m + 596 ≤ den ∧ den + 130 ≤ m + 596 + 130 * G3_0) (h5 : G3_0 + 3 ≤ 44) : x < den ∨ den + 130 ≤ x := by omega
theorem zx_X16_lineInto_64 {G3_0 den m : Nat} (h0 : m + 596 ≤ den ∧ den + 130 ≤ m + 596 + 130 * G3_0) (h1 : G3_0 + 3 ≤ 44) : m < den ∨ den + 130 ≤ m := by omega
theorem zx_X16_lineInto_65 {G3_0 den m num x : Nat} (h0 : den ≤ x) (h1 : x < den + 130) (h2 : num + 130 ≤ den ∨ den + 130 ≤ num) (h3 : m + 596 ≤ num ∧ num + 130 ≤ m + 596 + 130 * G3_0) (h4 : m + 596 ≤ den ∧ den + 130 ≤ m + 596 + 130 * G3_0) (h5 : G3_0 + 3 ≤ 44) : x < num ∨ num + 130 ≤ x := by omega
theorem zx_X16_lineInto_66 {G3_0 m num : Nat} (h0 : m + 596 ≤ num ∧ num + 130 ≤ m + 596 + 130 * G3_0) (h1 : G3_0 + 3 ≤ 44) : m < num ∨ num + 130 ≤ m := by omega
theorem zx_X16_lineInto_67 {G3_0 m num x : Nat} (h0 : num ≤ x) (h1 : x < num + 130) (h2 : m + 596 ≤ num ∧ num + 130 ≤ m + 596 + 130 * G3_0) (h3 : G3_0 + 3 ≤ 44) : x < m ∨ m + 1 ≤ x := by omega
theorem zx_X16_lineInto_68 {G3_0 m num x : Nat} (h0 : num ≤ x) (h1 : x < num + 130) (h2 : m + 596 ≤ num ∧ num + 130 ≤ m + 596 + 130 * G3_0) (h3 : G3_0 + 3 ≤ 44) : x < m + 596 + 130 * G3_0 ∨ m + 596 + 130 * G3_0 + 130 ≤ x := by omega
theorem zx_X16_lineInto_69 {G3_0 m num x : Nat} (h0 : num ≤ x) (h1 : x < num + 130) (h2 : m + 596 ≤ num ∧ num + 130 ≤ m + 596 + 130 * G3_0) (h3 : G3_0 + 3 ≤ 44) : x ≠ m + 596 + 130 * G3_0 + 2 + 2 * 0 + 1 := by omega
theorem zx_X16_lineInto_70 {G3_0 m num x : Nat} (h0 : num ≤ x) (h1 : x < num + 130) (h2 : m + 596 ≤ num ∧ num + 130 ≤ m + 596 + 130 * G3_0) (h3 : G3_0 + 3 ≤ 44) : x ≠ m + 596 + 130 * G3_0 + 2 + 2 * 0 := by omega
theorem zx_X16_lineInto_71 {G3_0 m num x : Nat} (h0 : num ≤ x) (h1 : x < num + 130) (h2 : m + 596 ≤ num ∧ num + 130 ≤ m + 596 + 130 * G3_0) (h3 : G3_0 + 3 ≤ 44) : x < m + 596 + 130 * G3_0 + 2 + 2 * 0 ∨ m + 596 + 130 * G3_0 + 2 + 2 * 0 + 1 ≤ x := by omega
theorem zx_X16_lineInto_72 {G3_0 m num x : Nat} (h0 : num ≤ x) (h1 : x < num + 130) (h2 : m + 596 ≤ num ∧ num + 130 ≤ m + 596 + 130 * G3_0) (h3 : G3_0 + 3 ≤ 44) : x ≠ m + 596 + 130 * G3_0 := by omega
theorem zx_X16_lineInto_73 {G3_0 den m x : Nat} (h0 : den ≤ x) (h1 : x < den + 130) (h2 : m + 596 ≤ den ∧ den + 130 ≤ m + 596 + 130 * G3_0) (h3 : G3_0 + 3 ≤ 44) : x < m ∨ m + 1 ≤ x := by omega
theorem zx_X16_lineInto_74 {G3_0 den m x : Nat} (h0 : den ≤ x) (h1 : x < den + 130) (h2 : m + 596 ≤ den ∧ den + 130 ≤ m + 596 + 130 * G3_0) (h3 : G3_0 + 3 ≤ 44) : x < m + 596 + 130 * G3_0 ∨ m + 596 + 130 * G3_0 + 130 ≤ x := by omega
theorem zx_X16_lineInto_75 {G3_0 den m x : Nat} (h0 : den ≤ x) (h1 : x < den + 130) (h2 : m + 596 ≤ den ∧ den + 130 ≤ m + 596 + 130 * G3_0) (h3 : G3_0 + 3 ≤ 44) : x ≠ m + 596 + 130 * G3_0 + 2 + 2 * 0 + 1 := by omega
theorem zx_X16_lineInto_76 {G3_0 den m x : Nat} (h0 : den ≤ x) (h1 : x < den + 130) (h2 : m + 596 ≤ den ∧ den + 130 ≤ m + 596 + 130 * G3_0) (h3 : G3_0 + 3 ≤ 44) : x ≠ m + 596 + 130 * G3_0 + 2 + 2 * 0 := by omega
theorem zx_X16_lineInto_77 {G3_0 den m x : Nat} (h0 : den ≤ x) (h1 : x < den + 130) (h2 : m + 596 ≤ den ∧ den + 130 ≤ m + 596 + 130 * G3_0) (h3 : G3_0 + 3 ≤ 44) : x < m + 596 + 130 * G3_0 + 2 + 2 * 0 ∨ m + 596 + 130 * G3_0 + 2 + 2 * 0 + 1 ≤ x := by omega
theorem zx_X16_lineInto_78 {G3_0 den m x : Nat} (h0 : den ≤ x) (h1 : x < den + 130) (h2 : m + 596 ≤ den ∧ den + 130 ≤ m + 596 + 130 * G3_0) (h3 : G3_0 + 3 ≤ 44) : x ≠ m + 596 + 130 * G3_0 := by omega
theorem zx_X16_lineInto_79 {G3_0 G3_1 m x : Nat} (h0 : m + 596 + 130 * G3_1 ≤ x) (h1 : x < m + 596 + 130 * G3_1 + 130) (h2 : G3_1 = G3_0 + 1) (h3 : G3_0 + 3 ≤ 44) : x ≠ m + 596 + 130 * G3_0 + 2 + 2 * 0 + 1 := by omega
theorem zx_X16_lineInto_80 {G3_0 G3_1 m x : Nat} (h0 : m + 596 + 130 * G3_1 ≤ x) (h1 : x < m + 596 + 130 * G3_1 + 130) (h2 : G3_1 = G3_0 + 1) (h3 : G3_0 + 3 ≤ 44) : x ≠ m + 596 + 130 * G3_0 + 2 + 2 * 0 := by omega
theorem zx_X16_lineInto_81 {G3_0 G3_1 m x : Nat} (h0 : m + 596 + 130 * G3_1 ≤ x) (h1 : x < m + 596 + 130 * G3_1 + 130) (h2 : G3_1 = G3_0 + 1) (h3 : G3_0 + 3 ≤ 44) : x < m + 596 + 130 * G3_0 + 2 + 2 * 0 ∨ m + 596 + 130 * G3_0 + 2 + 2 * 0 + 1 ≤ x := by omega
theorem zx_X16_lineInto_82 {G3_0 G3_1 m x : Nat} (h0 : m + 596 + 130 * G3_1 ≤ x) (h1 : x < m + 596 + 130 * G3_1 + 130) (h2 : G3_1 = G3_0 + 1) (h3 : G3_0 + 3 ≤ 44) : x ≠ m + 596 + 130 * G3_0 := by omega
theorem zx_X16_lineInto_83 {G3_0 G3_1 m x : Nat} (h0 : m + 596 + 130 * G3_1 ≤ x) (h1 : x < m + 596 + 130 * G3_1 + 130) (h2 : G3_1 = G3_0 + 1) (h3 : G3_0 + 3 ≤ 44) : x < m + 596 + 130 * G3_0 ∨ m + 596 + 130 * G3_0 + 130 ≤ x := by omega
theorem zx_X16_lineInto_84 {G3_0 G3_1 m x : Nat} (h0 : m + 596 + 130 * G3_1 ≤ x) (h1 : x < m + 596 + 130 * G3_1 + 130) (h2 : G3_1 = G3_0 + 1) (h3 : G3_0 + 3 ≤ 44) : x ≠ m := by omega
theorem zx_X16_lineInto_85 {G3_0 m x : Nat} (h0 : m + 596 + 130 * G3_0 + 2 + 2 * 0 ≤ x) (h1 : x < m + 596 + 130 * G3_0 + 2 + 2 * 0 + 2) (h2 : G3_0 + 3 ≤ 44) : x ≠ m + 596 + 130 * G3_0 := by omega
theorem zx_X16_lineInto_86 {G3_0 m : Nat} (h0 : G3_0 + 3 ≤ 44) : (m + 596 + 130 * G3_0 + 1) < m + 596 + 130 * G3_0 + 2 + 2 * 0 ∨ m + 596 + 130 * G3_0 + 2 + 2 * 0 + 1 ≤ (m + 596 + 130 * G3_0 + 1) := by omega
theorem zx_X16_lineInto_87 {G3_0 m : Nat} (h0 : G3_0 + 3 ≤ 44) : (m + 596 + 130 * G3_0 + 1) ≠ m + 596 + 130 * G3_0 := by omega
theorem zx_X16_lineInto_88 {G3_0 m : Nat} (h0 : G3_0 + 3 ≤ 44) : (m + 596 + 130 * G3_0) < m + 596 + 130 * G3_0 + 2 + 2 * 1 ∨ m + 596 + 130 * G3_0 + 2 + 2 * 1 + 2 ≤ (m + 596 + 130 * G3_0) := by omega
theorem zx_X16_lineInto_89 {G3_0 m x : Nat} (h0 : x < m + 596 + 130 * G3_0 ∨ m + 596 + 130 * G3_0 + 130 ≤ x) (h1 : G3_0 + 3 ≤ 44) : x < m + 596 + 130 * G3_0 + 2 + 2 * 1 ∨ m + 596 + 130 * G3_0 + 2 + 2 * 1 + 2 ≤ x := by omega
theorem zx_X16_lineInto_90 {G3_0 m x : Nat} (h0 : x < m + 596 + 130 * G3_0 ∨ m + 596 + 130 * G3_0 + 130 ≤ x) (h1 : G3_0 + 3 ≤ 44) : x ≠ m + 596 + 130 * G3_0 := by omega
theorem zx_X16_lineInto_91 {G3_0 m x : Nat} (h0 : m + 596 + 130 * G3_0 + 2 + 2 * 0 ≤ x) (h1 : x < m + 596 + 130 * G3_0 + 2 + 2 * 0 + 2) (h2 : G3_0 + 3 ≤ 44) : x < m + 596 + 130 * G3_0 + 2 + 2 * 1 ∨ m + 596 + 130 * G3_0 + 2 + 2 * 1 + 2 ≤ x := by omega
theorem zx_X16_lineInto_92 {G3_0 m x : Nat} (h0 : m + 596 + 130 * G3_0 + 2 + 2 * 1 ≤ x) (h1 : x < m + 596 + 130 * G3_0 + 2 + 2 * 1 + 2) (h2 : G3_0 + 3 ≤ 44) : x ≠ m + 596 + 130 * G3_0 := by omega
theorem zx_X16_lineInto_93 {G3_0 m : Nat} (h0 : G3_0 + 3 ≤ 44) : m < m + 596 + 130 * G3_0 + 2 + 2 * 1 ∨ m + 596 + 130 * G3_0 + 2 + 2 * 1 + 2 ≤ m := by omega
set_option maxHeartbeats 8000000 in
set_option maxRecDepth 100000 in
theorem c_X16_lineInto {w : zM} {g : Nat → Int32} {r : Nat → Value} {qa qb qc qe : Nat → Int32} {p q : zA2} {g1 : Int32} {g3 : Int32} {g36 : Int32} (m : Nat) (num : Nat) (den : Nat) (k : Int32) (hm : w m = some (.inl (15, zMo m g r))) (hR_m : zR m w) (hA_m_96 : w (m + 96) = some (.inr (0, 120, .inl qa))) (hA_m_97 : w (m + 97) = some (.inr (0, 120, .inl qb))) (hA_m_98 : w (m + 98) = some (.inr (0, 120, .inl qc))) (hA_m_99 : w (m + 99) = some (.inr (0, 120, .inl qe))) (hB_num : zB w num p) (hB_den : zB w den q) (hut : 0 ≤ g1.toInt ∧ g1.toInt + 3 ≤ 160) (hbt : 0 ≤ g3.toInt ∧ g3.toInt + 3 ≤ 44) (hnd : num + 130 ≤ den ∨ den + 130 ≤ num) (hmn : m + 596 ≤ num ∧ num + 130 ≤ m + 596 + 130 * g3.toNatClampNeg) (hmd : m + 596 ≤ den ∧ den + 130 ≤ m + 596 + 130 * g3.toNatClampNeg) (hk : 0 ≤ k.toInt ∧ k.toInt < g36.toInt ∧ g36.toInt ≤ 120) (hqs : zQs qa qb qc g36.toNatClampNeg) (hp0 : 0 < zrw p) (hq0 : 0 < zrw q) (hpz : zrw p ≤ 50 ∧ zdn p ≤ 110 ∧ zrw q ≤ 50 ∧ zdn q ≤ 110) (hg1 : g 1 = g1) (hg3 : g 3 = g3) (hg36 : g 36 = g36) : zCon 5 zq_X16_lineInto [.ref m, .ref num, .ref den, .int k] w (fun v9 w9' => ∃ P9 : zA2, ∃ Q9 : zA2, zSI w w9' ∧ (∀ x, (x < num ∨ num + 130 ≤ x) ∧ (x < den ∨ den + 130 ≤ x) ∧ (x < m + 276 + 2 * g1.toNatClampNeg ∨ m + 276 + 2 * g1.toNatClampNeg + (320 - 2 * g1.toNatClampNeg) ≤ x) ∧ (x < m + 596 + 130 * g3.toNatClampNeg ∨ m + 596 + 130 * g3.toNatClampNeg + (5720 - 130 * g3.toNatClampNeg) ≤ x) → w9' x = w x) ∧ zB w9' num P9 ∧ zB w9' den Q9 ∧ (0 < zrw P9 ∧ 0 < zrw Q9 ∧ zrw P9 ≤ 51 ∧ zdn P9 ≤ 111 ∧ zrw Q9 ≤ 51 ∧ zdn Q9 ≤ 111) ∧ ∃ r9 : Int32, v9 = some (.int r9) ∧ (r9 = 0 ∨ r9 = 1) ∧ (r9 = 1 → zrw P9 ≤ 50 ∧ zdn P9 ≤ 110 ∧ zrw Q9 ≤ 50 ∧ zdn Q9 ≤ 110)) := by
  subst hg1
  subst hg3
  subst hg36
  intro d sz hd
  obtain ⟨d, rfl⟩ : ∃ d9, d = d9 + 1 := ⟨d - 1, by omega⟩
  generalize hPost : (fun (r9' : Option (Option Value)) (w9' : zM) (z9 : Nat) => z9 = sz ∧ ∃ v9, r9' = some v9 ∧ (∃ P9 : zA2, ∃ Q9 : zA2, zSI w w9' ∧ (∀ x, (x < num ∨ num + 130 ≤ x) ∧ (x < den ∨ den + 130 ≤ x) ∧ (x < m + 276 + 2 * (g 1).toNatClampNeg ∨ m + 276 + 2 * (g 1).toNatClampNeg + (320 - 2 * (g 1).toNatClampNeg) ≤ x) ∧ (x < m + 596 + 130 * (g 3).toNatClampNeg ∨ m + 596 + 130 * (g 3).toNatClampNeg + (5720 - 130 * (g 3).toNatClampNeg) ≤ x) → w9' x = w x) ∧ zB w9' num P9 ∧ zB w9' den Q9 ∧ (0 < zrw P9 ∧ 0 < zrw Q9 ∧ zrw P9 ≤ 51 ∧ zdn P9 ≤ 111 ∧ zrw Q9 ≤ 51 ∧ zdn Q9 ≤ 111) ∧ ∃ r9 : Int32, v9 = some (.int r9) ∧ (r9 = 0 ∨ r9 = 1) ∧ (r9 = 1 → zrw P9 ≤ 50 ∧ zdn P9 ≤ 110 ∧ zrw Q9 ≤ 50 ∧ zdn Q9 ≤ 110))) = Post
  show zP (d + 1) zq_X16_lineInto 0 [(0, .ref m), (1, .ref num), (2, .ref den), (3, .int k)] [] w sz 0 0 Post
  have k1 := zrng k
  have k2 := zrng (g 1)
  have hz3 : ((g 1).toNatClampNeg : Int) = (g 1).toInt := znat (by first | omega | decide)
  have hgb1 : (g 1).toNatClampNeg + 3 ≤ 160 := by omega
  have k4 := zrng (g 3)
  have hz5 : ((g 3).toNatClampNeg : Int) = (g 3).toInt := znat (by first | omega | decide)
  have hgb3 : (g 3).toNatClampNeg + 3 ≤ 44 := by omega
  have k6 := zrng (g 36)
  have hz7 : ((g 36).toNatClampNeg : Int) = (g 36).toInt := znat (by first | omega | decide)
  have hz8 : (k.toNatClampNeg : Int) = k.toInt := znat (by first | omega | decide)
  obtain ⟨hka9, hkb9, hkc9, hkn9⟩ := hqs k.toNatClampNeg (by omega)
  refine zp_seg (pc' := 1) (lv' := [(0, .ref m), (1, .ref num), (2, .ref den), (3, .int k)]) (st' := [.ref m]) [(0, .aload_n 0)] (by decide +kernel) rfl ?_
  refine zr_get (idx := 90) (k := 3) (v := .int (g 3)) (by decide +kernel) (by decide +kernel) hm rfl ?_
  refine zp_seg (pc' := 7) (lv' := [(4, .int (g 3)), (0, .ref m), (1, .ref num), (2, .ref den), (3, .int k)]) (st' := [.ref m]) [(4, .istore 4), (6, .aload_n 0)] (by decide +kernel) rfl ?_
  refine zr_callV (idx := 140) (j := 274) (by decide +kernel) (by decide +kernel) (show zMe 274 = some zq_X16_newB from rfl) rfl rfl (Nat.le_of_ble_eq_true rfl) rfl rfl hm (Nat.le_of_ble_eq_true rfl) (Nat.le_of_ble_eq_true rfl) (c_X16_newB (w := w) (g3 := (g 3)) m hm hR_m (by first | omega | decide | assumption | exact zr1_1 | exact zr1_0 | fail "num") rfl) (by omega) (fun v7 w7 hp7 => ?_)
  obtain ⟨hsi7, heq7, hp7_0, hp7_1, rfl⟩ := hp7
  have hM7 : w7 m = some (.inl (15, zMo m (zs g 3 (g 3 + 1)) r)) := hp7_0
  show zP _ _ _ _ [.ref (m + 596 + 130 * (g 3).toNatClampNeg)] _ _ _ _ _
  refine zp_seg (pc' := 13) (lv' := [(5, .ref (m + 596 + 130 * (g 3).toNatClampNeg)), (4, .int (g 3)), (0, .ref m), (1, .ref num), (2, .ref den), (3, .int k)]) (st' := [.ref m]) [(10, .astore 5), (12, .aload_n 0)] (by decide +kernel) rfl ?_
  have k10 := zaddC (g 3) 1 (n := 1) (by decide) (by omega) (by omega)
  have hz11 : ((g 3 + 1).toNatClampNeg : Int) = (g 3 + 1).toInt := znat (by first | omega | decide)
  have hgn3_1 : (g 3 + 1).toNatClampNeg = (g 3).toNatClampNeg + 1 := by omega
  have hb12 := hR_m.si hsi7
  refine zr_callV (idx := 140) (j := 274) (by decide +kernel) (by decide +kernel) (show zMe 274 = some zq_X16_newB from rfl) rfl rfl (Nat.le_of_ble_eq_true rfl) rfl rfl hM7 (Nat.le_of_ble_eq_true rfl) (Nat.le_of_ble_eq_true rfl) (c_X16_newB (w := w7) (g3 := (g 3 + 1)) m hM7 hb12 (by first | omega | decide | assumption | exact zr1_1 | exact zr1_0 | fail "num") rfl) (by omega) (fun v13 w13 hp13 => ?_)
  obtain ⟨hsi13, heq13, hp13_0, hp13_1, rfl⟩ := hp13
  have hM13 : w13 m = some (.inl (15, zMo m (zs g 3 (g 3 + 1 + 1)) r)) := hp13_0
  show zP _ _ _ _ [.ref (m + 596 + 130 * (g 3 + 1).toNatClampNeg)] _ _ _ _ _
  refine zp_seg (pc' := 18) (lv' := [(6, .ref (m + 596 + 130 * (g 3 + 1).toNatClampNeg)), (5, .ref (m + 596 + 130 * (g 3).toNatClampNeg)), (4, .int (g 3)), (0, .ref m), (1, .ref num), (2, .ref den), (3, .int k)]) (st' := []) [(16, .astore 6)] (by decide +kernel) rfl ?_
  have k13 := zaddC (g 3 + 1) 1 (n := 1) (by decide) (by omega) (by omega)
  have hz14 : ((g 3 + 1 + 1).toNatClampNeg : Int) = (g 3 + 1 + 1).toInt := znat (by first | omega | decide)
  have hgn3_2 : (g 3 + 1 + 1).toNatClampNeg = (g 3).toNatClampNeg + 2 := by omega
  have hb15 : zB w13 (m + 596 + 130 * (g 3).toNatClampNeg) zbZ := hp7_1.ag (fun x hx1 hx2 => (heq13 x ⟨(zx_X16_lineInto_0 hx1 hx2 hgb3), (zx_X16_lineInto_1 hx1 hx2 hgn3_1 hgb3)⟩))
  have hBo9 := (hb15).o
  refine zp_seg (pc' := 20) (lv' := [(6, .ref (m + 596 + 130 * (g 3 + 1).toNatClampNeg)), (5, .ref (m + 596 + 130 * (g 3).toNatClampNeg)), (4, .int (g 3)), (0, .ref m), (1, .ref num), (2, .ref den), (3, .int k)]) (st' := [.ref (m + 596 + 130 * (g 3).toNatClampNeg)]) [(18, .aload 5)] (by decide +kernel) rfl ?_
  obtain ⟨n16, hb17, hb18, -⟩ := id hBo9
  have kn16 := zrng n16
  refine zr_get (idx := 98) (k := 0) (v := .ref (m + 596 + 130 * (g 3).toNatClampNeg + 1)) (by decide +kernel) (by decide +kernel) hb17 rfl ?_
  refine zp_seg (pc' := 24) (lv' := [(6, .ref (m + 596 + 130 * (g 3 + 1).toNatClampNeg)), (5, .ref (m + 596 + 130 * (g 3).toNatClampNeg)), (4, .int (g 3)), (0, .ref m), (1, .ref num), (2, .ref den), (3, .int k)]) (st' := [.int 0, .ref (m + 596 + 130 * (g 3).toNatClampNeg + 1)]) [(23, .iconst 0)] (by decide +kernel) rfl ?_
  have hl22 : (0 : Int32).toInt = 0 := by decide
  have hz23 : ((0 : Int32).toNatClampNeg : Int) = 0 := by decide
  refine zr_aald (v := .ref (m + 596 + 130 * (g 3).toNatClampNeg + 2 + 2 * 0)) (by decide +kernel) hb18 (by decide) (zin (by decide) (by decide)) rfl ?_
  have hrow24 := hBo9.rowo 0 (by omega)
  obtain ⟨n25, f26, hu27, hu28⟩ := id hrow24
  have kn25 := zrng n25
  refine zr_get (idx := 30) (k := 0) (v := .ref (m + 596 + 130 * (g 3).toNatClampNeg + 2 + 2 * 0 + 1)) (by decide +kernel) (by decide +kernel) hu27 rfl ?_
  refine zp_seg (pc' := 30) (lv' := [(6, .ref (m + 596 + 130 * (g 3 + 1).toNatClampNeg)), (5, .ref (m + 596 + 130 * (g 3).toNatClampNeg)), (4, .int (g 3)), (0, .ref m), (1, .ref num), (2, .ref den), (3, .int k)]) (st' := [.ref m, .int 0, .ref (m + 596 + 130 * (g 3).toNatClampNeg + 2 + 2 * 0 + 1)]) [(28, .iconst 0), (29, .aload_n 0)] (by decide +kernel) rfl ?_
  refine zr_get (idx := 477) (k := 34) (v := .ref (m + 98)) (by decide +kernel) (by decide +kernel) hM13 rfl ?_
  refine zp_seg (pc' := 34) (lv' := [(6, .ref (m + 596 + 130 * (g 3 + 1).toNatClampNeg)), (5, .ref (m + 596 + 130 * (g 3).toNatClampNeg)), (4, .int (g 3)), (0, .ref m), (1, .ref num), (2, .ref den), (3, .int k)]) (st' := [.int k, .ref (m + 98), .int 0, .ref (m + 596 + 130 * (g 3).toNatClampNeg + 2 + 2 * 0 + 1)]) [(33, .iload_n 3)] (by decide +kernel) rfl ?_
  have hb29 : w13 (m + 98) = some (.inr (0, 120, .inl qc)) := ((heq13 (m + 98) ⟨(zx_X16_lineInto_2), (zx_X16_lineInto_4 hgn3_1 hgb3)⟩).trans (heq7 (m + 98) ⟨(zx_X16_lineInto_2), (zx_X16_lineInto_3 hgb3)⟩)).trans hA_m_98
  refine zr_iald (by decide +kernel) hb29 (zin (by first | omega | decide) (by first | omega | decide)) ?_
  obtain ⟨x34, ex34⟩ : ∃ x9, x9 = qc (k.toNatClampNeg) := ⟨_, rfl⟩
  rw [← ex34]
  have kx34 := zrng x34
  refine zr_iast (by decide +kernel) hu28 (zin (by decide) (by decide)) ?_
  show zP (d + 1) zq_X16_lineInto 36 [(6, .ref (m + 596 + 130 * (g 3 + 1).toNatClampNeg)), (5, .ref (m + 596 + 130 * (g 3).toNatClampNeg)), (4, .int (g 3)), (0, .ref m), (1, .ref num), (2, .ref den), (3, .int k)] [] (zup w13 (m + 596 + 130 * (g 3).toNatClampNeg + 2 + 2 * 0 + 1) (.inr (0, 200, .inl (upd f26 ((0 : Int32).toNatClampNeg) x34)))) sz 0 0 Post
  obtain ⟨w35, ew35⟩ : ∃ wz9, wz9 = zup w13 (m + 596 + 130 * (g 3).toNatClampNeg + 2 + 2 * 0 + 1) (.inr (0, 200, .inl (upd f26 ((0 : Int32).toNatClampNeg) x34))) := ⟨_, rfl⟩
  have hsi35 : zSI w13 w35 := by rw [ew35]; exact zSI.arr _ hu28
  have heq35 : ∀ x, x ≠ m + 596 + 130 * (g 3).toNatClampNeg + 2 + 2 * 0 + 1 → w35 x = w13 x := fun x hx => by rw [ew35]; exact zup_n hx
  have hc35 : w35 (m + 596 + 130 * (g 3).toNatClampNeg + 2 + 2 * 0 + 1) = some (.inr (0, 200, .inl (upd f26 ((0 : Int32).toNatClampNeg) x34))) := by rw [ew35]; exact zup_s
  rw [← ew35]
  clear ew35
  refine zp_seg (pc' := 38) (lv' := [(6, .ref (m + 596 + 130 * (g 3 + 1).toNatClampNeg)), (5, .ref (m + 596 + 130 * (g 3).toNatClampNeg)), (4, .int (g 3)), (0, .ref m), (1, .ref num), (2, .ref den), (3, .int k)]) (st' := [.ref (m + 596 + 130 * (g 3).toNatClampNeg)]) [(36, .aload 5)] (by decide +kernel) rfl ?_
  have hb30 : w35 (m + 596 + 130 * (g 3).toNatClampNeg) = some (.inl (11, [.ref (m + 596 + 130 * (g 3).toNatClampNeg + 1), .int n16])) := (heq35 (m + 596 + 130 * (g 3).toNatClampNeg) (zx_X16_lineInto_5 hgb3)).trans hb17
  refine zr_get (idx := 98) (k := 0) (v := .ref (m + 596 + 130 * (g 3).toNatClampNeg + 1)) (by decide +kernel) (by decide +kernel) hb30 rfl ?_
  refine zp_seg (pc' := 42) (lv' := [(6, .ref (m + 596 + 130 * (g 3 + 1).toNatClampNeg)), (5, .ref (m + 596 + 130 * (g 3).toNatClampNeg)), (4, .int (g 3)), (0, .ref m), (1, .ref num), (2, .ref den), (3, .int k)]) (st' := [.int 0, .ref (m + 596 + 130 * (g 3).toNatClampNeg + 1)]) [(41, .iconst 0)] (by decide +kernel) rfl ?_
  have hb31 : w35 (m + 596 + 130 * (g 3).toNatClampNeg + 1) = some (.inr (4, 64, zbr (m + 596 + 130 * (g 3).toNatClampNeg))) := (heq35 (m + 596 + 130 * (g 3).toNatClampNeg + 1) (zx_X16_lineInto_6 hgb3)).trans hb18
  refine zr_aald (v := .ref (m + 596 + 130 * (g 3).toNatClampNeg + 2 + 2 * 0)) (by decide +kernel) hb31 (by decide) (zin (by decide) (by decide)) rfl ?_
  have hb32 := hBo9.si hsi35
  have hrow33 := hb32.rowo 0 (by omega)
  have hb34 : w35 (m + 596 + 130 * (g 3).toNatClampNeg + 2 + 2 * 0) = some (.inl (14, [.ref (m + 596 + 130 * (g 3).toNatClampNeg + 2 + 2 * 0 + 1), .int n25])) := (heq35 (m + 596 + 130 * (g 3).toNatClampNeg + 2 + 2 * 0) (zx_X16_lineInto_7 hgb3)).trans hu27
  refine zr_get (idx := 30) (k := 0) (v := .ref (m + 596 + 130 * (g 3).toNatClampNeg + 2 + 2 * 0 + 1)) (by decide +kernel) (by decide +kernel) hb34 rfl ?_
  refine zp_seg (pc' := 48) (lv' := [(6, .ref (m + 596 + 130 * (g 3 + 1).toNatClampNeg)), (5, .ref (m + 596 + 130 * (g 3).toNatClampNeg)), (4, .int (g 3)), (0, .ref m), (1, .ref num), (2, .ref den), (3, .int k)]) (st' := [.ref m, .int 1, .ref (m + 596 + 130 * (g 3).toNatClampNeg + 2 + 2 * 0 + 1)]) [(46, .iconst 1), (47, .aload_n 0)] (by decide +kernel) rfl ?_
  have hb35 : w35 m = some (.inl (15, zMo m (zs g 3 (g 3 + 1 + 1)) r)) := (heq35 m (zx_X16_lineInto_8 hgb3)).trans hM13
  refine zr_get (idx := 471) (k := 32) (v := .ref (m + 96)) (by decide +kernel) (by decide +kernel) hb35 rfl ?_
  refine zp_seg (pc' := 52) (lv' := [(6, .ref (m + 596 + 130 * (g 3 + 1).toNatClampNeg)), (5, .ref (m + 596 + 130 * (g 3).toNatClampNeg)), (4, .int (g 3)), (0, .ref m), (1, .ref num), (2, .ref den), (3, .int k)]) (st' := [.int k, .ref (m + 96), .int 1, .ref (m + 596 + 130 * (g 3).toNatClampNeg + 2 + 2 * 0 + 1)]) [(51, .iload_n 3)] (by decide +kernel) rfl ?_
  have hb36 : w35 (m + 96) = some (.inr (0, 120, .inl qa)) := ((heq35 (m + 96) (zx_X16_lineInto_12 hgb3)).trans ((heq13 (m + 96) ⟨(zx_X16_lineInto_9), (zx_X16_lineInto_11 hgn3_1 hgb3)⟩).trans (heq7 (m + 96) ⟨(zx_X16_lineInto_9), (zx_X16_lineInto_10 hgb3)⟩))).trans hA_m_96
  refine zr_iald (by decide +kernel) hb36 (zin (by first | omega | decide) (by first | omega | decide)) ?_
  obtain ⟨x52, ex52⟩ : ∃ x9, x9 = qa (k.toNatClampNeg) := ⟨_, rfl⟩
  rw [← ex52]
  have kx52 := zrng x52
  have hl37 : (1 : Int32).toInt = 1 := by decide
  have hz38 : ((1 : Int32).toNatClampNeg : Int) = 1 := by decide
  refine zr_iast (by decide +kernel) hc35 (zin (by decide) (by decide)) ?_
  show zP (d + 1) zq_X16_lineInto 54 [(6, .ref (m + 596 + 130 * (g 3 + 1).toNatClampNeg)), (5, .ref (m + 596 + 130 * (g 3).toNatClampNeg)), (4, .int (g 3)), (0, .ref m), (1, .ref num), (2, .ref den), (3, .int k)] [] (zup w35 (m + 596 + 130 * (g 3).toNatClampNeg + 2 + 2 * 0 + 1) (.inr (0, 200, .inl (upd (upd f26 ((0 : Int32).toNatClampNeg) x34) ((1 : Int32).toNatClampNeg) x52)))) sz 0 0 Post
  obtain ⟨w53, ew53⟩ : ∃ wz9, wz9 = zup w35 (m + 596 + 130 * (g 3).toNatClampNeg + 2 + 2 * 0 + 1) (.inr (0, 200, .inl (upd (upd f26 ((0 : Int32).toNatClampNeg) x34) ((1 : Int32).toNatClampNeg) x52))) := ⟨_, rfl⟩
  have hsi53 : zSI w35 w53 := by rw [ew53]; exact zSI.arr _ hc35
  have heq53 : ∀ x, x ≠ m + 596 + 130 * (g 3).toNatClampNeg + 2 + 2 * 0 + 1 → w53 x = w35 x := fun x hx => by rw [ew53]; exact zup_n hx
  have hc53 : w53 (m + 596 + 130 * (g 3).toNatClampNeg + 2 + 2 * 0 + 1) = some (.inr (0, 200, .inl (upd (upd f26 ((0 : Int32).toNatClampNeg) x34) ((1 : Int32).toNatClampNeg) x52))) := by rw [ew53]; exact zup_s
  rw [← ew53]
  clear ew53
  refine zp_seg (pc' := 56) (lv' := [(6, .ref (m + 596 + 130 * (g 3 + 1).toNatClampNeg)), (5, .ref (m + 596 + 130 * (g 3).toNatClampNeg)), (4, .int (g 3)), (0, .ref m), (1, .ref num), (2, .ref den), (3, .int k)]) (st' := [.ref (m + 596 + 130 * (g 3).toNatClampNeg)]) [(54, .aload 5)] (by decide +kernel) rfl ?_
  have hb39 : w53 (m + 596 + 130 * (g 3).toNatClampNeg) = some (.inl (11, [.ref (m + 596 + 130 * (g 3).toNatClampNeg + 1), .int n16])) := (heq53 (m + 596 + 130 * (g 3).toNatClampNeg) (zx_X16_lineInto_5 hgb3)).trans hb30
  refine zr_get (idx := 98) (k := 0) (v := .ref (m + 596 + 130 * (g 3).toNatClampNeg + 1)) (by decide +kernel) (by decide +kernel) hb39 rfl ?_
  refine zp_seg (pc' := 60) (lv' := [(6, .ref (m + 596 + 130 * (g 3 + 1).toNatClampNeg)), (5, .ref (m + 596 + 130 * (g 3).toNatClampNeg)), (4, .int (g 3)), (0, .ref m), (1, .ref num), (2, .ref den), (3, .int k)]) (st' := [.int 0, .ref (m + 596 + 130 * (g 3).toNatClampNeg + 1)]) [(59, .iconst 0)] (by decide +kernel) rfl ?_
  have hb40 : w53 (m + 596 + 130 * (g 3).toNatClampNeg + 1) = some (.inr (4, 64, zbr (m + 596 + 130 * (g 3).toNatClampNeg))) := (heq53 (m + 596 + 130 * (g 3).toNatClampNeg + 1) (zx_X16_lineInto_6 hgb3)).trans hb31
  refine zr_aald (v := .ref (m + 596 + 130 * (g 3).toNatClampNeg + 2 + 2 * 0)) (by decide +kernel) hb40 (by decide) (zin (by decide) (by decide)) rfl ?_
  have hb41 := hb32.si hsi53
  have hrow42 := hb41.rowo 0 (by omega)
  refine zp_seg (pc' := 62) (lv' := [(6, .ref (m + 596 + 130 * (g 3 + 1).toNatClampNeg)), (5, .ref (m + 596 + 130 * (g 3).toNatClampNeg)), (4, .int (g 3)), (0, .ref m), (1, .ref num), (2, .ref den), (3, .int k)]) (st' := [.int 2, .ref (m + 596 + 130 * (g 3).toNatClampNeg + 2 + 2 * 0)]) [(61, .iconst 2)] (by decide +kernel) rfl ?_
  have hb43 : w53 (m + 596 + 130 * (g 3).toNatClampNeg + 2 + 2 * 0) = some (.inl (14, [.ref (m + 596 + 130 * (g 3).toNatClampNeg + 2 + 2 * 0 + 1), .int n25])) := (heq53 (m + 596 + 130 * (g 3).toNatClampNeg + 2 + 2 * 0) (zx_X16_lineInto_7 hgb3)).trans hb34
  refine zr_put2 (idx := 25) (k := 1) (fs2 := [.ref (m + 596 + 130 * (g 3).toNatClampNeg + 2 + 2 * 0 + 1), .int 2]) (by decide +kernel) (by decide +kernel) hb43 (Nat.le_of_ble_eq_true rfl) rfl rfl rfl ?_
  show zP (d + 1) zq_X16_lineInto 65 [(6, .ref (m + 596 + 130 * (g 3 + 1).toNatClampNeg)), (5, .ref (m + 596 + 130 * (g 3).toNatClampNeg)), (4, .int (g 3)), (0, .ref m), (1, .ref num), (2, .ref den), (3, .int k)] [] (zup w53 (m + 596 + 130 * (g 3).toNatClampNeg + 2 + 2 * 0) (.inl (14, [.ref (m + 596 + 130 * (g 3).toNatClampNeg + 2 + 2 * 0 + 1), .int 2]))) sz 0 0 Post
  obtain ⟨w62, ew62⟩ : ∃ wz9, wz9 = zup w53 (m + 596 + 130 * (g 3).toNatClampNeg + 2 + 2 * 0) (.inl (14, [.ref (m + 596 + 130 * (g 3).toNatClampNeg + 2 + 2 * 0 + 1), .int 2])) := ⟨_, rfl⟩
  have hsi62 : zSI w53 w62 := by rw [ew62]; exact zSI.setU hb43
  have heq62 : ∀ x, x ≠ m + 596 + 130 * (g 3).toNatClampNeg + 2 + 2 * 0 → w62 x = w53 x := fun x hx => by rw [ew62]; exact zup_n hx
  have hc62 : w62 (m + 596 + 130 * (g 3).toNatClampNeg + 2 + 2 * 0) = some (.inl (14, [.ref (m + 596 + 130 * (g 3).toNatClampNeg + 2 + 2 * 0 + 1), .int 2])) := by rw [ew62]; exact zup_s
  rw [← ew62]
  clear ew62
  refine zp_seg (pc' := 67) (lv' := [(6, .ref (m + 596 + 130 * (g 3 + 1).toNatClampNeg)), (5, .ref (m + 596 + 130 * (g 3).toNatClampNeg)), (4, .int (g 3)), (0, .ref m), (1, .ref num), (2, .ref den), (3, .int k)]) (st' := [.ref (m + 596 + 130 * (g 3).toNatClampNeg)]) [(65, .aload 5)] (by decide +kernel) rfl ?_
  have hb44 : w62 (m + 596 + 130 * (g 3).toNatClampNeg) = some (.inl (11, [.ref (m + 596 + 130 * (g 3).toNatClampNeg + 1), .int n16])) := (heq62 (m + 596 + 130 * (g 3).toNatClampNeg) (zx_X16_lineInto_13 hgb3)).trans hb39
  refine zr_get (idx := 98) (k := 0) (v := .ref (m + 596 + 130 * (g 3).toNatClampNeg + 1)) (by decide +kernel) (by decide +kernel) hb44 rfl ?_
  refine zp_seg (pc' := 71) (lv' := [(6, .ref (m + 596 + 130 * (g 3 + 1).toNatClampNeg)), (5, .ref (m + 596 + 130 * (g 3).toNatClampNeg)), (4, .int (g 3)), (0, .ref m), (1, .ref num), (2, .ref den), (3, .int k)]) (st' := [.int 0, .ref (m + 596 + 130 * (g 3).toNatClampNeg + 1)]) [(70, .iconst 0)] (by decide +kernel) rfl ?_
  have hb45 : w62 (m + 596 + 130 * (g 3).toNatClampNeg + 1) = some (.inr (4, 64, zbr (m + 596 + 130 * (g 3).toNatClampNeg))) := (heq62 (m + 596 + 130 * (g 3).toNatClampNeg + 1) (zx_X16_lineInto_14 hgb3)).trans hb40
  refine zr_aald (v := .ref (m + 596 + 130 * (g 3).toNatClampNeg + 2 + 2 * 0)) (by decide +kernel) hb45 (by decide) (zin (by decide) (by decide)) rfl ?_
  have hb46 := hb41.si hsi62
  have hrow47 := hb46.rowo 0 (by omega)
  have hb48 : w62 (m + 596 + 130 * (g 3).toNatClampNeg + 2 + 2 * 0 + 1) = some (.inr (0, 200, .inl (upd (upd f26 ((0 : Int32).toNatClampNeg) x34) ((1 : Int32).toNatClampNeg) x52))) := (heq62 (m + 596 + 130 * (g 3).toNatClampNeg + 2 + 2 * 0 + 1) (zx_X16_lineInto_15 hgb3)).trans hc53
  have hx1 : zr1 x34 ∧ zr1 x52 := ⟨by rw [ex34]; exact hkc9, by rw [ex52]; exact hka9⟩
  have hUn9 := zUn_two hc62 hb48 (by decide) hx1.1 hx1.2
  refine zr_callV (idx := 52) (j := 251) (by decide +kernel) (by decide +kernel) (show zMe 251 = some zq_X15_trim from rfl) rfl rfl (Nat.le_of_ble_eq_true rfl) rfl rfl hc62 (Nat.le_of_ble_eq_true rfl) (Nat.le_of_ble_eq_true rfl) (c_X15_trim (w := w62) (m + 596 + 130 * (g 3).toNatClampNeg + 2 + 2 * 0) hUn9) (by omega) (fun v72 w72 hp72 => ?_)
  obtain ⟨hsi72, heq72, hp72_0, rfl⟩ := hp72
  show zP _ _ _ _ [] _ _ _ _ _
  refine zp_seg (pc' := 78) (lv' := [(6, .ref (m + 596 + 130 * (g 3 + 1).toNatClampNeg)), (5, .ref (m + 596 + 130 * (g 3).toNatClampNeg)), (4, .int (g 3)), (0, .ref m), (1, .ref num), (2, .ref den), (3, .int k)]) (st' := [.int 1, .ref (m + 596 + 130 * (g 3).toNatClampNeg)]) [(75, .aload 5), (77, .iconst 1)] (by decide +kernel) rfl ?_
  have hb49 : w72 (m + 596 + 130 * (g 3).toNatClampNeg) = some (.inl (11, [.ref (m + 596 + 130 * (g 3).toNatClampNeg + 1), .int n16])) := (heq72 (m + 596 + 130 * (g 3).toNatClampNeg) (zx_X16_lineInto_16 hgb3)).trans hb44
  refine zr_put2 (idx := 93) (k := 1) (fs2 := [.ref (m + 596 + 130 * (g 3).toNatClampNeg + 1), .int 1]) (by decide +kernel) (by decide +kernel) hb49 (Nat.le_of_ble_eq_true rfl) rfl rfl rfl ?_
  show zP (d + 1) zq_X16_lineInto 81 [(6, .ref (m + 596 + 130 * (g 3 + 1).toNatClampNeg)), (5, .ref (m + 596 + 130 * (g 3).toNatClampNeg)), (4, .int (g 3)), (0, .ref m), (1, .ref num), (2, .ref den), (3, .int k)] [] (zup w72 (m + 596 + 130 * (g 3).toNatClampNeg) (.inl (11, [.ref (m + 596 + 130 * (g 3).toNatClampNeg + 1), .int 1]))) sz 0 0 Post
  obtain ⟨w78, ew78⟩ : ∃ wz9, wz9 = zup w72 (m + 596 + 130 * (g 3).toNatClampNeg) (.inl (11, [.ref (m + 596 + 130 * (g 3).toNatClampNeg + 1), .int 1])) := ⟨_, rfl⟩
  have hsi78 : zSI w72 w78 := by rw [ew78]; exact zSI.setB hb49
  have heq78 : ∀ x, x ≠ m + 596 + 130 * (g 3).toNatClampNeg → w78 x = w72 x := fun x hx => by rw [ew78]; exact zup_n hx
  have hc78 : w78 (m + 596 + 130 * (g 3).toNatClampNeg) = some (.inl (11, [.ref (m + 596 + 130 * (g 3).toNatClampNeg + 1), .int 1])) := by rw [ew78]; exact zup_s
  rw [← ew78]
  clear ew78
  refine zp_seg (pc' := 82) (lv' := [(6, .ref (m + 596 + 130 * (g 3 + 1).toNatClampNeg)), (5, .ref (m + 596 + 130 * (g 3).toNatClampNeg)), (4, .int (g 3)), (0, .ref m), (1, .ref num), (2, .ref den), (3, .int k)]) (st' := [.ref m]) [(81, .aload_n 0)] (by decide +kernel) rfl ?_
  have hb50 : w78 m = some (.inl (15, zMo m (zs g 3 (g 3 + 1 + 1)) r)) := ((heq78 m (zx_X16_lineInto_19 hgb3)).trans ((heq72 m (zx_X16_lineInto_18 hgb3)).trans ((heq62 m (zx_X16_lineInto_17 hgb3)).trans (heq53 m (zx_X16_lineInto_8 hgb3))))).trans hb35
  refine zr_get (idx := 474) (k := 33) (v := .ref (m + 97)) (by decide +kernel) (by decide +kernel) hb50 rfl ?_
  refine zp_seg (pc' := 86) (lv' := [(6, .ref (m + 596 + 130 * (g 3 + 1).toNatClampNeg)), (5, .ref (m + 596 + 130 * (g 3).toNatClampNeg)), (4, .int (g 3)), (0, .ref m), (1, .ref num), (2, .ref den), (3, .int k)]) (st' := [.int k, .ref (m + 97)]) [(85, .iload_n 3)] (by decide +kernel) rfl ?_
  have hb51 : w78 (m + 97) = some (.inr (0, 120, .inl qb)) := ((heq78 (m + 97) (zx_X16_lineInto_26 hgb3)).trans ((heq72 (m + 97) (zx_X16_lineInto_25 hgb3)).trans ((heq62 (m + 97) (zx_X16_lineInto_24 hgb3)).trans ((heq53 (m + 97) (zx_X16_lineInto_23 hgb3)).trans ((heq35 (m + 97) (zx_X16_lineInto_23 hgb3)).trans ((heq13 (m + 97) ⟨(zx_X16_lineInto_20), (zx_X16_lineInto_22 hgn3_1 hgb3)⟩).trans (heq7 (m + 97) ⟨(zx_X16_lineInto_20), (zx_X16_lineInto_21 hgb3)⟩))))))).trans hA_m_97
  refine zr_iald (by decide +kernel) hb51 (zin (by first | omega | decide) (by first | omega | decide)) ?_
  obtain ⟨x86, ex86⟩ : ∃ x9, x9 = qb (k.toNatClampNeg) := ⟨_, rfl⟩
  rw [← ex86]
  have kx86 := zrng x86
  have hx2 : zr1 x86 := by rw [ex86]; exact hkb9
  have hx3 : x52 ≠ 0 ∨ x86 ≠ 0 := by rw [ex52, ex86]; exact hkn9
  have hl9 := zLi_nz (z := x34) hx1.2 hx2 hx3
  have hl8 := zLi_dn x52 x86 x34
  have hJ112 : ∀ (wL112 : zM), (zSI w78 wL112) → (∀ x, ((x < m + 596 + 130 * (g 3).toNatClampNeg ∨ m + 596 + 130 * (g 3).toNatClampNeg + 130 ≤ x)) ∧ x ≠ m → wL112 x = w78 x) → (zB wL112 (m + 596 + 130 * (g 3).toNatClampNeg) (zLi x52 x86 x34)) → (wL112 m = some (.inl (15, zMo m (zs g 3 (g 3 + 1 + 1)) r))) → zP (d + 1) zq_X16_lineInto 112 [(0, .ref m), (1, .ref num), (2, .ref den), (3, .int k), (4, .int (g 3)), (5, .ref (m + 596 + 130 * (g 3).toNatClampNeg)), (6, .ref (m + 596 + 130 * (g 3 + 1).toNatClampNeg))] [] wL112 sz 0 0 Post := by
    intro wL112 hsiL112 heqL112 hBl hmL112
    refine zp_seg (pc' := 116) (lv' := [(7, .int 1), (0, .ref m), (1, .ref num), (2, .ref den), (3, .int k), (4, .int (g 3)), (5, .ref (m + 596 + 130 * (g 3).toNatClampNeg)), (6, .ref (m + 596 + 130 * (g 3 + 1).toNatClampNeg))]) (st' := [.ref m]) [(112, .iconst 1), (113, .istore 7), (115, .aload_n 0)] (by decide +kernel) rfl ?_
    refine zr_get (idx := 480) (k := 35) (v := .ref (m + 99)) (by decide +kernel) (by decide +kernel) hmL112 rfl ?_
    refine zp_seg (pc' := 120) (lv' := [(7, .int 1), (0, .ref m), (1, .ref num), (2, .ref den), (3, .int k), (4, .int (g 3)), (5, .ref (m + 596 + 130 * (g 3).toNatClampNeg)), (6, .ref (m + 596 + 130 * (g 3 + 1).toNatClampNeg))]) (st' := [.int k, .ref (m + 99)]) [(119, .iload_n 3)] (by decide +kernel) rfl ?_
    have hb52 : wL112 (m + 99) = some (.inr (0, 120, .inl qe)) := ((heqL112 (m + 99) ⟨(zx_X16_lineInto_28 hgb3), (zx_X16_lineInto_34)⟩).trans ((heq78 (m + 99) (zx_X16_lineInto_33 hgb3)).trans ((heq72 (m + 99) (zx_X16_lineInto_32 hgb3)).trans ((heq62 (m + 99) (zx_X16_lineInto_31 hgb3)).trans ((heq53 (m + 99) (zx_X16_lineInto_30 hgb3)).trans ((heq35 (m + 99) (zx_X16_lineInto_30 hgb3)).trans ((heq13 (m + 99) ⟨(zx_X16_lineInto_27), (zx_X16_lineInto_29 hgn3_1 hgb3)⟩).trans (heq7 (m + 99) ⟨(zx_X16_lineInto_27), (zx_X16_lineInto_28 hgb3)⟩)))))))).trans hA_m_99
    refine zr_iald (by decide +kernel) hb52 (zin (by first | omega | decide) (by first | omega | decide)) ?_
    obtain ⟨x120, ex120⟩ : ∃ x9, x9 = qe (k.toNatClampNeg) := ⟨_, rfl⟩
    rw [← ex120]
    have kx120 := zrng x120
    refine zr_abs (idx := 273) (by decide +kernel) (by decide +kernel) (by omega) (Nat.le_of_ble_eq_true rfl) ?_
    obtain ⟨m53, em53, hm53⟩ := zabsI x120
    rw [← em53]
    have km53 := zrng m53
    refine zp_seg (pc' := 126) (lv' := [(8, .int m53), (7, .int 1), (0, .ref m), (1, .ref num), (2, .ref den), (3, .int k), (4, .int (g 3)), (5, .ref (m + 596 + 130 * (g 3).toNatClampNeg)), (6, .ref (m + 596 + 130 * (g 3 + 1).toNatClampNeg))]) (st' := []) [(124, .istore 8)] (by decide +kernel) rfl ?_
    have hL126 : ∀ (mm126 : Nat) (wL126 : zM) (y7_126 : Int32) (y8_126 : Int32) (P : zA2) (Q : zA2), (zSI wL112 wL126) → (∀ x, ((x < num ∨ num + 130 ≤ x) ∧ (x < den ∨ den + 130 ≤ x) ∧ (x < m + 596 + 130 * (g 3 + 1).toNatClampNeg ∨ m + 596 + 130 * (g 3 + 1).toNatClampNeg + 130 ≤ x) ∧ (x < m + 276 + 2 * (g 1).toNatClampNeg ∨ m + 276 + 2 * (g 1).toNatClampNeg + (320 - 2 * (g 1).toNatClampNeg) ≤ x) ∧ (x < m + 596 + 130 * (g 3 + 1 + 1).toNatClampNeg ∨ m + 596 + 130 * (g 3 + 1 + 1).toNatClampNeg + (5720 - 130 * (g 3 + 1 + 1).toNatClampNeg) ≤ x)) ∧ x ≠ m → wL126 x = wL112 x) → ((y7_126 = 0 ∨ y7_126 = 1)) → (zB wL126 num P) → (zB wL126 den Q) → (zBo wL126 (m + 596 + 130 * (g 3 + 1).toNatClampNeg)) → (wL126 m = some (.inl (15, zMo m (zs g 3 (g 3 + 1 + 1)) r))) → (0 < zrw P ∧ 0 < zrw Q ∧ zrw P ≤ 51 ∧ zdn P ≤ 111 ∧ zrw Q ≤ 51 ∧ zdn Q ≤ 111 ∧ (y7_126 = 1 → zrw P ≤ 50 ∧ zdn P ≤ 110 ∧ zrw Q ≤ 50 ∧ zdn Q ≤ 110)) → y8_126.toInt.toNat < mm126 → zP (d + 1) zq_X16_lineInto 126 [(0, .ref m), (1, .ref num), (2, .ref den), (3, .int k), (4, .int (g 3)), (5, .ref (m + 596 + 130 * (g 3).toNatClampNeg)), (6, .ref (m + 596 + 130 * (g 3 + 1).toNatClampNeg)), (7, .int y7_126), (8, .int y8_126)] [] wL126 sz 0 0 Post := by
      intro mm126
      induction mm126 with
      | zero => intros; omega
      | succ mm126 ih126 =>
      intro wL126 y7_126 y8_126 P Q hsiL126 heqL126 hi126_0 hBP hBQ hBq hmL126 hS hmu126
      have ky7_126 := zrng y7_126
      have ky8_126 := zrng y8_126
      refine zp_seg (pc' := 128) (lv' := [(0, .ref m), (1, .ref num), (2, .ref den), (3, .int k), (4, .int (g 3)), (5, .ref (m + 596 + 130 * (g 3).toNatClampNeg)), (6, .ref (m + 596 + 130 * (g 3 + 1).toNatClampNeg)), (7, .int y7_126), (8, .int y8_126)]) (st' := [.int y8_126]) [(126, .iload 8)] (by decide +kernel) rfl ?_
      refine zp_if (i := .ifCond .le 113) (c := y8_126 ≤ 0) (t := 241) (e := 131) (lv' := [(0, .ref m), (1, .ref num), (2, .ref den), (3, .int k), (4, .int (g 3)), (5, .ref (m + 596 + 130 * (g 3).toNatClampNeg)), (6, .ref (m + 596 + 130 * (g 3 + 1).toNatClampNeg)), (7, .int y7_126), (8, .int y8_126)]) (st' := []) (by decide +kernel) rfl (fun cc128 => ?_) (fun cc128 => ?_)
      ·
        have f54 := zleI cc128
        rw [show (0 : Int32).toInt = 0 from by decide] at f54
        refine zp_seg (pc' := 244) (lv' := [(0, .ref m), (1, .ref num), (2, .ref den), (3, .int k), (4, .int (g 3)), (5, .ref (m + 596 + 130 * (g 3).toNatClampNeg)), (6, .ref (m + 596 + 130 * (g 3 + 1).toNatClampNeg)), (7, .int y7_126), (8, .int y8_126)]) (st' := [.int (g 3), .ref m]) [(241, .aload_n 0), (242, .iload 4)] (by decide +kernel) rfl ?_
        refine zr_put2 (idx := 90) (k := 3) (fs2 := zMo m g r) (by decide +kernel) (by decide +kernel) hmL126 (Nat.le_of_ble_eq_true rfl) rfl rfl rfl ?_
        show zP (d + 1) zq_X16_lineInto 247 [(0, .ref m), (1, .ref num), (2, .ref den), (3, .int k), (4, .int (g 3)), (5, .ref (m + 596 + 130 * (g 3).toNatClampNeg)), (6, .ref (m + 596 + 130 * (g 3 + 1).toNatClampNeg)), (7, .int y7_126), (8, .int y8_126)] [] (zup wL126 m (.inl (15, zMo m g r))) sz 0 0 Post
        obtain ⟨w244, ew244⟩ : ∃ wz9, wz9 = zup wL126 m (.inl (15, zMo m g r)) := ⟨_, rfl⟩
        have hsi244 : zSI wL126 w244 := by rw [ew244]; exact zSI.setG hmL126 _ _
        have heq244 : ∀ x, x ≠ m → w244 x = wL126 x := fun x hx => by rw [ew244]; exact zup_n hx
        have hc244 : w244 m = some (.inl (15, zMo m g r)) := by rw [ew244]; exact zup_s
        rw [← ew244]
        clear ew244
        refine zp_seg (pc' := 249) (lv' := [(0, .ref m), (1, .ref num), (2, .ref den), (3, .int k), (4, .int (g 3)), (5, .ref (m + 596 + 130 * (g 3).toNatClampNeg)), (6, .ref (m + 596 + 130 * (g 3 + 1).toNatClampNeg)), (7, .int y7_126), (8, .int y8_126)]) (st' := [.int y7_126]) [(247, .iload 7)] (by decide +kernel) rfl ?_
        have hmend : w244 m = w m := by rw [hc244, hm]
        have hoffend : ∀ x, (x < num ∨ num + 130 ≤ x) ∧ (x < den ∨ den + 130 ≤ x) ∧ (x < m + 276 + 2 * (g 1).toNatClampNeg ∨ m + 276 + 2 * (g 1).toNatClampNeg + (320 - 2 * (g 1).toNatClampNeg) ≤ x) ∧ (x < m + 596 + 130 * (g 3).toNatClampNeg ∨ m + 596 + 130 * (g 3).toNatClampNeg + (5720 - 130 * (g 3).toNatClampNeg) ≤ x) → w244 x = w x := fun x hx => by
            by_cases ex : x = m
            · rw [ex]; exact hmend
            · exact ((heq244 x ex).trans ((heqL126 x ⟨⟨hx.1, hx.2.1, (zx_X16_lineInto_37 hx.2.2.2 hgn3_1 hgb3), hx.2.2.1, (zx_X16_lineInto_42 hx.2.2.2 hgn3_2 hgb3)⟩, ex⟩).trans ((heqL112 x ⟨(zx_X16_lineInto_36 hx.2.2.2 hgb3), ex⟩).trans ((heq78 x (zx_X16_lineInto_41 hx.2.2.2 hgb3)).trans ((heq72 x (zx_X16_lineInto_40 hx.2.2.2 hgb3)).trans ((heq62 x (zx_X16_lineInto_39 hx.2.2.2 hgb3)).trans ((heq53 x (zx_X16_lineInto_38 hx.2.2.2 hgb3)).trans ((heq35 x (zx_X16_lineInto_38 hx.2.2.2 hgb3)).trans ((heq13 x ⟨(zx_X16_lineInto_35 ex), (zx_X16_lineInto_37 hx.2.2.2 hgn3_1 hgb3)⟩).trans (heq7 x ⟨(zx_X16_lineInto_35 ex), (zx_X16_lineInto_36 hx.2.2.2 hgb3)⟩))))))))))
        have hb55 : zB w244 num P := hBP.ag (fun x hx1 hx2 => (heq244 x (zx_X16_lineInto_43 hx1 hx2 hmn hgb3)))
        have hb56 : zB w244 den Q := hBQ.ag (fun x hx1 hx2 => (heq244 x (zx_X16_lineInto_44 hx1 hx2 hmd hgb3)))
        refine zr_retB (by decide +kernel) rfl hi126_0 ?_
        rw [← hPost]; exact ⟨rfl, _, rfl, P, Q, (((((((((hsi7.tr hsi13).tr hsi35).tr hsi53).tr hsi62).tr hsi72).tr hsi78).tr hsiL112).tr hsiL126).tr hsi244), hoffend, (by first | exact hb55 | (have z9 := hb55; simpa using z9)), (by first | exact hb56 | (have z9 := hb56; simpa using z9)), (by
              exact ⟨hS.1, hS.2.1, hS.2.2.1, hS.2.2.2.1, hS.2.2.2.2.1, hS.2.2.2.2.2.1⟩), _, rfl, hi126_0, (by
              exact hS.2.2.2.2.2.2)⟩
      ·
        have f57 := znleI cc128
        rw [show (0 : Int32).toInt = 0 from by decide] at f57
        refine zp_seg (pc' := 133) (lv' := [(0, .ref m), (1, .ref num), (2, .ref den), (3, .int k), (4, .int (g 3)), (5, .ref (m + 596 + 130 * (g 3).toNatClampNeg)), (6, .ref (m + 596 + 130 * (g 3 + 1).toNatClampNeg)), (7, .int y7_126), (8, .int y8_126)]) (st' := [.int y7_126]) [(131, .iload 7)] (by decide +kernel) rfl ?_
        refine zp_if (i := .ifCond .eq 108) (c := y7_126 = 0) (t := 241) (e := 136) (lv' := [(0, .ref m), (1, .ref num), (2, .ref den), (3, .int k), (4, .int (g 3)), (5, .ref (m + 596 + 130 * (g 3).toNatClampNeg)), (6, .ref (m + 596 + 130 * (g 3 + 1).toNatClampNeg)), (7, .int y7_126), (8, .int y8_126)]) (st' := []) (by decide +kernel) rfl (fun cc133 => ?_) (fun cc133 => ?_)
        ·
          have f58 := zeqI cc133
          rw [show (0 : Int32).toInt = 0 from by decide] at f58
          refine zp_seg (pc' := 244) (lv' := [(0, .ref m), (1, .ref num), (2, .ref den), (3, .int k), (4, .int (g 3)), (5, .ref (m + 596 + 130 * (g 3).toNatClampNeg)), (6, .ref (m + 596 + 130 * (g 3 + 1).toNatClampNeg)), (7, .int y7_126), (8, .int y8_126)]) (st' := [.int (g 3), .ref m]) [(241, .aload_n 0), (242, .iload 4)] (by decide +kernel) rfl ?_
          refine zr_put2 (idx := 90) (k := 3) (fs2 := zMo m g r) (by decide +kernel) (by decide +kernel) hmL126 (Nat.le_of_ble_eq_true rfl) rfl rfl rfl ?_
          show zP (d + 1) zq_X16_lineInto 247 [(0, .ref m), (1, .ref num), (2, .ref den), (3, .int k), (4, .int (g 3)), (5, .ref (m + 596 + 130 * (g 3).toNatClampNeg)), (6, .ref (m + 596 + 130 * (g 3 + 1).toNatClampNeg)), (7, .int y7_126), (8, .int y8_126)] [] (zup wL126 m (.inl (15, zMo m g r))) sz 0 0 Post
          obtain ⟨w244, ew244⟩ : ∃ wz9, wz9 = zup wL126 m (.inl (15, zMo m g r)) := ⟨_, rfl⟩
          have hsi244 : zSI wL126 w244 := by rw [ew244]; exact zSI.setG hmL126 _ _
          have heq244 : ∀ x, x ≠ m → w244 x = wL126 x := fun x hx => by rw [ew244]; exact zup_n hx
          have hc244 : w244 m = some (.inl (15, zMo m g r)) := by rw [ew244]; exact zup_s
          rw [← ew244]
          clear ew244
          refine zp_seg (pc' := 249) (lv' := [(0, .ref m), (1, .ref num), (2, .ref den), (3, .int k), (4, .int (g 3)), (5, .ref (m + 596 + 130 * (g 3).toNatClampNeg)), (6, .ref (m + 596 + 130 * (g 3 + 1).toNatClampNeg)), (7, .int y7_126), (8, .int y8_126)]) (st' := [.int y7_126]) [(247, .iload 7)] (by decide +kernel) rfl ?_
          have hmend : w244 m = w m := by rw [hc244, hm]
          have hoffend : ∀ x, (x < num ∨ num + 130 ≤ x) ∧ (x < den ∨ den + 130 ≤ x) ∧ (x < m + 276 + 2 * (g 1).toNatClampNeg ∨ m + 276 + 2 * (g 1).toNatClampNeg + (320 - 2 * (g 1).toNatClampNeg) ≤ x) ∧ (x < m + 596 + 130 * (g 3).toNatClampNeg ∨ m + 596 + 130 * (g 3).toNatClampNeg + (5720 - 130 * (g 3).toNatClampNeg) ≤ x) → w244 x = w x := fun x hx => by
              by_cases ex : x = m
              · rw [ex]; exact hmend
              · exact ((heq244 x ex).trans ((heqL126 x ⟨⟨hx.1, hx.2.1, (zx_X16_lineInto_37 hx.2.2.2 hgn3_1 hgb3), hx.2.2.1, (zx_X16_lineInto_42 hx.2.2.2 hgn3_2 hgb3)⟩, ex⟩).trans ((heqL112 x ⟨(zx_X16_lineInto_36 hx.2.2.2 hgb3), ex⟩).trans ((heq78 x (zx_X16_lineInto_41 hx.2.2.2 hgb3)).trans ((heq72 x (zx_X16_lineInto_40 hx.2.2.2 hgb3)).trans ((heq62 x (zx_X16_lineInto_39 hx.2.2.2 hgb3)).trans ((heq53 x (zx_X16_lineInto_38 hx.2.2.2 hgb3)).trans ((heq35 x (zx_X16_lineInto_38 hx.2.2.2 hgb3)).trans ((heq13 x ⟨(zx_X16_lineInto_35 ex), (zx_X16_lineInto_37 hx.2.2.2 hgn3_1 hgb3)⟩).trans (heq7 x ⟨(zx_X16_lineInto_35 ex), (zx_X16_lineInto_36 hx.2.2.2 hgb3)⟩))))))))))
          have hb59 : zB w244 num P := hBP.ag (fun x hx1 hx2 => (heq244 x (zx_X16_lineInto_43 hx1 hx2 hmn hgb3)))
          have hb60 : zB w244 den Q := hBQ.ag (fun x hx1 hx2 => (heq244 x (zx_X16_lineInto_44 hx1 hx2 hmd hgb3)))
          refine zr_retB (by decide +kernel) rfl hi126_0 ?_
          rw [← hPost]; exact ⟨rfl, _, rfl, P, Q, (((((((((hsi7.tr hsi13).tr hsi35).tr hsi53).tr hsi62).tr hsi72).tr hsi78).tr hsiL112).tr hsiL126).tr hsi244), hoffend, (by first | exact hb59 | (have z9 := hb59; simpa using z9)), (by first | exact hb60 | (have z9 := hb60; simpa using z9)), (by
                exact ⟨hS.1, hS.2.1, hS.2.2.1, hS.2.2.2.1, hS.2.2.2.2.1, hS.2.2.2.2.2.1⟩), _, rfl, hi126_0, (by
                exact hS.2.2.2.2.2.2)⟩
        ·
          have f61 := zneI cc133
          rw [show (0 : Int32).toInt = 0 from by decide] at f61
          have hsm := hS.2.2.2.2.2.2 (hi126_0.resolve_left cc133)
          obtain ⟨hs1, hs2, hs3, hs4, hs5, hs6, -⟩ := id hS
          refine zp_seg (pc' := 137) (lv' := [(0, .ref m), (1, .ref num), (2, .ref den), (3, .int k), (4, .int (g 3)), (5, .ref (m + 596 + 130 * (g 3).toNatClampNeg)), (6, .ref (m + 596 + 130 * (g 3 + 1).toNatClampNeg)), (7, .int y7_126), (8, .int y8_126)]) (st' := [.ref m]) [(136, .aload_n 0)] (by decide +kernel) rfl ?_
          refine zr_get (idx := 480) (k := 35) (v := .ref (m + 99)) (by decide +kernel) (by decide +kernel) hmL126 rfl ?_
          refine zp_seg (pc' := 141) (lv' := [(0, .ref m), (1, .ref num), (2, .ref den), (3, .int k), (4, .int (g 3)), (5, .ref (m + 596 + 130 * (g 3).toNatClampNeg)), (6, .ref (m + 596 + 130 * (g 3 + 1).toNatClampNeg)), (7, .int y7_126), (8, .int y8_126)]) (st' := [.int k, .ref (m + 99)]) [(140, .iload_n 3)] (by decide +kernel) rfl ?_
          have hb62 : wL126 (m + 99) = some (.inr (0, 120, .inl qe)) := (heqL126 (m + 99) ⟨⟨(zx_X16_lineInto_45 hmn hgb3), (zx_X16_lineInto_46 hmd hgb3), (zx_X16_lineInto_29 hgn3_1 hgb3), (zx_X16_lineInto_47 hgb1), (zx_X16_lineInto_48 hgn3_2 hgb3)⟩, (zx_X16_lineInto_34)⟩).trans hb52
          refine zr_iald (by decide +kernel) hb62 (zin (by first | omega | decide) (by first | omega | decide)) ?_
          rw [← ex120]
          refine zp_if (i := .ifCond .le 7) (c := x120 ≤ 0) (t := 149) (e := 145) (lv' := [(0, .ref m), (1, .ref num), (2, .ref den), (3, .int k), (4, .int (g 3)), (5, .ref (m + 596 + 130 * (g 3).toNatClampNeg)), (6, .ref (m + 596 + 130 * (g 3 + 1).toNatClampNeg)), (7, .int y7_126), (8, .int y8_126)]) (st' := []) (by decide +kernel) rfl (fun cc142 => ?_) (fun cc142 => ?_)
          ·
            have f63 := zleI cc142
            rw [show (0 : Int32).toInt = 0 from by decide] at f63
            refine zp_seg (pc' := 153) (lv' := [(9, .ref den), (0, .ref m), (1, .ref num), (2, .ref den), (3, .int k), (4, .int (g 3)), (5, .ref (m + 596 + 130 * (g 3).toNatClampNeg)), (6, .ref (m + 596 + 130 * (g 3 + 1).toNatClampNeg)), (7, .int y7_126), (8, .int y8_126)]) (st' := [.ref m]) [(149, .aload_n 2), (150, .astore 9), (152, .aload_n 0)] (by decide +kernel) rfl ?_
            refine zr_get (idx := 480) (k := 35) (v := .ref (m + 99)) (by decide +kernel) (by decide +kernel) hmL126 rfl ?_
            refine zp_seg (pc' := 157) (lv' := [(9, .ref den), (0, .ref m), (1, .ref num), (2, .ref den), (3, .int k), (4, .int (g 3)), (5, .ref (m + 596 + 130 * (g 3).toNatClampNeg)), (6, .ref (m + 596 + 130 * (g 3 + 1).toNatClampNeg)), (7, .int y7_126), (8, .int y8_126)]) (st' := [.int k, .ref (m + 99)]) [(156, .iload_n 3)] (by decide +kernel) rfl ?_
            refine zr_iald (by decide +kernel) hb62 (zin (by first | omega | decide) (by first | omega | decide)) ?_
            rw [← ex120]
            refine zp_if (i := .ifCond .le 7) (c := x120 ≤ 0) (t := 165) (e := 161) (lv' := [(9, .ref den), (0, .ref m), (1, .ref num), (2, .ref den), (3, .int k), (4, .int (g 3)), (5, .ref (m + 596 + 130 * (g 3).toNatClampNeg)), (6, .ref (m + 596 + 130 * (g 3 + 1).toNatClampNeg)), (7, .int y7_126), (8, .int y8_126)]) (st' := []) (by decide +kernel) rfl (fun cc158 => ?_) (fun cc158 => ?_)
            ·
              have f64 := zleI cc158
              rw [show (0 : Int32).toInt = 0 from by decide] at f64
              refine zp_seg (pc' := 175) (lv' := [(10, .ref num), (9, .ref den), (0, .ref m), (1, .ref num), (2, .ref den), (3, .int k), (4, .int (g 3)), (5, .ref (m + 596 + 130 * (g 3).toNatClampNeg)), (6, .ref (m + 596 + 130 * (g 3 + 1).toNatClampNeg)), (7, .int y7_126), (8, .int y8_126)]) (st' := [.ref (m + 596 + 130 * (g 3).toNatClampNeg), .ref num, .ref (m + 596 + 130 * (g 3 + 1).toNatClampNeg), .ref m]) [(165, .aload_n 1), (166, .astore 10), (168, .aload_n 0), (169, .aload 6), (171, .aload 10), (173, .aload 5)] (by decide +kernel) rfl ?_
              have hb65 := hb12.si (((((((hsi13.tr hsi35).tr hsi53).tr hsi62).tr hsi72).tr hsi78).tr hsiL112).tr hsiL126)
              have hb66 : zB wL126 (m + 596 + 130 * (g 3).toNatClampNeg) (zLi x52 x86 x34) := hBl.ag (fun x hx1 hx2 => (heqL126 x ⟨⟨(zx_X16_lineInto_49 hx1 hx2 hmn hgb3), (zx_X16_lineInto_50 hx1 hx2 hmd hgb3), (zx_X16_lineInto_1 hx1 hx2 hgn3_1 hgb3), (zx_X16_lineInto_51 hx1 hx2 hgb1 hgb3), (zx_X16_lineInto_52 hx1 hx2 hgn3_2 hgb3)⟩, (zx_X16_lineInto_53 hx1 hx2 hgb3)⟩))
              refine zr_callV (idx := 170) (j := 288) (by decide +kernel) (by decide +kernel) (show zMe 288 = some zq_X16_divides from rfl) rfl rfl (Nat.le_of_ble_eq_true rfl) rfl rfl hmL126 (Nat.le_of_ble_eq_true rfl) (Nat.le_of_ble_eq_true rfl) (c_X16_divides (w := wL126) (g1 := (g 1)) (g3 := (g 3 + 1 + 1)) m (m + 596 + 130 * (g 3 + 1).toNatClampNeg) num (m + 596 + 130 * (g 3).toNatClampNeg) hmL126 hb65 hBq hBP hb66 (by first | omega | decide | assumption | exact zr1_1 | exact zr1_0 | fail "num") (by first | omega | decide | assumption | exact zr1_1 | exact zr1_0 | fail "num") (by first | omega | decide | assumption | exact zr1_1 | exact zr1_0 | fail "num") (by first | omega | decide | assumption | exact zr1_1 | exact zr1_0 | fail "num") (by first | omega | decide | assumption | exact zr1_1 | exact zr1_0 | fail "num") (by first | omega | decide | assumption | exact zr1_1 | exact zr1_0 | fail "num") (by first | omega | decide | assumption | exact zr1_1 | exact zr1_0 | fail "num") (by first | omega | decide | assumption | exact zr1_1 | exact zr1_0 | fail "num") (by first | omega | decide | assumption | exact zr1_1 | exact zr1_0 | fail "num") rfl rfl) (by omega) (fun v175 w175 hp175 => ?_)
              obtain ⟨Q_175, hsi175, heq175, hp175_0, r175, rfl, hrb175, hr175⟩ := hp175
              have kr175 := zrng r175
              show zP _ _ _ _ [.int r175] _ _ _ _ _
              refine zp_if (i := .ifCond .eq 13) (c := r175 = 0) (t := 191) (e := 181) (lv' := [(10, .ref num), (9, .ref den), (0, .ref m), (1, .ref num), (2, .ref den), (3, .int k), (4, .int (g 3)), (5, .ref (m + 596 + 130 * (g 3).toNatClampNeg)), (6, .ref (m + 596 + 130 * (g 3 + 1).toNatClampNeg)), (7, .int y7_126), (8, .int y8_126)]) (st' := []) (by decide +kernel) rfl (fun cc178 => ?_) (fun cc178 => ?_)
              ·
                have f67 := zeqI cc178
                rw [show (0 : Int32).toInt = 0 from by decide] at f67
                refine zp_seg (pc' := 198) (lv' := [(10, .ref num), (9, .ref den), (0, .ref m), (1, .ref num), (2, .ref den), (3, .int k), (4, .int (g 3)), (5, .ref (m + 596 + 130 * (g 3).toNatClampNeg)), (6, .ref (m + 596 + 130 * (g 3 + 1).toNatClampNeg)), (7, .int y7_126), (8, .int y8_126)]) (st' := [.ref (m + 596 + 130 * (g 3).toNatClampNeg), .ref den, .ref (m + 596 + 130 * (g 3 + 1).toNatClampNeg), .ref m]) [(191, .aload_n 0), (192, .aload 6), (194, .aload 9), (196, .aload 5)] (by decide +kernel) rfl ?_
                have hb68 : w175 m = some (.inl (15, zMo m (zs g 3 (g 3 + 1 + 1)) r)) := (heq175 m ⟨(zx_X16_lineInto_54 hgn3_1 hgb3), (zx_X16_lineInto_55 hgb1), (zx_X16_lineInto_56 hgn3_2 hgb3)⟩).trans hmL126
                have hb69 := hb65.si hsi175
                have ho198_to := zB.o hp175_0
                have hb70 : zB w175 den Q := hBQ.ag (fun x hx1 hx2 => (heq175 x ⟨(zx_X16_lineInto_57 hx1 hx2 hmd hgn3_1 hgb3), (zx_X16_lineInto_58 hx1 hx2 hmd hgb1 hgb3), (zx_X16_lineInto_59 hx1 hx2 hmd hgn3_2 hgb3)⟩))
                have hb71 : zB w175 (m + 596 + 130 * (g 3).toNatClampNeg) (zLi x52 x86 x34) := hb66.ag (fun x hx1 hx2 => (heq175 x ⟨(zx_X16_lineInto_1 hx1 hx2 hgn3_1 hgb3), (zx_X16_lineInto_51 hx1 hx2 hgb1 hgb3), (zx_X16_lineInto_52 hx1 hx2 hgn3_2 hgb3)⟩))
                refine zr_callV (idx := 197) (j := 278) (by decide +kernel) (by decide +kernel) (show zMe 278 = some zq_X16_times_ from rfl) rfl rfl (Nat.le_of_ble_eq_true rfl) rfl rfl hb68 (Nat.le_of_ble_eq_true rfl) (Nat.le_of_ble_eq_true rfl) (c_X16_times_ (w := w175) (g1 := (g 1)) m (m + 596 + 130 * (g 3 + 1).toNatClampNeg) den (m + 596 + 130 * (g 3).toNatClampNeg) hb68 hb69 ho198_to hb70 hb71 (by first | omega | decide | assumption | exact zr1_1 | exact zr1_0 | fail "num") (by first | omega | decide | assumption | exact zr1_1 | exact zr1_0 | fail "num") (by first | omega | decide | assumption | exact zr1_1 | exact zr1_0 | fail "num") (by first | omega | decide | assumption | exact zr1_1 | exact zr1_0 | fail "num") (by first | omega | decide | assumption | exact zr1_1 | exact zr1_0 | fail "num") (by first | omega | decide | assumption | exact zr1_1 | exact zr1_0 | fail "num") (by first | omega | decide | assumption | exact zr1_1 | exact zr1_0 | fail "num") (by first | omega | decide | assumption | exact zr1_1 | exact zr1_0 | fail "num") rfl) (by omega) (fun v198 w198 hp198 => ?_)
                obtain ⟨hsi198, heq198, hp198_0, rfl⟩ := hp198
                show zP _ _ _ _ [] _ _ _ _ _
                have t9 := zMs_M Q (zLi x52 x86 x34)
                have t1 := t9.1
                have t2 := t9.2.1
                have t3 := t9.2.2 (by assumption) hl9.1
                refine zp_seg (pc' := 205) (lv' := [(10, .ref num), (9, .ref den), (0, .ref m), (1, .ref num), (2, .ref den), (3, .int k), (4, .int (g 3)), (5, .ref (m + 596 + 130 * (g 3).toNatClampNeg)), (6, .ref (m + 596 + 130 * (g 3 + 1).toNatClampNeg)), (7, .int y7_126), (8, .int y8_126)]) (st' := [.ref (m + 596 + 130 * (g 3 + 1).toNatClampNeg), .ref den]) [(201, .aload 9), (203, .aload 6)] (by decide +kernel) rfl ?_
                have hb72 : zB w198 den Q := hb70.ag (fun x hx1 hx2 => (heq198 x ⟨(zx_X16_lineInto_57 hx1 hx2 hmd hgn3_1 hgb3), (zx_X16_lineInto_58 hx1 hx2 hmd hgb1 hgb3)⟩))
                have ho205_to := zB.o hb72
                refine zr_callS (idx := 113) (j := 275) (by decide +kernel) (by decide +kernel) (by decide) (show zMe 275 = some zq_X16_set_ from rfl) rfl rfl (Nat.le_of_ble_eq_true rfl) rfl rfl (Nat.le_of_ble_eq_true rfl) (Nat.le_of_ble_eq_true rfl) (c_X16_set_ (w := w198) den (m + 596 + 130 * (g 3 + 1).toNatClampNeg) ho205_to hp198_0 (by first | omega | decide | assumption | exact zr1_1 | exact zr1_0 | fail "num")) (by omega) (fun v205 w205 hp205 => ?_)
                obtain ⟨hsi205, heq205, hp205_0, rfl⟩ := hp205
                show zP _ _ _ _ [] _ _ _ _ _
                refine zp_seg (pc' := 210) (lv' := [(10, .ref num), (9, .ref den), (0, .ref m), (1, .ref num), (2, .ref den), (3, .int k), (4, .int (g 3)), (5, .ref (m + 596 + 130 * (g 3).toNatClampNeg)), (6, .ref (m + 596 + 130 * (g 3 + 1).toNatClampNeg)), (7, .int y7_126), (8, .int y8_126)]) (st' := [.ref den]) [(208, .aload 9)] (by decide +kernel) rfl ?_
                obtain ⟨n73, hb74, hb75, hb76, hb77, -⟩ := id hp205_0
                have kn73 := zrng n73
                refine zr_get (idx := 93) (k := 1) (v := .int n73) (by decide +kernel) (by decide +kernel) hb74 rfl ?_
                refine zp_seg (pc' := 215) (lv' := [(10, .ref num), (9, .ref den), (0, .ref m), (1, .ref num), (2, .ref den), (3, .int k), (4, .int (g 3)), (5, .ref (m + 596 + 130 * (g 3).toNatClampNeg)), (6, .ref (m + 596 + 130 * (g 3 + 1).toNatClampNeg)), (7, .int y7_126), (8, .int y8_126)]) (st' := [.int 50, .int n73]) [(213, .bipush 50)] (by decide +kernel) rfl ?_
                refine zp_if (i := .if_icmp .gt 17) (c := 50 < n73) (t := 232) (e := 218) (lv' := [(10, .ref num), (9, .ref den), (0, .ref m), (1, .ref num), (2, .ref den), (3, .int k), (4, .int (g 3)), (5, .ref (m + 596 + 130 * (g 3).toNatClampNeg)), (6, .ref (m + 596 + 130 * (g 3 + 1).toNatClampNeg)), (7, .int y7_126), (8, .int y8_126)]) (st' := []) (by decide +kernel) rfl (fun cc215 => ?_) (fun cc215 => ?_)
                ·
                  have f79 := zltI cc215
                  rw [show (50 : Int32).toInt = 50 from by decide] at f79
                  refine zp_seg (pc' := 238) (lv' := [(8, .int (y8_126 + (Int32.ofInt (-1)))), (7, .int 0), (10, .ref num), (9, .ref den), (0, .ref m), (1, .ref num), (2, .ref den), (3, .int k), (4, .int (g 3)), (5, .ref (m + 596 + 130 * (g 3).toNatClampNeg)), (6, .ref (m + 596 + 130 * (g 3 + 1).toNatClampNeg))]) (st' := []) [(232, .iconst 0), (233, .istore 7), (235, .iinc 8 (-1))] (by decide +kernel) rfl ?_
                  have k80 := zaddC y8_126 ((Int32.ofInt (-1))) (n := (-1)) (by decide) (by omega) (by omega)
                  generalize ev238 : (y8_126 + (Int32.ofInt (-1)) : Int32) = v238 at k80 ⊢
                  have kv238 := zrng v238
                  refine zp_seg (pc' := 126) (lv' := [(8, .int v238), (7, .int 0), (10, .ref num), (9, .ref den), (0, .ref m), (1, .ref num), (2, .ref den), (3, .int k), (4, .int (g 3)), (5, .ref (m + 596 + 130 * (g 3).toNatClampNeg)), (6, .ref (m + 596 + 130 * (g 3 + 1).toNatClampNeg))]) (st' := []) [(238, .goto (-112))] (by decide +kernel) rfl ?_
                  have hb81 : zB w205 num P := hBP.ag (fun x hx1 hx2 => ((heq205 x (zx_X16_lineInto_63 hx1 hx2 hnd hmn hmd hgb3)).trans ((heq198 x ⟨(zx_X16_lineInto_60 hx1 hx2 hmn hgn3_1 hgb3), (zx_X16_lineInto_61 hx1 hx2 hmn hgb1 hgb3)⟩).trans (heq175 x ⟨(zx_X16_lineInto_60 hx1 hx2 hmn hgn3_1 hgb3), (zx_X16_lineInto_61 hx1 hx2 hmn hgb1 hgb3), (zx_X16_lineInto_62 hx1 hx2 hmn hgn3_2 hgb3)⟩))))
                  have hb82 := hBq.si ((hsi175.tr hsi198).tr hsi205)
                  have hb83 : w205 m = some (.inl (15, zMo m (zs g 3 (g 3 + 1 + 1)) r)) := ((heq205 m (zx_X16_lineInto_64 hmd hgb3)).trans (heq198 m ⟨(zx_X16_lineInto_54 hgn3_1 hgb3), (zx_X16_lineInto_55 hgb1)⟩)).trans hb68
                  exact (ih126 w205 0 v238 (P) (((zbM Q (zLi x52 x86 x34)))) (((hsiL126.tr hsi175).tr hsi198).tr hsi205) (fun x hx => ((heq205 x hx.1.2.1).trans ((heq198 x ⟨hx.1.2.2.1, hx.1.2.2.2.1⟩).trans ((heq175 x ⟨hx.1.2.2.1, hx.1.2.2.2.1, hx.1.2.2.2.2⟩).trans (heqL126 x ⟨⟨hx.1.1, hx.1.2.1, hx.1.2.2.1, hx.1.2.2.2.1, hx.1.2.2.2.2⟩, hx.2⟩))))) (by first | assumption | omega | decide) hb81 hp205_0 (by
                        exact hb82) hb83 (by
                        refine ⟨by first | assumption | omega, by first | assumption | omega, by omega, by omega, by omega, by omega, fun e => ?_⟩
                        first
                        | exact absurd e (by decide)
                        | exact ⟨by omega, by omega, by omega, by omega⟩) (by omega)).more (zfa1 rfl (zfa1 rfl (zfa1 rfl (zfa1 rfl (zfa1 rfl (zfa1 rfl (zfa1 rfl (zfa1 rfl (zfa1 rfl (zfa0))))))))))
                ·
                  have f85 := znltI cc215
                  rw [show (50 : Int32).toInt = 50 from by decide] at f85
                  refine zp_seg (pc' := 220) (lv' := [(10, .ref num), (9, .ref den), (0, .ref m), (1, .ref num), (2, .ref den), (3, .int k), (4, .int (g 3)), (5, .ref (m + 596 + 130 * (g 3).toNatClampNeg)), (6, .ref (m + 596 + 130 * (g 3 + 1).toNatClampNeg)), (7, .int y7_126), (8, .int y8_126)]) (st' := [.ref den]) [(218, .aload 9)] (by decide +kernel) rfl ?_
                  refine zr_callV (idx := 119) (j := 248) (by decide +kernel) (by decide +kernel) (show zMe 248 = some zq_X12_degreeN from rfl) rfl rfl (Nat.le_of_ble_eq_true rfl) rfl rfl hb74 (Nat.le_of_ble_eq_true rfl) (Nat.le_of_ble_eq_true rfl) (c_X12_degreeN (w := w205) den hp205_0) (by omega) (fun v220 w220 hp220 => ?_)
                  obtain ⟨hpw220, r220, rfl, hr220⟩ := hp220
                  replace hpw220 := hpw220.symm
                  subst hpw220
                  have kr220 := zrng r220
                  show zP _ _ _ _ [.int r220] _ _ _ _ _
                  refine zp_seg (pc' := 225) (lv' := [(10, .ref num), (9, .ref den), (0, .ref m), (1, .ref num), (2, .ref den), (3, .int k), (4, .int (g 3)), (5, .ref (m + 596 + 130 * (g 3).toNatClampNeg)), (6, .ref (m + 596 + 130 * (g 3 + 1).toNatClampNeg)), (7, .int y7_126), (8, .int y8_126)]) (st' := [.int 110, .int r220]) [(223, .bipush 110)] (by decide +kernel) rfl ?_
                  refine zp_if (i := .if_icmp .gt 7) (c := 110 < r220) (t := 232) (e := 228) (lv' := [(10, .ref num), (9, .ref den), (0, .ref m), (1, .ref num), (2, .ref den), (3, .int k), (4, .int (g 3)), (5, .ref (m + 596 + 130 * (g 3).toNatClampNeg)), (6, .ref (m + 596 + 130 * (g 3 + 1).toNatClampNeg)), (7, .int y7_126), (8, .int y8_126)]) (st' := []) (by decide +kernel) rfl (fun cc225 => ?_) (fun cc225 => ?_)
                  ·
                    have f87 := zltI cc225
                    rw [show (110 : Int32).toInt = 110 from by decide] at f87
                    refine zp_seg (pc' := 238) (lv' := [(8, .int (y8_126 + (Int32.ofInt (-1)))), (7, .int 0), (10, .ref num), (9, .ref den), (0, .ref m), (1, .ref num), (2, .ref den), (3, .int k), (4, .int (g 3)), (5, .ref (m + 596 + 130 * (g 3).toNatClampNeg)), (6, .ref (m + 596 + 130 * (g 3 + 1).toNatClampNeg))]) (st' := []) [(232, .iconst 0), (233, .istore 7), (235, .iinc 8 (-1))] (by decide +kernel) rfl ?_
                    have k88 := zaddC y8_126 ((Int32.ofInt (-1))) (n := (-1)) (by decide) (by omega) (by omega)
                    generalize ev238 : (y8_126 + (Int32.ofInt (-1)) : Int32) = v238 at k88 ⊢
                    have kv238 := zrng v238
                    refine zp_seg (pc' := 126) (lv' := [(8, .int v238), (7, .int 0), (10, .ref num), (9, .ref den), (0, .ref m), (1, .ref num), (2, .ref den), (3, .int k), (4, .int (g 3)), (5, .ref (m + 596 + 130 * (g 3).toNatClampNeg)), (6, .ref (m + 596 + 130 * (g 3 + 1).toNatClampNeg))]) (st' := []) [(238, .goto (-112))] (by decide +kernel) rfl ?_
                    have hb89 : zB w205 num P := hBP.ag (fun x hx1 hx2 => ((heq205 x (zx_X16_lineInto_63 hx1 hx2 hnd hmn hmd hgb3)).trans ((heq198 x ⟨(zx_X16_lineInto_60 hx1 hx2 hmn hgn3_1 hgb3), (zx_X16_lineInto_61 hx1 hx2 hmn hgb1 hgb3)⟩).trans (heq175 x ⟨(zx_X16_lineInto_60 hx1 hx2 hmn hgn3_1 hgb3), (zx_X16_lineInto_61 hx1 hx2 hmn hgb1 hgb3), (zx_X16_lineInto_62 hx1 hx2 hmn hgn3_2 hgb3)⟩))))
                    have hb90 := hBq.si ((hsi175.tr hsi198).tr hsi205)
                    have hb91 : w205 m = some (.inl (15, zMo m (zs g 3 (g 3 + 1 + 1)) r)) := ((heq205 m (zx_X16_lineInto_64 hmd hgb3)).trans (heq198 m ⟨(zx_X16_lineInto_54 hgn3_1 hgb3), (zx_X16_lineInto_55 hgb1)⟩)).trans hb68
                    exact (ih126 w205 0 v238 (P) (((zbM Q (zLi x52 x86 x34)))) (((hsiL126.tr hsi175).tr hsi198).tr hsi205) (fun x hx => ((heq205 x hx.1.2.1).trans ((heq198 x ⟨hx.1.2.2.1, hx.1.2.2.2.1⟩).trans ((heq175 x ⟨hx.1.2.2.1, hx.1.2.2.2.1, hx.1.2.2.2.2⟩).trans (heqL126 x ⟨⟨hx.1.1, hx.1.2.1, hx.1.2.2.1, hx.1.2.2.2.1, hx.1.2.2.2.2⟩, hx.2⟩))))) (by first | assumption | omega | decide) hb89 hp205_0 (by
                          exact hb90) hb91 (by
                          refine ⟨by first | assumption | omega, by first | assumption | omega, by omega, by omega, by omega, by omega, fun e => ?_⟩
                          first
                          | exact absurd e (by decide)
                          | exact ⟨by omega, by omega, by omega, by omega⟩) (by omega)).more (zfa1 rfl (zfa1 rfl (zfa1 rfl (zfa1 rfl (zfa1 rfl (zfa1 rfl (zfa1 rfl (zfa1 rfl (zfa1 rfl (zfa0))))))))))
                  ·
                    have f93 := znltI cc225
                    rw [show (110 : Int32).toInt = 110 from by decide] at f93
                    refine zp_seg (pc' := 238) (lv' := [(8, .int (y8_126 + (Int32.ofInt (-1)))), (7, .int 1), (10, .ref num), (9, .ref den), (0, .ref m), (1, .ref num), (2, .ref den), (3, .int k), (4, .int (g 3)), (5, .ref (m + 596 + 130 * (g 3).toNatClampNeg)), (6, .ref (m + 596 + 130 * (g 3 + 1).toNatClampNeg))]) (st' := []) [(228, .iconst 1), (229, .goto 4), (233, .istore 7), (235, .iinc 8 (-1))] (by decide +kernel) rfl ?_
                    have k94 := zaddC y8_126 ((Int32.ofInt (-1))) (n := (-1)) (by decide) (by omega) (by omega)
                    generalize ev238 : (y8_126 + (Int32.ofInt (-1)) : Int32) = v238 at k94 ⊢
                    have kv238 := zrng v238
                    refine zp_seg (pc' := 126) (lv' := [(8, .int v238), (7, .int 1), (10, .ref num), (9, .ref den), (0, .ref m), (1, .ref num), (2, .ref den), (3, .int k), (4, .int (g 3)), (5, .ref (m + 596 + 130 * (g 3).toNatClampNeg)), (6, .ref (m + 596 + 130 * (g 3 + 1).toNatClampNeg))]) (st' := []) [(238, .goto (-112))] (by decide +kernel) rfl ?_
                    have hb95 : zB w205 num P := hBP.ag (fun x hx1 hx2 => ((heq205 x (zx_X16_lineInto_63 hx1 hx2 hnd hmn hmd hgb3)).trans ((heq198 x ⟨(zx_X16_lineInto_60 hx1 hx2 hmn hgn3_1 hgb3), (zx_X16_lineInto_61 hx1 hx2 hmn hgb1 hgb3)⟩).trans (heq175 x ⟨(zx_X16_lineInto_60 hx1 hx2 hmn hgn3_1 hgb3), (zx_X16_lineInto_61 hx1 hx2 hmn hgb1 hgb3), (zx_X16_lineInto_62 hx1 hx2 hmn hgn3_2 hgb3)⟩))))
                    have hb96 := hBq.si ((hsi175.tr hsi198).tr hsi205)
                    have hb97 : w205 m = some (.inl (15, zMo m (zs g 3 (g 3 + 1 + 1)) r)) := ((heq205 m (zx_X16_lineInto_64 hmd hgb3)).trans (heq198 m ⟨(zx_X16_lineInto_54 hgn3_1 hgb3), (zx_X16_lineInto_55 hgb1)⟩)).trans hb68
                    exact (ih126 w205 1 v238 (P) (((zbM Q (zLi x52 x86 x34)))) (((hsiL126.tr hsi175).tr hsi198).tr hsi205) (fun x hx => ((heq205 x hx.1.2.1).trans ((heq198 x ⟨hx.1.2.2.1, hx.1.2.2.2.1⟩).trans ((heq175 x ⟨hx.1.2.2.1, hx.1.2.2.2.1, hx.1.2.2.2.2⟩).trans (heqL126 x ⟨⟨hx.1.1, hx.1.2.1, hx.1.2.2.1, hx.1.2.2.2.1, hx.1.2.2.2.2⟩, hx.2⟩))))) (by first | assumption | omega | decide) hb95 hp205_0 (by
                          exact hb96) hb97 (by
                          refine ⟨by first | assumption | omega, by first | assumption | omega, by omega, by omega, by omega, by omega, fun e => ?_⟩
                          first
                          | exact absurd e (by decide)
                          | exact ⟨by omega, by omega, by omega, by omega⟩) (by omega)).more (zfa1 rfl (zfa1 rfl (zfa1 rfl (zfa1 rfl (zfa1 rfl (zfa1 rfl (zfa1 rfl (zfa1 rfl (zfa1 rfl (zfa0))))))))))
              ·
                have f98 := zneI cc178
                rw [show (0 : Int32).toInt = 0 from by decide] at f98
                have t9 := zdiv_le (hr175.1 (hrb175.resolve_left cc178)) hl9.1
                have t1 := t9.1
                have t2 := t9.2.1
                have t3 := t9.2.2 (by assumption)
                refine zp_seg (pc' := 185) (lv' := [(10, .ref num), (9, .ref den), (0, .ref m), (1, .ref num), (2, .ref den), (3, .int k), (4, .int (g 3)), (5, .ref (m + 596 + 130 * (g 3).toNatClampNeg)), (6, .ref (m + 596 + 130 * (g 3 + 1).toNatClampNeg)), (7, .int y7_126), (8, .int y8_126)]) (st' := [.ref (m + 596 + 130 * (g 3 + 1).toNatClampNeg), .ref num]) [(181, .aload 10), (183, .aload 6)] (by decide +kernel) rfl ?_
                have hb99 : zB w175 num P := hBP.ag (fun x hx1 hx2 => (heq175 x ⟨(zx_X16_lineInto_60 hx1 hx2 hmn hgn3_1 hgb3), (zx_X16_lineInto_61 hx1 hx2 hmn hgb1 hgb3), (zx_X16_lineInto_62 hx1 hx2 hmn hgn3_2 hgb3)⟩))
                have ho185_to := zB.o hb99
                refine zr_callS (idx := 113) (j := 275) (by decide +kernel) (by decide +kernel) (by decide) (show zMe 275 = some zq_X16_set_ from rfl) rfl rfl (Nat.le_of_ble_eq_true rfl) rfl rfl (Nat.le_of_ble_eq_true rfl) (Nat.le_of_ble_eq_true rfl) (c_X16_set_ (w := w175) num (m + 596 + 130 * (g 3 + 1).toNatClampNeg) ho185_to hp175_0 (by first | omega | decide | assumption | exact zr1_1 | exact zr1_0 | fail "num")) (by omega) (fun v185 w185 hp185 => ?_)
                obtain ⟨hsi185, heq185, hp185_0, rfl⟩ := hp185
                show zP _ _ _ _ [] _ _ _ _ _
                refine zp_seg (pc' := 238) (lv' := [(8, .int (y8_126 + (Int32.ofInt (-1)))), (10, .ref num), (9, .ref den), (0, .ref m), (1, .ref num), (2, .ref den), (3, .int k), (4, .int (g 3)), (5, .ref (m + 596 + 130 * (g 3).toNatClampNeg)), (6, .ref (m + 596 + 130 * (g 3 + 1).toNatClampNeg)), (7, .int y7_126)]) (st' := []) [(188, .goto 47), (235, .iinc 8 (-1))] (by decide +kernel) rfl ?_
                have k100 := zaddC y8_126 ((Int32.ofInt (-1))) (n := (-1)) (by decide) (by omega) (by omega)
                generalize ev238 : (y8_126 + (Int32.ofInt (-1)) : Int32) = v238 at k100 ⊢
                have kv238 := zrng v238
                refine zp_seg (pc' := 126) (lv' := [(8, .int v238), (10, .ref num), (9, .ref den), (0, .ref m), (1, .ref num), (2, .ref den), (3, .int k), (4, .int (g 3)), (5, .ref (m + 596 + 130 * (g 3).toNatClampNeg)), (6, .ref (m + 596 + 130 * (g 3 + 1).toNatClampNeg)), (7, .int y7_126)]) (st' := []) [(238, .goto (-112))] (by decide +kernel) rfl ?_
                have hb101 : zB w185 den Q := hBQ.ag (fun x hx1 hx2 => ((heq185 x (zx_X16_lineInto_65 hx1 hx2 hnd hmn hmd hgb3)).trans (heq175 x ⟨(zx_X16_lineInto_57 hx1 hx2 hmd hgn3_1 hgb3), (zx_X16_lineInto_58 hx1 hx2 hmd hgb1 hgb3), (zx_X16_lineInto_59 hx1 hx2 hmd hgn3_2 hgb3)⟩)))
                have hb102 := hBq.si (hsi175.tr hsi185)
                have hb103 : w185 m = some (.inl (15, zMo m (zs g 3 (g 3 + 1 + 1)) r)) := ((heq185 m (zx_X16_lineInto_66 hmn hgb3)).trans (heq175 m ⟨(zx_X16_lineInto_54 hgn3_1 hgb3), (zx_X16_lineInto_55 hgb1), (zx_X16_lineInto_56 hgn3_2 hgb3)⟩)).trans hmL126
                exact (ih126 w185 y7_126 v238 (Q_175) (Q) ((hsiL126.tr hsi175).tr hsi185) (fun x hx => ((heq185 x hx.1.1).trans ((heq175 x ⟨hx.1.2.2.1, hx.1.2.2.2.1, hx.1.2.2.2.2⟩).trans (heqL126 x ⟨⟨hx.1.1, hx.1.2.1, hx.1.2.2.1, hx.1.2.2.2.1, hx.1.2.2.2.2⟩, hx.2⟩)))) (by first | assumption | omega | decide) hp185_0 hb101 (by
                      exact hb102) hb103 (by
                      refine ⟨by first | assumption | omega, by first | assumption | omega, by omega, by omega, by omega, by omega, fun e => ?_⟩
                      first
                      | exact absurd e (by decide)
                      | exact ⟨by omega, by omega, by omega, by omega⟩) (by omega)).more (zfa1 rfl (zfa1 rfl (zfa1 rfl (zfa1 rfl (zfa1 rfl (zfa1 rfl (zfa1 rfl (zfa1 rfl (zfa1 rfl (zfa0))))))))))
            ·
              exact absurd cc142 cc158
          ·
            have f104 := znleI cc142
            rw [show (0 : Int32).toInt = 0 from by decide] at f104
            refine zp_seg (pc' := 153) (lv' := [(9, .ref num), (0, .ref m), (1, .ref num), (2, .ref den), (3, .int k), (4, .int (g 3)), (5, .ref (m + 596 + 130 * (g 3).toNatClampNeg)), (6, .ref (m + 596 + 130 * (g 3 + 1).toNatClampNeg)), (7, .int y7_126), (8, .int y8_126)]) (st' := [.ref m]) [(145, .aload_n 1), (146, .goto 4), (150, .astore 9), (152, .aload_n 0)] (by decide +kernel) rfl ?_
            refine zr_get (idx := 480) (k := 35) (v := .ref (m + 99)) (by decide +kernel) (by decide +kernel) hmL126 rfl ?_
            refine zp_seg (pc' := 157) (lv' := [(9, .ref num), (0, .ref m), (1, .ref num), (2, .ref den), (3, .int k), (4, .int (g 3)), (5, .ref (m + 596 + 130 * (g 3).toNatClampNeg)), (6, .ref (m + 596 + 130 * (g 3 + 1).toNatClampNeg)), (7, .int y7_126), (8, .int y8_126)]) (st' := [.int k, .ref (m + 99)]) [(156, .iload_n 3)] (by decide +kernel) rfl ?_
            refine zr_iald (by decide +kernel) hb62 (zin (by first | omega | decide) (by first | omega | decide)) ?_
            rw [← ex120]
            refine zp_if (i := .ifCond .le 7) (c := x120 ≤ 0) (t := 165) (e := 161) (lv' := [(9, .ref num), (0, .ref m), (1, .ref num), (2, .ref den), (3, .int k), (4, .int (g 3)), (5, .ref (m + 596 + 130 * (g 3).toNatClampNeg)), (6, .ref (m + 596 + 130 * (g 3 + 1).toNatClampNeg)), (7, .int y7_126), (8, .int y8_126)]) (st' := []) (by decide +kernel) rfl (fun cc158 => ?_) (fun cc158 => ?_)
            ·
              exact absurd cc158 cc142
            ·
              have f105 := znleI cc158
              rw [show (0 : Int32).toInt = 0 from by decide] at f105
              refine zp_seg (pc' := 175) (lv' := [(10, .ref den), (9, .ref num), (0, .ref m), (1, .ref num), (2, .ref den), (3, .int k), (4, .int (g 3)), (5, .ref (m + 596 + 130 * (g 3).toNatClampNeg)), (6, .ref (m + 596 + 130 * (g 3 + 1).toNatClampNeg)), (7, .int y7_126), (8, .int y8_126)]) (st' := [.ref (m + 596 + 130 * (g 3).toNatClampNeg), .ref den, .ref (m + 596 + 130 * (g 3 + 1).toNatClampNeg), .ref m]) [(161, .aload_n 2), (162, .goto 4), (166, .astore 10), (168, .aload_n 0), (169, .aload 6), (171, .aload 10), (173, .aload 5)] (by decide +kernel) rfl ?_
              have hb106 := hb12.si (((((((hsi13.tr hsi35).tr hsi53).tr hsi62).tr hsi72).tr hsi78).tr hsiL112).tr hsiL126)
              have hb107 : zB wL126 (m + 596 + 130 * (g 3).toNatClampNeg) (zLi x52 x86 x34) := hBl.ag (fun x hx1 hx2 => (heqL126 x ⟨⟨(zx_X16_lineInto_49 hx1 hx2 hmn hgb3), (zx_X16_lineInto_50 hx1 hx2 hmd hgb3), (zx_X16_lineInto_1 hx1 hx2 hgn3_1 hgb3), (zx_X16_lineInto_51 hx1 hx2 hgb1 hgb3), (zx_X16_lineInto_52 hx1 hx2 hgn3_2 hgb3)⟩, (zx_X16_lineInto_53 hx1 hx2 hgb3)⟩))
              refine zr_callV (idx := 170) (j := 288) (by decide +kernel) (by decide +kernel) (show zMe 288 = some zq_X16_divides from rfl) rfl rfl (Nat.le_of_ble_eq_true rfl) rfl rfl hmL126 (Nat.le_of_ble_eq_true rfl) (Nat.le_of_ble_eq_true rfl) (c_X16_divides (w := wL126) (g1 := (g 1)) (g3 := (g 3 + 1 + 1)) m (m + 596 + 130 * (g 3 + 1).toNatClampNeg) den (m + 596 + 130 * (g 3).toNatClampNeg) hmL126 hb106 hBq hBQ hb107 (by first | omega | decide | assumption | exact zr1_1 | exact zr1_0 | fail "num") (by first | omega | decide | assumption | exact zr1_1 | exact zr1_0 | fail "num") (by first | omega | decide | assumption | exact zr1_1 | exact zr1_0 | fail "num") (by first | omega | decide | assumption | exact zr1_1 | exact zr1_0 | fail "num") (by first | omega | decide | assumption | exact zr1_1 | exact zr1_0 | fail "num") (by first | omega | decide | assumption | exact zr1_1 | exact zr1_0 | fail "num") (by first | omega | decide | assumption | exact zr1_1 | exact zr1_0 | fail "num") (by first | omega | decide | assumption | exact zr1_1 | exact zr1_0 | fail "num") (by first | omega | decide | assumption | exact zr1_1 | exact zr1_0 | fail "num") rfl rfl) (by omega) (fun v175 w175 hp175 => ?_)
              obtain ⟨Q_175, hsi175, heq175, hp175_0, r175, rfl, hrb175, hr175⟩ := hp175
              have kr175 := zrng r175
              show zP _ _ _ _ [.int r175] _ _ _ _ _
              refine zp_if (i := .ifCond .eq 13) (c := r175 = 0) (t := 191) (e := 181) (lv' := [(10, .ref den), (9, .ref num), (0, .ref m), (1, .ref num), (2, .ref den), (3, .int k), (4, .int (g 3)), (5, .ref (m + 596 + 130 * (g 3).toNatClampNeg)), (6, .ref (m + 596 + 130 * (g 3 + 1).toNatClampNeg)), (7, .int y7_126), (8, .int y8_126)]) (st' := []) (by decide +kernel) rfl (fun cc178 => ?_) (fun cc178 => ?_)
              ·
                have f108 := zeqI cc178
                rw [show (0 : Int32).toInt = 0 from by decide] at f108
                refine zp_seg (pc' := 198) (lv' := [(10, .ref den), (9, .ref num), (0, .ref m), (1, .ref num), (2, .ref den), (3, .int k), (4, .int (g 3)), (5, .ref (m + 596 + 130 * (g 3).toNatClampNeg)), (6, .ref (m + 596 + 130 * (g 3 + 1).toNatClampNeg)), (7, .int y7_126), (8, .int y8_126)]) (st' := [.ref (m + 596 + 130 * (g 3).toNatClampNeg), .ref num, .ref (m + 596 + 130 * (g 3 + 1).toNatClampNeg), .ref m]) [(191, .aload_n 0), (192, .aload 6), (194, .aload 9), (196, .aload 5)] (by decide +kernel) rfl ?_
                have hb109 : w175 m = some (.inl (15, zMo m (zs g 3 (g 3 + 1 + 1)) r)) := (heq175 m ⟨(zx_X16_lineInto_54 hgn3_1 hgb3), (zx_X16_lineInto_55 hgb1), (zx_X16_lineInto_56 hgn3_2 hgb3)⟩).trans hmL126
                have hb110 := hb106.si hsi175
                have ho198_to := zB.o hp175_0
                have hb111 : zB w175 num P := hBP.ag (fun x hx1 hx2 => (heq175 x ⟨(zx_X16_lineInto_60 hx1 hx2 hmn hgn3_1 hgb3), (zx_X16_lineInto_61 hx1 hx2 hmn hgb1 hgb3), (zx_X16_lineInto_62 hx1 hx2 hmn hgn3_2 hgb3)⟩))
                have hb112 : zB w175 (m + 596 + 130 * (g 3).toNatClampNeg) (zLi x52 x86 x34) := hb107.ag (fun x hx1 hx2 => (heq175 x ⟨(zx_X16_lineInto_1 hx1 hx2 hgn3_1 hgb3), (zx_X16_lineInto_51 hx1 hx2 hgb1 hgb3), (zx_X16_lineInto_52 hx1 hx2 hgn3_2 hgb3)⟩))
                refine zr_callV (idx := 197) (j := 278) (by decide +kernel) (by decide +kernel) (show zMe 278 = some zq_X16_times_ from rfl) rfl rfl (Nat.le_of_ble_eq_true rfl) rfl rfl hb109 (Nat.le_of_ble_eq_true rfl) (Nat.le_of_ble_eq_true rfl) (c_X16_times_ (w := w175) (g1 := (g 1)) m (m + 596 + 130 * (g 3 + 1).toNatClampNeg) num (m + 596 + 130 * (g 3).toNatClampNeg) hb109 hb110 ho198_to hb111 hb112 (by first | omega | decide | assumption | exact zr1_1 | exact zr1_0 | fail "num") (by first | omega | decide | assumption | exact zr1_1 | exact zr1_0 | fail "num") (by first | omega | decide | assumption | exact zr1_1 | exact zr1_0 | fail "num") (by first | omega | decide | assumption | exact zr1_1 | exact zr1_0 | fail "num") (by first | omega | decide | assumption | exact zr1_1 | exact zr1_0 | fail "num") (by first | omega | decide | assumption | exact zr1_1 | exact zr1_0 | fail "num") (by first | omega | decide | assumption | exact zr1_1 | exact zr1_0 | fail "num") (by first | omega | decide | assumption | exact zr1_1 | exact zr1_0 | fail "num") rfl) (by omega) (fun v198 w198 hp198 => ?_)
                obtain ⟨hsi198, heq198, hp198_0, rfl⟩ := hp198
                show zP _ _ _ _ [] _ _ _ _ _
                have t9 := zMs_M P (zLi x52 x86 x34)
                have t1 := t9.1
                have t2 := t9.2.1
                have t3 := t9.2.2 (by assumption) hl9.1
                refine zp_seg (pc' := 205) (lv' := [(10, .ref den), (9, .ref num), (0, .ref m), (1, .ref num), (2, .ref den), (3, .int k), (4, .int (g 3)), (5, .ref (m + 596 + 130 * (g 3).toNatClampNeg)), (6, .ref (m + 596 + 130 * (g 3 + 1).toNatClampNeg)), (7, .int y7_126), (8, .int y8_126)]) (st' := [.ref (m + 596 + 130 * (g 3 + 1).toNatClampNeg), .ref num]) [(201, .aload 9), (203, .aload 6)] (by decide +kernel) rfl ?_
                have hb113 : zB w198 num P := hb111.ag (fun x hx1 hx2 => (heq198 x ⟨(zx_X16_lineInto_60 hx1 hx2 hmn hgn3_1 hgb3), (zx_X16_lineInto_61 hx1 hx2 hmn hgb1 hgb3)⟩))
                have ho205_to := zB.o hb113
                refine zr_callS (idx := 113) (j := 275) (by decide +kernel) (by decide +kernel) (by decide) (show zMe 275 = some zq_X16_set_ from rfl) rfl rfl (Nat.le_of_ble_eq_true rfl) rfl rfl (Nat.le_of_ble_eq_true rfl) (Nat.le_of_ble_eq_true rfl) (c_X16_set_ (w := w198) num (m + 596 + 130 * (g 3 + 1).toNatClampNeg) ho205_to hp198_0 (by first | omega | decide | assumption | exact zr1_1 | exact zr1_0 | fail "num")) (by omega) (fun v205 w205 hp205 => ?_)
                obtain ⟨hsi205, heq205, hp205_0, rfl⟩ := hp205
                show zP _ _ _ _ [] _ _ _ _ _
                refine zp_seg (pc' := 210) (lv' := [(10, .ref den), (9, .ref num), (0, .ref m), (1, .ref num), (2, .ref den), (3, .int k), (4, .int (g 3)), (5, .ref (m + 596 + 130 * (g 3).toNatClampNeg)), (6, .ref (m + 596 + 130 * (g 3 + 1).toNatClampNeg)), (7, .int y7_126), (8, .int y8_126)]) (st' := [.ref num]) [(208, .aload 9)] (by decide +kernel) rfl ?_
                obtain ⟨n114, hb115, hb116, hb117, hb118, -⟩ := id hp205_0
                have kn114 := zrng n114
                refine zr_get (idx := 93) (k := 1) (v := .int n114) (by decide +kernel) (by decide +kernel) hb115 rfl ?_
                refine zp_seg (pc' := 215) (lv' := [(10, .ref den), (9, .ref num), (0, .ref m), (1, .ref num), (2, .ref den), (3, .int k), (4, .int (g 3)), (5, .ref (m + 596 + 130 * (g 3).toNatClampNeg)), (6, .ref (m + 596 + 130 * (g 3 + 1).toNatClampNeg)), (7, .int y7_126), (8, .int y8_126)]) (st' := [.int 50, .int n114]) [(213, .bipush 50)] (by decide +kernel) rfl ?_
                refine zp_if (i := .if_icmp .gt 17) (c := 50 < n114) (t := 232) (e := 218) (lv' := [(10, .ref den), (9, .ref num), (0, .ref m), (1, .ref num), (2, .ref den), (3, .int k), (4, .int (g 3)), (5, .ref (m + 596 + 130 * (g 3).toNatClampNeg)), (6, .ref (m + 596 + 130 * (g 3 + 1).toNatClampNeg)), (7, .int y7_126), (8, .int y8_126)]) (st' := []) (by decide +kernel) rfl (fun cc215 => ?_) (fun cc215 => ?_)
                ·
                  have f120 := zltI cc215
                  rw [show (50 : Int32).toInt = 50 from by decide] at f120
                  refine zp_seg (pc' := 238) (lv' := [(8, .int (y8_126 + (Int32.ofInt (-1)))), (7, .int 0), (10, .ref den), (9, .ref num), (0, .ref m), (1, .ref num), (2, .ref den), (3, .int k), (4, .int (g 3)), (5, .ref (m + 596 + 130 * (g 3).toNatClampNeg)), (6, .ref (m + 596 + 130 * (g 3 + 1).toNatClampNeg))]) (st' := []) [(232, .iconst 0), (233, .istore 7), (235, .iinc 8 (-1))] (by decide +kernel) rfl ?_
                  have k121 := zaddC y8_126 ((Int32.ofInt (-1))) (n := (-1)) (by decide) (by omega) (by omega)
                  generalize ev238 : (y8_126 + (Int32.ofInt (-1)) : Int32) = v238 at k121 ⊢
                  have kv238 := zrng v238
                  refine zp_seg (pc' := 126) (lv' := [(8, .int v238), (7, .int 0), (10, .ref den), (9, .ref num), (0, .ref m), (1, .ref num), (2, .ref den), (3, .int k), (4, .int (g 3)), (5, .ref (m + 596 + 130 * (g 3).toNatClampNeg)), (6, .ref (m + 596 + 130 * (g 3 + 1).toNatClampNeg))]) (st' := []) [(238, .goto (-112))] (by decide +kernel) rfl ?_
                  have hb122 : zB w205 den Q := hBQ.ag (fun x hx1 hx2 => ((heq205 x (zx_X16_lineInto_65 hx1 hx2 hnd hmn hmd hgb3)).trans ((heq198 x ⟨(zx_X16_lineInto_57 hx1 hx2 hmd hgn3_1 hgb3), (zx_X16_lineInto_58 hx1 hx2 hmd hgb1 hgb3)⟩).trans (heq175 x ⟨(zx_X16_lineInto_57 hx1 hx2 hmd hgn3_1 hgb3), (zx_X16_lineInto_58 hx1 hx2 hmd hgb1 hgb3), (zx_X16_lineInto_59 hx1 hx2 hmd hgn3_2 hgb3)⟩))))
                  have hb123 := hBq.si ((hsi175.tr hsi198).tr hsi205)
                  have hb124 : w205 m = some (.inl (15, zMo m (zs g 3 (g 3 + 1 + 1)) r)) := ((heq205 m (zx_X16_lineInto_66 hmn hgb3)).trans (heq198 m ⟨(zx_X16_lineInto_54 hgn3_1 hgb3), (zx_X16_lineInto_55 hgb1)⟩)).trans hb109
                  exact (ih126 w205 0 v238 (((zbM P (zLi x52 x86 x34)))) (Q) (((hsiL126.tr hsi175).tr hsi198).tr hsi205) (fun x hx => ((heq205 x hx.1.1).trans ((heq198 x ⟨hx.1.2.2.1, hx.1.2.2.2.1⟩).trans ((heq175 x ⟨hx.1.2.2.1, hx.1.2.2.2.1, hx.1.2.2.2.2⟩).trans (heqL126 x ⟨⟨hx.1.1, hx.1.2.1, hx.1.2.2.1, hx.1.2.2.2.1, hx.1.2.2.2.2⟩, hx.2⟩))))) (by first | assumption | omega | decide) hp205_0 hb122 (by
                        exact hb123) hb124 (by
                        refine ⟨by first | assumption | omega, by first | assumption | omega, by omega, by omega, by omega, by omega, fun e => ?_⟩
                        first
                        | exact absurd e (by decide)
                        | exact ⟨by omega, by omega, by omega, by omega⟩) (by omega)).more (zfa1 rfl (zfa1 rfl (zfa1 rfl (zfa1 rfl (zfa1 rfl (zfa1 rfl (zfa1 rfl (zfa1 rfl (zfa1 rfl (zfa0))))))))))
                ·
                  have f126 := znltI cc215
                  rw [show (50 : Int32).toInt = 50 from by decide] at f126
                  refine zp_seg (pc' := 220) (lv' := [(10, .ref den), (9, .ref num), (0, .ref m), (1, .ref num), (2, .ref den), (3, .int k), (4, .int (g 3)), (5, .ref (m + 596 + 130 * (g 3).toNatClampNeg)), (6, .ref (m + 596 + 130 * (g 3 + 1).toNatClampNeg)), (7, .int y7_126), (8, .int y8_126)]) (st' := [.ref num]) [(218, .aload 9)] (by decide +kernel) rfl ?_
                  refine zr_callV (idx := 119) (j := 248) (by decide +kernel) (by decide +kernel) (show zMe 248 = some zq_X12_degreeN from rfl) rfl rfl (Nat.le_of_ble_eq_true rfl) rfl rfl hb115 (Nat.le_of_ble_eq_true rfl) (Nat.le_of_ble_eq_true rfl) (c_X12_degreeN (w := w205) num hp205_0) (by omega) (fun v220 w220 hp220 => ?_)
                  obtain ⟨hpw220, r220, rfl, hr220⟩ := hp220
                  replace hpw220 := hpw220.symm
                  subst hpw220
                  have kr220 := zrng r220
                  show zP _ _ _ _ [.int r220] _ _ _ _ _
                  refine zp_seg (pc' := 225) (lv' := [(10, .ref den), (9, .ref num), (0, .ref m), (1, .ref num), (2, .ref den), (3, .int k), (4, .int (g 3)), (5, .ref (m + 596 + 130 * (g 3).toNatClampNeg)), (6, .ref (m + 596 + 130 * (g 3 + 1).toNatClampNeg)), (7, .int y7_126), (8, .int y8_126)]) (st' := [.int 110, .int r220]) [(223, .bipush 110)] (by decide +kernel) rfl ?_
                  refine zp_if (i := .if_icmp .gt 7) (c := 110 < r220) (t := 232) (e := 228) (lv' := [(10, .ref den), (9, .ref num), (0, .ref m), (1, .ref num), (2, .ref den), (3, .int k), (4, .int (g 3)), (5, .ref (m + 596 + 130 * (g 3).toNatClampNeg)), (6, .ref (m + 596 + 130 * (g 3 + 1).toNatClampNeg)), (7, .int y7_126), (8, .int y8_126)]) (st' := []) (by decide +kernel) rfl (fun cc225 => ?_) (fun cc225 => ?_)
                  ·
                    have f128 := zltI cc225
                    rw [show (110 : Int32).toInt = 110 from by decide] at f128
                    refine zp_seg (pc' := 238) (lv' := [(8, .int (y8_126 + (Int32.ofInt (-1)))), (7, .int 0), (10, .ref den), (9, .ref num), (0, .ref m), (1, .ref num), (2, .ref den), (3, .int k), (4, .int (g 3)), (5, .ref (m + 596 + 130 * (g 3).toNatClampNeg)), (6, .ref (m + 596 + 130 * (g 3 + 1).toNatClampNeg))]) (st' := []) [(232, .iconst 0), (233, .istore 7), (235, .iinc 8 (-1))] (by decide +kernel) rfl ?_
                    have k129 := zaddC y8_126 ((Int32.ofInt (-1))) (n := (-1)) (by decide) (by omega) (by omega)
                    generalize ev238 : (y8_126 + (Int32.ofInt (-1)) : Int32) = v238 at k129 ⊢
                    have kv238 := zrng v238
                    refine zp_seg (pc' := 126) (lv' := [(8, .int v238), (7, .int 0), (10, .ref den), (9, .ref num), (0, .ref m), (1, .ref num), (2, .ref den), (3, .int k), (4, .int (g 3)), (5, .ref (m + 596 + 130 * (g 3).toNatClampNeg)), (6, .ref (m + 596 + 130 * (g 3 + 1).toNatClampNeg))]) (st' := []) [(238, .goto (-112))] (by decide +kernel) rfl ?_
                    have hb130 : zB w205 den Q := hBQ.ag (fun x hx1 hx2 => ((heq205 x (zx_X16_lineInto_65 hx1 hx2 hnd hmn hmd hgb3)).trans ((heq198 x ⟨(zx_X16_lineInto_57 hx1 hx2 hmd hgn3_1 hgb3), (zx_X16_lineInto_58 hx1 hx2 hmd hgb1 hgb3)⟩).trans (heq175 x ⟨(zx_X16_lineInto_57 hx1 hx2 hmd hgn3_1 hgb3), (zx_X16_lineInto_58 hx1 hx2 hmd hgb1 hgb3), (zx_X16_lineInto_59 hx1 hx2 hmd hgn3_2 hgb3)⟩))))
                    have hb131 := hBq.si ((hsi175.tr hsi198).tr hsi205)
                    have hb132 : w205 m = some (.inl (15, zMo m (zs g 3 (g 3 + 1 + 1)) r)) := ((heq205 m (zx_X16_lineInto_66 hmn hgb3)).trans (heq198 m ⟨(zx_X16_lineInto_54 hgn3_1 hgb3), (zx_X16_lineInto_55 hgb1)⟩)).trans hb109
                    exact (ih126 w205 0 v238 (((zbM P (zLi x52 x86 x34)))) (Q) (((hsiL126.tr hsi175).tr hsi198).tr hsi205) (fun x hx => ((heq205 x hx.1.1).trans ((heq198 x ⟨hx.1.2.2.1, hx.1.2.2.2.1⟩).trans ((heq175 x ⟨hx.1.2.2.1, hx.1.2.2.2.1, hx.1.2.2.2.2⟩).trans (heqL126 x ⟨⟨hx.1.1, hx.1.2.1, hx.1.2.2.1, hx.1.2.2.2.1, hx.1.2.2.2.2⟩, hx.2⟩))))) (by first | assumption | omega | decide) hp205_0 hb130 (by
                          exact hb131) hb132 (by
                          refine ⟨by first | assumption | omega, by first | assumption | omega, by omega, by omega, by omega, by omega, fun e => ?_⟩
                          first
                          | exact absurd e (by decide)
                          | exact ⟨by omega, by omega, by omega, by omega⟩) (by omega)).more (zfa1 rfl (zfa1 rfl (zfa1 rfl (zfa1 rfl (zfa1 rfl (zfa1 rfl (zfa1 rfl (zfa1 rfl (zfa1 rfl (zfa0))))))))))
                  ·
                    have f134 := znltI cc225
                    rw [show (110 : Int32).toInt = 110 from by decide] at f134
                    refine zp_seg (pc' := 238) (lv' := [(8, .int (y8_126 + (Int32.ofInt (-1)))), (7, .int 1), (10, .ref den), (9, .ref num), (0, .ref m), (1, .ref num), (2, .ref den), (3, .int k), (4, .int (g 3)), (5, .ref (m + 596 + 130 * (g 3).toNatClampNeg)), (6, .ref (m + 596 + 130 * (g 3 + 1).toNatClampNeg))]) (st' := []) [(228, .iconst 1), (229, .goto 4), (233, .istore 7), (235, .iinc 8 (-1))] (by decide +kernel) rfl ?_
                    have k135 := zaddC y8_126 ((Int32.ofInt (-1))) (n := (-1)) (by decide) (by omega) (by omega)
                    generalize ev238 : (y8_126 + (Int32.ofInt (-1)) : Int32) = v238 at k135 ⊢
                    have kv238 := zrng v238
                    refine zp_seg (pc' := 126) (lv' := [(8, .int v238), (7, .int 1), (10, .ref den), (9, .ref num), (0, .ref m), (1, .ref num), (2, .ref den), (3, .int k), (4, .int (g 3)), (5, .ref (m + 596 + 130 * (g 3).toNatClampNeg)), (6, .ref (m + 596 + 130 * (g 3 + 1).toNatClampNeg))]) (st' := []) [(238, .goto (-112))] (by decide +kernel) rfl ?_
                    have hb136 : zB w205 den Q := hBQ.ag (fun x hx1 hx2 => ((heq205 x (zx_X16_lineInto_65 hx1 hx2 hnd hmn hmd hgb3)).trans ((heq198 x ⟨(zx_X16_lineInto_57 hx1 hx2 hmd hgn3_1 hgb3), (zx_X16_lineInto_58 hx1 hx2 hmd hgb1 hgb3)⟩).trans (heq175 x ⟨(zx_X16_lineInto_57 hx1 hx2 hmd hgn3_1 hgb3), (zx_X16_lineInto_58 hx1 hx2 hmd hgb1 hgb3), (zx_X16_lineInto_59 hx1 hx2 hmd hgn3_2 hgb3)⟩))))
                    have hb137 := hBq.si ((hsi175.tr hsi198).tr hsi205)
                    have hb138 : w205 m = some (.inl (15, zMo m (zs g 3 (g 3 + 1 + 1)) r)) := ((heq205 m (zx_X16_lineInto_66 hmn hgb3)).trans (heq198 m ⟨(zx_X16_lineInto_54 hgn3_1 hgb3), (zx_X16_lineInto_55 hgb1)⟩)).trans hb109
                    exact (ih126 w205 1 v238 (((zbM P (zLi x52 x86 x34)))) (Q) (((hsiL126.tr hsi175).tr hsi198).tr hsi205) (fun x hx => ((heq205 x hx.1.1).trans ((heq198 x ⟨hx.1.2.2.1, hx.1.2.2.2.1⟩).trans ((heq175 x ⟨hx.1.2.2.1, hx.1.2.2.2.1, hx.1.2.2.2.2⟩).trans (heqL126 x ⟨⟨hx.1.1, hx.1.2.1, hx.1.2.2.1, hx.1.2.2.2.1, hx.1.2.2.2.2⟩, hx.2⟩))))) (by first | assumption | omega | decide) hp205_0 hb136 (by
                          exact hb137) hb138 (by
                          refine ⟨by first | assumption | omega, by first | assumption | omega, by omega, by omega, by omega, by omega, fun e => ?_⟩
                          first
                          | exact absurd e (by decide)
                          | exact ⟨by omega, by omega, by omega, by omega⟩) (by omega)).more (zfa1 rfl (zfa1 rfl (zfa1 rfl (zfa1 rfl (zfa1 rfl (zfa1 rfl (zfa1 rfl (zfa1 rfl (zfa1 rfl (zfa0))))))))))
              ·
                have f139 := zneI cc178
                rw [show (0 : Int32).toInt = 0 from by decide] at f139
                have t9 := zdiv_le (hr175.1 (hrb175.resolve_left cc178)) hl9.1
                have t1 := t9.1
                have t2 := t9.2.1
                have t3 := t9.2.2 (by assumption)
                refine zp_seg (pc' := 185) (lv' := [(10, .ref den), (9, .ref num), (0, .ref m), (1, .ref num), (2, .ref den), (3, .int k), (4, .int (g 3)), (5, .ref (m + 596 + 130 * (g 3).toNatClampNeg)), (6, .ref (m + 596 + 130 * (g 3 + 1).toNatClampNeg)), (7, .int y7_126), (8, .int y8_126)]) (st' := [.ref (m + 596 + 130 * (g 3 + 1).toNatClampNeg), .ref den]) [(181, .aload 10), (183, .aload 6)] (by decide +kernel) rfl ?_
                have hb140 : zB w175 den Q := hBQ.ag (fun x hx1 hx2 => (heq175 x ⟨(zx_X16_lineInto_57 hx1 hx2 hmd hgn3_1 hgb3), (zx_X16_lineInto_58 hx1 hx2 hmd hgb1 hgb3), (zx_X16_lineInto_59 hx1 hx2 hmd hgn3_2 hgb3)⟩))
                have ho185_to := zB.o hb140
                refine zr_callS (idx := 113) (j := 275) (by decide +kernel) (by decide +kernel) (by decide) (show zMe 275 = some zq_X16_set_ from rfl) rfl rfl (Nat.le_of_ble_eq_true rfl) rfl rfl (Nat.le_of_ble_eq_true rfl) (Nat.le_of_ble_eq_true rfl) (c_X16_set_ (w := w175) den (m + 596 + 130 * (g 3 + 1).toNatClampNeg) ho185_to hp175_0 (by first | omega | decide | assumption | exact zr1_1 | exact zr1_0 | fail "num")) (by omega) (fun v185 w185 hp185 => ?_)
                obtain ⟨hsi185, heq185, hp185_0, rfl⟩ := hp185
                show zP _ _ _ _ [] _ _ _ _ _
                refine zp_seg (pc' := 238) (lv' := [(8, .int (y8_126 + (Int32.ofInt (-1)))), (10, .ref den), (9, .ref num), (0, .ref m), (1, .ref num), (2, .ref den), (3, .int k), (4, .int (g 3)), (5, .ref (m + 596 + 130 * (g 3).toNatClampNeg)), (6, .ref (m + 596 + 130 * (g 3 + 1).toNatClampNeg)), (7, .int y7_126)]) (st' := []) [(188, .goto 47), (235, .iinc 8 (-1))] (by decide +kernel) rfl ?_
                have k141 := zaddC y8_126 ((Int32.ofInt (-1))) (n := (-1)) (by decide) (by omega) (by omega)
                generalize ev238 : (y8_126 + (Int32.ofInt (-1)) : Int32) = v238 at k141 ⊢
                have kv238 := zrng v238
                refine zp_seg (pc' := 126) (lv' := [(8, .int v238), (10, .ref den), (9, .ref num), (0, .ref m), (1, .ref num), (2, .ref den), (3, .int k), (4, .int (g 3)), (5, .ref (m + 596 + 130 * (g 3).toNatClampNeg)), (6, .ref (m + 596 + 130 * (g 3 + 1).toNatClampNeg)), (7, .int y7_126)]) (st' := []) [(238, .goto (-112))] (by decide +kernel) rfl ?_
                have hb142 : zB w185 num P := hBP.ag (fun x hx1 hx2 => ((heq185 x (zx_X16_lineInto_63 hx1 hx2 hnd hmn hmd hgb3)).trans (heq175 x ⟨(zx_X16_lineInto_60 hx1 hx2 hmn hgn3_1 hgb3), (zx_X16_lineInto_61 hx1 hx2 hmn hgb1 hgb3), (zx_X16_lineInto_62 hx1 hx2 hmn hgn3_2 hgb3)⟩)))
                have hb143 := hBq.si (hsi175.tr hsi185)
                have hb144 : w185 m = some (.inl (15, zMo m (zs g 3 (g 3 + 1 + 1)) r)) := ((heq185 m (zx_X16_lineInto_64 hmd hgb3)).trans (heq175 m ⟨(zx_X16_lineInto_54 hgn3_1 hgb3), (zx_X16_lineInto_55 hgb1), (zx_X16_lineInto_56 hgn3_2 hgb3)⟩)).trans hmL126
                exact (ih126 w185 y7_126 v238 (P) (Q_175) ((hsiL126.tr hsi175).tr hsi185) (fun x hx => ((heq185 x hx.1.2.1).trans ((heq175 x ⟨hx.1.2.2.1, hx.1.2.2.2.1, hx.1.2.2.2.2⟩).trans (heqL126 x ⟨⟨hx.1.1, hx.1.2.1, hx.1.2.2.1, hx.1.2.2.2.1, hx.1.2.2.2.2⟩, hx.2⟩)))) (by first | assumption | omega | decide) hb142 hp185_0 (by
                      exact hb143) hb144 (by
                      refine ⟨by first | assumption | omega, by first | assumption | omega, by omega, by omega, by omega, by omega, fun e => ?_⟩
                      first
                      | exact absurd e (by decide)
                      | exact ⟨by omega, by omega, by omega, by omega⟩) (by omega)).more (zfa1 rfl (zfa1 rfl (zfa1 rfl (zfa1 rfl (zfa1 rfl (zfa1 rfl (zfa1 rfl (zfa1 rfl (zfa1 rfl (zfa0))))))))))
    have hb145 : zB wL112 num p := hB_num.ag (fun x hx1 hx2 => ((heqL112 x ⟨(zx_X16_lineInto_68 hx1 hx2 hmn hgb3), (zx_X16_lineInto_43 hx1 hx2 hmn hgb3)⟩).trans ((heq78 x (zx_X16_lineInto_72 hx1 hx2 hmn hgb3)).trans ((heq72 x (zx_X16_lineInto_71 hx1 hx2 hmn hgb3)).trans ((heq62 x (zx_X16_lineInto_70 hx1 hx2 hmn hgb3)).trans ((heq53 x (zx_X16_lineInto_69 hx1 hx2 hmn hgb3)).trans ((heq35 x (zx_X16_lineInto_69 hx1 hx2 hmn hgb3)).trans ((heq13 x ⟨(zx_X16_lineInto_67 hx1 hx2 hmn hgb3), (zx_X16_lineInto_60 hx1 hx2 hmn hgn3_1 hgb3)⟩).trans (heq7 x ⟨(zx_X16_lineInto_67 hx1 hx2 hmn hgb3), (zx_X16_lineInto_68 hx1 hx2 hmn hgb3)⟩)))))))))
    have hb146 : zB wL112 den q := hB_den.ag (fun x hx1 hx2 => ((heqL112 x ⟨(zx_X16_lineInto_74 hx1 hx2 hmd hgb3), (zx_X16_lineInto_44 hx1 hx2 hmd hgb3)⟩).trans ((heq78 x (zx_X16_lineInto_78 hx1 hx2 hmd hgb3)).trans ((heq72 x (zx_X16_lineInto_77 hx1 hx2 hmd hgb3)).trans ((heq62 x (zx_X16_lineInto_76 hx1 hx2 hmd hgb3)).trans ((heq53 x (zx_X16_lineInto_75 hx1 hx2 hmd hgb3)).trans ((heq35 x (zx_X16_lineInto_75 hx1 hx2 hmd hgb3)).trans ((heq13 x ⟨(zx_X16_lineInto_73 hx1 hx2 hmd hgb3), (zx_X16_lineInto_57 hx1 hx2 hmd hgn3_1 hgb3)⟩).trans (heq7 x ⟨(zx_X16_lineInto_73 hx1 hx2 hmd hgb3), (zx_X16_lineInto_74 hx1 hx2 hmd hgb3)⟩)))))))))
    have hb147 : zB wL112 (m + 596 + 130 * (g 3 + 1).toNatClampNeg) zbZ := hp13_1.ag (fun x hx1 hx2 => ((heqL112 x ⟨(zx_X16_lineInto_83 hx1 hx2 hgn3_1 hgb3), (zx_X16_lineInto_84 hx1 hx2 hgn3_1 hgb3)⟩).trans ((heq78 x (zx_X16_lineInto_82 hx1 hx2 hgn3_1 hgb3)).trans ((heq72 x (zx_X16_lineInto_81 hx1 hx2 hgn3_1 hgb3)).trans ((heq62 x (zx_X16_lineInto_80 hx1 hx2 hgn3_1 hgb3)).trans ((heq53 x (zx_X16_lineInto_79 hx1 hx2 hgn3_1 hgb3)).trans (heq35 x (zx_X16_lineInto_79 hx1 hx2 hgn3_1 hgb3))))))))
    exact (hL126 _ wL112 1 m53 (p) (q) zSI.rf (fun _ _ => rfl) (by first | assumption | omega | decide) hb145 hb146 (by
          exact (hb147.o)) hmL112 (by
          exact ⟨hp0, hq0, by omega, by omega, by omega, by omega, fun _ => hpz⟩) (Nat.lt_succ_self _)).more (zfa1 rfl (zfa1 rfl (zfa1 rfl (zfa1 rfl (zfa1 rfl (zfa1 rfl (zfa1 rfl (zfa1 rfl (zfa1 rfl (zfa0))))))))))
  refine zp_if (i := .ifCond .eq 25) (c := x86 = 0) (t := 112) (e := 90) (lv' := [(6, .ref (m + 596 + 130 * (g 3 + 1).toNatClampNeg)), (5, .ref (m + 596 + 130 * (g 3).toNatClampNeg)), (4, .int (g 3)), (0, .ref m), (1, .ref num), (2, .ref den), (3, .int k)]) (st' := []) (by decide +kernel) rfl (fun cc87 => ?_) (fun cc87 => ?_)
  ·
    have f148 := zeqI cc87
    rw [show (0 : Int32).toInt = 0 from by decide] at f148
    have hb149 := hb46.si (hsi72.tr hsi78)
    have hb150 : zU w78 (m + 596 + 130 * (g 3).toNatClampNeg + 2 + 2 * 0) 200 ((zaOf (fun i => if i = 0 then zf x34 else zf x52) 2)) := hp72_0.ag (fun x hx1 hx2 => (heq78 x (zx_X16_lineInto_85 hx1 hx2 hgb3)))
    exact (hJ112 w78 zSI.rf (fun _ _ => rfl) (by
          first
          | exact zLi_B1 hb149 hc78 (by decide) hx1.2 hx2 hx3 cc87 hb150
          | exact zLi_B2 hb149 hc78 (by decide) hx1.2 hx2 cc87 hb150 none9) hb50).more (zfa1 rfl (zfa1 rfl (zfa1 rfl (zfa1 rfl (zfa1 rfl (zfa1 rfl (zfa1 rfl (zfa0))))))))
  ·
    have f151 := zneI cc87
    rw [show (0 : Int32).toInt = 0 from by decide] at f151
    refine zp_seg (pc' := 92) (lv' := [(6, .ref (m + 596 + 130 * (g 3 + 1).toNatClampNeg)), (5, .ref (m + 596 + 130 * (g 3).toNatClampNeg)), (4, .int (g 3)), (0, .ref m), (1, .ref num), (2, .ref den), (3, .int k)]) (st' := [.ref (m + 596 + 130 * (g 3).toNatClampNeg)]) [(90, .aload 5)] (by decide +kernel) rfl ?_
    refine zr_get (idx := 98) (k := 0) (v := .ref (m + 596 + 130 * (g 3).toNatClampNeg + 1)) (by decide +kernel) (by decide +kernel) hc78 rfl ?_
    refine zp_seg (pc' := 96) (lv' := [(6, .ref (m + 596 + 130 * (g 3 + 1).toNatClampNeg)), (5, .ref (m + 596 + 130 * (g 3).toNatClampNeg)), (4, .int (g 3)), (0, .ref m), (1, .ref num), (2, .ref den), (3, .int k)]) (st' := [.int 1, .ref (m + 596 + 130 * (g 3).toNatClampNeg + 1)]) [(95, .iconst 1)] (by decide +kernel) rfl ?_
    have hb152 : w78 (m + 596 + 130 * (g 3).toNatClampNeg + 1) = some (.inr (4, 64, zbr (m + 596 + 130 * (g 3).toNatClampNeg))) := ((heq78 (m + 596 + 130 * (g 3).toNatClampNeg + 1) (zx_X16_lineInto_87 hgb3)).trans (heq72 (m + 596 + 130 * (g 3).toNatClampNeg + 1) (zx_X16_lineInto_86 hgb3))).trans hb45
    refine zr_aald (v := .ref (m + 596 + 130 * (g 3).toNatClampNeg + 2 + 2 * 1)) (by decide +kernel) hb152 (by decide) (zin (by decide) (by decide)) rfl ?_
    have hb153 := hb46.si (hsi72.tr hsi78)
    have hrow154 := hb153.rowo 1 (by omega)
    refine zp_seg (pc' := 98) (lv' := [(6, .ref (m + 596 + 130 * (g 3 + 1).toNatClampNeg)), (5, .ref (m + 596 + 130 * (g 3).toNatClampNeg)), (4, .int (g 3)), (0, .ref m), (1, .ref num), (2, .ref den), (3, .int k)]) (st' := [.ref m, .ref (m + 596 + 130 * (g 3).toNatClampNeg + 2 + 2 * 1)]) [(97, .aload_n 0)] (by decide +kernel) rfl ?_
    refine zr_get (idx := 474) (k := 33) (v := .ref (m + 97)) (by decide +kernel) (by decide +kernel) hb50 rfl ?_
    refine zp_seg (pc' := 102) (lv' := [(6, .ref (m + 596 + 130 * (g 3 + 1).toNatClampNeg)), (5, .ref (m + 596 + 130 * (g 3).toNatClampNeg)), (4, .int (g 3)), (0, .ref m), (1, .ref num), (2, .ref den), (3, .int k)]) (st' := [.int k, .ref (m + 97), .ref (m + 596 + 130 * (g 3).toNatClampNeg + 2 + 2 * 1)]) [(101, .iload_n 3)] (by decide +kernel) rfl ?_
    refine zr_iald (by decide +kernel) hb51 (zin (by first | omega | decide) (by first | omega | decide)) ?_
    rw [← ex86]
    obtain ⟨n155, f156, hu157, hu158⟩ := id hrow154
    have kn155 := zrng n155
    refine zr_callV (idx := 147) (j := 252) (by decide +kernel) (by decide +kernel) (show zMe 252 = some zq_X15_number from rfl) rfl rfl (Nat.le_of_ble_eq_true rfl) rfl rfl hu157 (Nat.le_of_ble_eq_true rfl) (Nat.le_of_ble_eq_true rfl) (c_X15_number (w := w78) (m + 596 + 130 * (g 3).toNatClampNeg + 2 + 2 * 1) x86 hrow154 (by first | exact hvx86.1 | omega | decide | assumption | exact zr1_1 | exact zr1_0 | fail "num") (by first | omega | decide | assumption | exact zr1_1 | exact zr1_0 | fail "num")) (by omega) (fun v103 w103 hp103 => ?_)
    obtain ⟨hsi103, heq103, hp103_0, rfl⟩ := hp103
    show zP _ _ _ _ [] _ _ _ _ _
    refine zp_seg (pc' := 109) (lv' := [(6, .ref (m + 596 + 130 * (g 3 + 1).toNatClampNeg)), (5, .ref (m + 596 + 130 * (g 3).toNatClampNeg)), (4, .int (g 3)), (0, .ref m), (1, .ref num), (2, .ref den), (3, .int k)]) (st' := [.int 2, .ref (m + 596 + 130 * (g 3).toNatClampNeg)]) [(106, .aload 5), (108, .iconst 2)] (by decide +kernel) rfl ?_
    have hb159 : w103 (m + 596 + 130 * (g 3).toNatClampNeg) = some (.inl (11, [.ref (m + 596 + 130 * (g 3).toNatClampNeg + 1), .int 1])) := (heq103 (m + 596 + 130 * (g 3).toNatClampNeg) (zx_X16_lineInto_88 hgb3)).trans hc78
    refine zr_put2 (idx := 93) (k := 1) (fs2 := [.ref (m + 596 + 130 * (g 3).toNatClampNeg + 1), .int 2]) (by decide +kernel) (by decide +kernel) hb159 (Nat.le_of_ble_eq_true rfl) rfl rfl rfl ?_
    show zP (d + 1) zq_X16_lineInto 112 [(6, .ref (m + 596 + 130 * (g 3 + 1).toNatClampNeg)), (5, .ref (m + 596 + 130 * (g 3).toNatClampNeg)), (4, .int (g 3)), (0, .ref m), (1, .ref num), (2, .ref den), (3, .int k)] [] (zup w103 (m + 596 + 130 * (g 3).toNatClampNeg) (.inl (11, [.ref (m + 596 + 130 * (g 3).toNatClampNeg + 1), .int 2]))) sz 0 0 Post
    obtain ⟨w109, ew109⟩ : ∃ wz9, wz9 = zup w103 (m + 596 + 130 * (g 3).toNatClampNeg) (.inl (11, [.ref (m + 596 + 130 * (g 3).toNatClampNeg + 1), .int 2])) := ⟨_, rfl⟩
    have hsi109 : zSI w103 w109 := by rw [ew109]; exact zSI.setB hb159
    have heq109 : ∀ x, x ≠ m + 596 + 130 * (g 3).toNatClampNeg → w109 x = w103 x := fun x hx => by rw [ew109]; exact zup_n hx
    have hc109 : w109 (m + 596 + 130 * (g 3).toNatClampNeg) = some (.inl (11, [.ref (m + 596 + 130 * (g 3).toNatClampNeg + 1), .int 2])) := by rw [ew109]; exact zup_s
    rw [← ew109]
    clear ew109
    have hb160 := hb153.si (hsi103.tr hsi109)
    have hb161 : zU w109 (m + 596 + 130 * (g 3).toNatClampNeg + 2 + 2 * 0) 200 ((zaOf (fun i => if i = 0 then zf x34 else zf x52) 2)) := hp72_0.ag (fun x hx1 hx2 => ((heq109 x (zx_X16_lineInto_85 hx1 hx2 hgb3)).trans ((heq103 x (zx_X16_lineInto_91 hx1 hx2 hgb3)).trans (heq78 x (zx_X16_lineInto_85 hx1 hx2 hgb3)))))
    have hb162 : zU w109 (m + 596 + 130 * (g 3).toNatClampNeg + 2 + 2 * 1) 200 (zaC (zf x86)) := hp103_0.ag (fun x hx1 hx2 => (heq109 x (zx_X16_lineInto_92 hx1 hx2 hgb3)))
    have hb163 : w109 m = some (.inl (15, zMo m (zs g 3 (g 3 + 1 + 1)) r)) := ((heq109 m (zx_X16_lineInto_19 hgb3)).trans (heq103 m (zx_X16_lineInto_93 hgb3))).trans hb50
    exact (hJ112 w109 (hsi103.tr hsi109) (fun x hx => ((heq109 x (zx_X16_lineInto_90 hx.1 hgb3)).trans (heq103 x (zx_X16_lineInto_89 hx.1 hgb3)))) (by
          first
          | exact zLi_B1 hb160 hc109 (by decide) hx1.2 hx2 hx3 cc87 hb161
          | exact zLi_B2 hb160 hc109 (by decide) hx1.2 hx2 cc87 hb161 hb162) hb163).more (zfa1 rfl (zfa1 rfl (zfa1 rfl (zfa1 rfl (zfa1 rfl (zfa1 rfl (zfa1 rfl (zfa0))))))))
