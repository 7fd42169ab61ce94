theorem zx_X16_quotient_0 {m t : Nat} (h0 : (m + 83 ≤ t ∧ t + 9 ≤ m + 92) ∨ (m + 6316 ≤ t ∧ t + 9 ≤ m + 7594)) : t ≠ m := by omega
theorem zx_X16_quotient_1 {m t : Nat} (h0 : (m + 83 ≤ t ∧ t + 9 ≤ m + 92) ∨ (m + 6316 ≤ t ∧ t + 9 ≤ m + 7594)) : t < m ∨ m + 1 ≤ t := by omega
theorem zx_X16_quotient_2 {m t : Nat} (h0 : (m + 83 ≤ t ∧ t + 9 ≤ m + 92) ∨ (m + 6316 ≤ t ∧ t + 9 ≤ m + 7594)) : t < m + 96 ∨ m + 96 + 4 ≤ t := by omega
theorem zx_X16_quotient_3 {G3_0 m t : Nat} (h0 : (m + 83 ≤ t ∧ t + 9 ≤ m + 92) ∨ (m + 6316 ≤ t ∧ t + 9 ≤ m + 7594)) (h1 : G3_0 + 14 ≤ 44) : t < m + 596 + 130 * G3_0 ∨ m + 596 + 130 * G3_0 + 130 ≤ t := by omega
theorem zx_X16_quotient_4 {G3_0 G3_1 m t : Nat} (h0 : (m + 83 ≤ t ∧ t + 9 ≤ m + 92) ∨ (m + 6316 ≤ t ∧ t + 9 ≤ m + 7594)) (h1 : G3_1 = G3_0 + 1) (h2 : G3_0 + 14 ≤ 44) : t < m + 596 + 130 * G3_1 ∨ m + 596 + 130 * G3_1 + 130 ≤ t := by omega
theorem zx_X16_quotient_5 {G3_0 G3_2 m t : Nat} (h0 : (m + 83 ≤ t ∧ t + 9 ≤ m + 92) ∨ (m + 6316 ≤ t ∧ t + 9 ≤ m + 7594)) (h1 : G3_2 = G3_0 + 2) (h2 : G3_0 + 14 ≤ 44) : t < m + 596 + 130 * G3_2 ∨ m + 596 + 130 * G3_2 + 130 ≤ t := by omega
theorem zx_X16_quotient_6 {G3_0 G3_3 m t : Nat} (h0 : (m + 83 ≤ t ∧ t + 9 ≤ m + 92) ∨ (m + 6316 ≤ t ∧ t + 9 ≤ m + 7594)) (h1 : G3_3 = G3_0 + 3) (h2 : G3_0 + 14 ≤ 44) : t < m + 596 + 130 * G3_3 ∨ m + 596 + 130 * G3_3 + 130 ≤ t := by omega
theorem zx_X16_quotient_7 {G3_0 m x : Nat} (h0 : m + 596 + 130 * G3_0 ≤ x) (h1 : x < m + 596 + 130 * G3_0 + 130) (h2 : G3_0 + 14 ≤ 44) : x < m ∨ m + 1 ≤ x := by omega
theorem zx_X16_quotient_8 {G3_0 G3_1 m x : Nat} (h0 : m + 596 + 130 * G3_0 ≤ x) (h1 : x < m + 596 + 130 * G3_0 + 130) (h2 : G3_1 = G3_0 + 1) (h3 : G3_0 + 14 ≤ 44) : x < m + 596 + 130 * G3_1 ∨ m + 596 + 130 * G3_1 + 130 ≤ x := by omega
theorem zx_X16_quotient_9 {G3_0 G3_2 m x : Nat} (h0 : m + 596 + 130 * G3_0 ≤ x) (h1 : x < m + 596 + 130 * G3_0 + 130) (h2 : G3_2 = G3_0 + 2) (h3 : G3_0 + 14 ≤ 44) : x < m + 596 + 130 * G3_2 ∨ m + 596 + 130 * G3_2 + 130 ≤ x := by omega
theorem zx_X16_quotient_10 {G3_0 G3_3 m x : Nat} (h0 : m + 596 + 130 * G3_0 ≤ x) (h1 : x < m + 596 + 130 * G3_0 + 130) (h2 : G3_3 = G3_0 + 3) (h3 : G3_0 + 14 ≤ 44) : x < m + 596 + 130 * G3_3 ∨ m + 596 + 130 * G3_3 + 130 ≤ x := by omega
theorem zx_X16_quotient_11 {m t : Nat} (h0 : (m + 83 ≤ t ∧ t + 9 ≤ m + 92) ∨ (m + 6316 ≤ t ∧ t + 9 ≤ m + 7594)) : (t + 1) ≠ m := by omega
theorem zx_X16_quotient_12 {m t : Nat} (h0 : (m + 83 ≤ t ∧ t + 9 ≤ m + 92) ∨ (m + 6316 ≤ t ∧ t + 9 ≤ m + 7594)) : (t + 1) < m ∨ m + 1 ≤ (t + 1) := by omega
theorem zx_X16_quotient_13 {m t : Nat} (h0 : (m + 83 ≤ t ∧ t + 9 ≤ m + 92) ∨ (m + 6316 ≤ t ∧ t + 9 ≤ m + 7594)) : (t + 1) < m + 96 ∨ m + 96 + 4 ≤ (t + 1) := by omega
theorem zx_X16_quotient_14 {G3_0 m t : Nat} (h0 : (m + 83 ≤ t ∧ t + 9 ≤ m + 92) ∨ (m + 6316 ≤ t ∧ t + 9 ≤ m + 7594)) (h1 : G3_0 + 14 ≤ 44) : (t + 1) < m + 596 + 130 * G3_0 ∨ m + 596 + 130 * G3_0 + 130 ≤ (t + 1) := by omega
theorem zx_X16_quotient_15 {G3_0 G3_1 m t : Nat} (h0 : (m + 83 ≤ t ∧ t + 9 ≤ m + 92) ∨ (m + 6316 ≤ t ∧ t + 9 ≤ m + 7594)) (h1 : G3_1 = G3_0 + 1) (h2 : G3_0 + 14 ≤ 44) : (t + 1) < m + 596 + 130 * G3_1 ∨ m + 596 + 130 * G3_1 + 130 ≤ (t + 1) := by omega
theorem zx_X16_quotient_16 {G3_0 G3_2 m t : Nat} (h0 : (m + 83 ≤ t ∧ t + 9 ≤ m + 92) ∨ (m + 6316 ≤ t ∧ t + 9 ≤ m + 7594)) (h1 : G3_2 = G3_0 + 2) (h2 : G3_0 + 14 ≤ 44) : (t + 1) < m + 596 + 130 * G3_2 ∨ m + 596 + 130 * G3_2 + 130 ≤ (t + 1) := by omega
theorem zx_X16_quotient_17 {G3_0 G3_3 m t : Nat} (h0 : (m + 83 ≤ t ∧ t + 9 ≤ m + 92) ∨ (m + 6316 ≤ t ∧ t + 9 ≤ m + 7594)) (h1 : G3_3 = G3_0 + 3) (h2 : G3_0 + 14 ≤ 44) : (t + 1) < m + 596 + 130 * G3_3 ∨ m + 596 + 130 * G3_3 + 130 ≤ (t + 1) := by omega
theorem zx_X16_quotient_18 {G3_0 G3_1 m x : Nat} (h0 : m + 596 + 130 * G3_1 ≤ x) (h1 : x < m + 596 + 130 * G3_1 + 130) (h2 : G3_1 = G3_0 + 1) (h3 : G3_0 + 14 ≤ 44) : x < m ∨ m + 1 ≤ x := by omega
theorem zx_X16_quotient_19 {G3_0 G3_1 G3_2 m x : Nat} (h0 : m + 596 + 130 * G3_1 ≤ x) (h1 : x < m + 596 + 130 * G3_1 + 130) (h2 : G3_1 = G3_0 + 1) (h3 : G3_2 = G3_0 + 2) (h4 : G3_0 + 14 ≤ 44) : x < m + 596 + 130 * G3_2 ∨ m + 596 + 130 * G3_2 + 130 ≤ x := by omega
theorem zx_X16_quotient_20 {G3_0 G3_1 G3_3 m x : Nat} (h0 : m + 596 + 130 * G3_1 ≤ x) (h1 : x < m + 596 + 130 * G3_1 + 130) (h2 : G3_1 = G3_0 + 1) (h3 : G3_3 = G3_0 + 3) (h4 : G3_0 + 14 ≤ 44) : x < m + 596 + 130 * G3_3 ∨ m + 596 + 130 * G3_3 + 130 ≤ x := by omega
theorem zx_X16_quotient_21 {G3_0 G3_1 m x : Nat} (h0 : m + 596 + 130 * G3_1 ≤ x) (h1 : x < m + 596 + 130 * G3_1 + 130) (h2 : G3_1 = G3_0 + 1) (h3 : G3_0 + 14 ≤ 44) : x < m + 596 + 130 * G3_0 ∨ m + 596 + 130 * G3_0 + 130 ≤ x := by omega
theorem zx_X16_quotient_22 {m t : Nat} (h0 : (m + 83 ≤ t ∧ t + 9 ≤ m + 92) ∨ (m + 6316 ≤ t ∧ t + 9 ≤ m + 7594)) : (t + 2) ≠ m := by omega
theorem zx_X16_quotient_23 {m t : Nat} (h0 : (m + 83 ≤ t ∧ t + 9 ≤ m + 92) ∨ (m + 6316 ≤ t ∧ t + 9 ≤ m + 7594)) : (t + 2) < m ∨ m + 1 ≤ (t + 2) := by omega
theorem zx_X16_quotient_24 {m t : Nat} (h0 : (m + 83 ≤ t ∧ t + 9 ≤ m + 92) ∨ (m + 6316 ≤ t ∧ t + 9 ≤ m + 7594)) : (t + 2) < m + 96 ∨ m + 96 + 4 ≤ (t + 2) := by omega
theorem zx_X16_quotient_25 {G3_0 m t : Nat} (h0 : (m + 83 ≤ t ∧ t + 9 ≤ m + 92) ∨ (m + 6316 ≤ t ∧ t + 9 ≤ m + 7594)) (h1 : G3_0 + 14 ≤ 44) : (t + 2) < m + 596 + 130 * G3_0 ∨ m + 596 + 130 * G3_0 + 130 ≤ (t + 2) := by omega
theorem zx_X16_quotient_26 {G3_0 G3_1 m t : Nat} (h0 : (m + 83 ≤ t ∧ t + 9 ≤ m + 92) ∨ (m + 6316 ≤ t ∧ t + 9 ≤ m + 7594)) (h1 : G3_1 = G3_0 + 1) (h2 : G3_0 + 14 ≤ 44) : (t + 2) < m + 596 + 130 * G3_1 ∨ m + 596 + 130 * G3_1 + 130 ≤ (t + 2) := by omega
theorem zx_X16_quotient_27 {G3_0 G3_2 m t : Nat} (h0 : (m + 83 ≤ t ∧ t + 9 ≤ m + 92) ∨ (m + 6316 ≤ t ∧ t + 9 ≤ m + 7594)) (h1 : G3_2 = G3_0 + 2) (h2 : G3_0 + 14 ≤ 44) : (t + 2) < m + 596 + 130 * G3_2 ∨ m + 596 + 130 * G3_2 + 130 ≤ (t + 2) := by omega
theorem zx_X16_quotient_28 {G3_0 G3_3 m t : Nat} (h0 : (m + 83 ≤ t ∧ t + 9 ≤ m + 92) ∨ (m + 6316 ≤ t ∧ t + 9 ≤ m + 7594)) (h1 : G3_3 = G3_0 + 3) (h2 : G3_0 + 14 ≤ 44) : (t + 2) < m + 596 + 130 * G3_3 ∨ m + 596 + 130 * G3_3 + 130 ≤ (t + 2) := by omega
theorem zx_X16_quotient_29 {G3_0 G3_2 m x : Nat} (h0 : m + 596 + 130 * G3_2 ≤ x) (h1 : x < m + 596 + 130 * G3_2 + 130) (h2 : G3_2 = G3_0 + 2) (h3 : G3_0 + 14 ≤ 44) : x < m ∨ m + 1 ≤ x := by omega
theorem zx_X16_quotient_30 {G3_0 G3_2 G3_3 m x : Nat} (h0 : m + 596 + 130 * G3_2 ≤ x) (h1 : x < m + 596 + 130 * G3_2 + 130) (h2 : G3_2 = G3_0 + 2) (h3 : G3_3 = G3_0 + 3) (h4 : G3_0 + 14 ≤ 44) : x < m + 596 + 130 * G3_3 ∨ m + 596 + 130 * G3_3 + 130 ≤ x := by omega
theorem zx_X16_quotient_31 {G3_0 G3_2 m x : Nat} (h0 : m + 596 + 130 * G3_2 ≤ x) (h1 : x < m + 596 + 130 * G3_2 + 130) (h2 : G3_2 = G3_0 + 2) (h3 : G3_0 + 14 ≤ 44) : x < m + 596 + 130 * G3_0 ∨ m + 596 + 130 * G3_0 + 130 ≤ x := by omega
theorem zx_X16_quotient_32 {G3_0 G3_1 G3_2 m x : Nat} (h0 : m + 596 + 130 * G3_2 ≤ x) (h1 : x < m + 596 + 130 * G3_2 + 130) (h2 : G3_1 = G3_0 + 1) (h3 : G3_2 = G3_0 + 2) (h4 : G3_0 + 14 ≤ 44) : x < m + 596 + 130 * G3_1 ∨ m + 596 + 130 * G3_1 + 130 ≤ x := by omega
theorem zx_X16_quotient_33 {G3_0 G3_3 m x : Nat} (h0 : m + 596 + 130 * G3_3 ≤ x) (h1 : x < m + 596 + 130 * G3_3 + 130) (h2 : G3_3 = G3_0 + 3) (h3 : G3_0 + 14 ≤ 44) : x < m + 596 + 130 * G3_0 ∨ m + 596 + 130 * G3_0 + 130 ≤ x := by omega
theorem zx_X16_quotient_34 {G3_0 G3_1 G3_3 m x : Nat} (h0 : m + 596 + 130 * G3_3 ≤ x) (h1 : x < m + 596 + 130 * G3_3 + 130) (h2 : G3_1 = G3_0 + 1) (h3 : G3_3 = G3_0 + 3) (h4 : G3_0 + 14 ≤ 44) : x < m + 596 + 130 * G3_1 ∨ m + 596 + 130 * G3_1 + 130 ≤ x := by omega
theorem zx_X16_quotient_35 {G3_0 G3_2 G3_3 m x : Nat} (h0 : m + 596 + 130 * G3_3 ≤ x) (h1 : x < m + 596 + 130 * G3_3 + 130) (h2 : G3_2 = G3_0 + 2) (h3 : G3_3 = G3_0 + 3) (h4 : G3_0 + 14 ≤ 44) : x < m + 596 + 130 * G3_2 ∨ m + 596 + 130 * G3_2 + 130 ≤ x := by omega
theorem zx_X16_quotient_36 {G3_0 m : Nat} (h0 : G3_0 + 14 ≤ 44) : m < m + 596 + 130 * G3_0 ∨ m + 596 + 130 * G3_0 + 130 ≤ m := by omega
theorem zx_X16_quotient_37 {G3_0 G3_1 m : Nat} (h0 : G3_1 = G3_0 + 1) (h1 : G3_0 + 14 ≤ 44) : m < m + 596 + 130 * G3_1 ∨ m + 596 + 130 * G3_1 + 130 ≤ m := by omega
theorem zx_X16_quotient_38 {G3_0 G3_2 m : Nat} (h0 : G3_2 = G3_0 + 2) (h1 : G3_0 + 14 ≤ 44) : m < m + 596 + 130 * G3_2 ∨ m + 596 + 130 * G3_2 + 130 ≤ m := by omega
theorem zx_X16_quotient_39 {G3_0 G3_3 m : Nat} (h0 : G3_3 = G3_0 + 3) (h1 : G3_0 + 14 ≤ 44) : m < m + 596 + 130 * G3_3 ∨ m + 596 + 130 * G3_3 + 130 ≤ m := by omega
theorem zx_X16_quotient_40 {G3_0 m num : Nat} (h0 : m + 596 ≤ num ∧ num + 130 ≤ m + 596 + 130 * G3_0) (h1 : G3_0 + 14 ≤ 44) : m < num ∨ num + 130 ≤ m := by omega
theorem zx_X16_quotient_41 {G3_0 den m : Nat} (h0 : m + 596 ≤ den ∧ den + 130 ≤ m + 596 + 130 * G3_0) (h1 : G3_0 + 14 ≤ 44) : m < den ∨ den + 130 ≤ m := by omega
theorem zx_X16_quotient_42 {G1_0 m : Nat} (h0 : G1_0 + 9 ≤ 160) : m < m + 276 + 2 * G1_0 ∨ m + 276 + 2 * G1_0 + (320 - 2 * G1_0) ≤ m := by omega
theorem zx_X16_quotient_43 {G3_0 G3_4 m : Nat} (h0 : G3_4 = G3_0 + 4) (h1 : G3_0 + 14 ≤ 44) : m < m + 596 + 130 * G3_4 ∨ m + 596 + 130 * G3_4 + (5720 - 130 * G3_4) ≤ m := by omega
theorem zx_X16_quotient_44 {m : Nat}  : m < m + 3 ∨ m + 3 + 1 ≤ m := by omega
theorem zx_X16_quotient_45 {m : Nat}  : m < m + 5 ∨ m + 5 + 64 ≤ m := by omega
theorem zx_X16_quotient_46 {m x : Nat} (h0 : x < m ∨ m + 1 ≤ x) : x ≠ m := by omega
theorem zx_X16_quotient_47 {G3_0 m x : Nat} (h0 : x < m + 596 + 130 * G3_0 ∨ m + 596 + 130 * G3_0 + (5720 - 130 * G3_0) ≤ x) (h1 : G3_0 + 14 ≤ 44) : x < m + 596 + 130 * G3_0 ∨ m + 596 + 130 * G3_0 + 130 ≤ x := by omega
theorem zx_X16_quotient_48 {G3_0 G3_1 m x : Nat} (h0 : x < m + 596 + 130 * G3_0 ∨ m + 596 + 130 * G3_0 + (5720 - 130 * G3_0) ≤ x) (h1 : G3_1 = G3_0 + 1) (h2 : G3_0 + 14 ≤ 44) : x < m + 596 + 130 * G3_1 ∨ m + 596 + 130 * G3_1 + 130 ≤ x := by omega
theorem zx_X16_quotient_49 {G3_0 G3_2 m x : Nat} (h0 : x < m + 596 + 130 * G3_0 ∨ m + 596 + 130 * G3_0 + (5720 - 130 * G3_0) ≤ x) (h1 : G3_2 = G3_0 + 2) (h2 : G3_0 + 14 ≤ 44) : x < m + 596 + 130 * G3_2 ∨ m + 596 + 130 * G3_2 + 130 ≤ x := by omega
theorem zx_X16_quotient_50 {G3_0 G3_3 m x : Nat} (h0 : x < m + 596 + 130 * G3_0 ∨ m + 596 + 130 * G3_0 + (5720 - 130 * G3_0) ≤ x) (h1 : G3_3 = G3_0 + 3) (h2 : G3_0 + 14 ≤ 44) : x < m + 596 + 130 * G3_3 ∨ m + 596 + 130 * G3_3 + 130 ≤ x := by omega
theorem zx_X16_quotient_51 {G3_0 G3_4 m x : Nat} (h0 : x < m + 596 + 130 * G3_0 ∨ m + 596 + 130 * G3_0 + (5720 - 130 * G3_0) ≤ x) (h1 : G3_4 = G3_0 + 4) (h2 : G3_0 + 14 ≤ 44) : x < m + 596 + 130 * G3_4 ∨ m + 596 + 130 * G3_4 + (5720 - 130 * G3_4) ≤ x := by omega
theorem zx_X16_quotient_52 {G3_0 m num x : Nat} (h0 : num ≤ x) (h1 : x < num + 130) (h2 : m + 596 ≤ num ∧ num + 130 ≤ m + 596 + 130 * G3_0) (h3 : G3_0 + 14 ≤ 44) : x ≠ m := by omega
theorem zx_X16_quotient_53 {G3_0 den m x : Nat} (h0 : den ≤ x) (h1 : x < den + 130) (h2 : m + 596 ≤ den ∧ den + 130 ≤ m + 596 + 130 * G3_0) (h3 : G3_0 + 14 ≤ 44) : x ≠ m := by omega
theorem zx_X16_quotient_54 {G3_0 den m num x : Nat} (h0 : den ≤ x) (h1 : x < den + 130) (h2 : num + 130 ≤ den ∨ den + 130 ≤ num) (h3 : m + 596 ≤ num ∧ num + 130 ≤ m + 596 + 130 * G3_0) (h4 : m + 596 ≤ den ∧ den + 130 ≤ m + 596 + 130 * G3_0) (h5 : G3_0 + 14 ≤ 44) : x < num ∨ num + 130 ≤ x := by omega
theorem zx_X16_quotient_55 {m : Nat}  : (m + 96) < m ∨ m + 1 ≤ (m + 96) := by omega
theorem zx_X16_quotient_56 {G3_0 m : Nat} (h0 : G3_0 + 14 ≤ 44) : (m + 96) < m + 596 + 130 * G3_0 ∨ m + 596 + 130 * G3_0 + 130 ≤ (m + 96) := by omega
theorem zx_X16_quotient_57 {G3_0 G3_1 m : Nat} (h0 : G3_1 = G3_0 + 1) (h1 : G3_0 + 14 ≤ 44) : (m + 96) < m + 596 + 130 * G3_1 ∨ m + 596 + 130 * G3_1 + 130 ≤ (m + 96) := by omega
theorem zx_X16_quotient_58 {G3_0 G3_2 m : Nat} (h0 : G3_2 = G3_0 + 2) (h1 : G3_0 + 14 ≤ 44) : (m + 96) < m + 596 + 130 * G3_2 ∨ m + 596 + 130 * G3_2 + 130 ≤ (m + 96) := by omega
theorem zx_X16_quotient_59 {G3_0 G3_3 m : Nat} (h0 : G3_3 = G3_0 + 3) (h1 : G3_0 + 14 ≤ 44) : (m + 96) < m + 596 + 130 * G3_3 ∨ m + 596 + 130 * G3_3 + 130 ≤ (m + 96) := by omega
theorem zx_X16_quotient_60 {G3_0 m num : Nat} (h0 : m + 596 ≤ num ∧ num + 130 ≤ m + 596 + 130 * G3_0) (h1 : G3_0 + 14 ≤ 44) : (m + 96) < num ∨ num + 130 ≤ (m + 96) := by omega
theorem zx_X16_quotient_61 {G3_0 den m : Nat} (h0 : m + 596 ≤ den ∧ den + 130 ≤ m + 596 + 130 * G3_0) (h1 : G3_0 + 14 ≤ 44) : (m + 96) < den ∨ den + 130 ≤ (m + 96) := by omega
theorem zx_X16_quotient_62 {G1_0 m : Nat} (h0 : G1_0 + 9 ≤ 160) : (m + 96) < m + 276 + 2 * G1_0 ∨ m + 276 + 2 * G1_0 + (320 - 2 * G1_0) ≤ (m + 96) := by omega
theorem zx_X16_quotient_63 {G3_0 G3_4 m : Nat} (h0 : G3_4 = G3_0 + 4) (h1 : G3_0 + 14 ≤ 44) : (m + 96) < m + 596 + 130 * G3_4 ∨ m + 596 + 130 * G3_4 + (5720 - 130 * G3_4) ≤ (m + 96) := by omega
theorem zx_X16_quotient_64 {m : Nat}  : (m + 96) < m + 3 ∨ m + 3 + 1 ≤ (m + 96) := by omega
theorem zx_X16_quotient_65 {m : Nat}  : (m + 96) < m + 5 ∨ m + 5 + 64 ≤ (m + 96) := by omega
theorem zx_X16_quotient_66 {m : Nat}  : (m + 96) ≠ m := by omega
theorem zx_X16_quotient_67 {m : Nat}  : (m + 97) < m ∨ m + 1 ≤ (m + 97) := by omega
theorem zx_X16_quotient_68 {G3_0 m : Nat} (h0 : G3_0 + 14 ≤ 44) : (m + 97) < m + 596 + 130 * G3_0 ∨ m + 596 + 130 * G3_0 + 130 ≤ (m + 97) := by omega
theorem zx_X16_quotient_69 {G3_0 G3_1 m : Nat} (h0 : G3_1 = G3_0 + 1) (h1 : G3_0 + 14 ≤ 44) : (m + 97) < m + 596 + 130 * G3_1 ∨ m + 596 + 130 * G3_1 + 130 ≤ (m + 97) := by omega
theorem zx_X16_quotient_70 {G3_0 G3_2 m : Nat} (h0 : G3_2 = G3_0 + 2) (h1 : G3_0 + 14 ≤ 44) : (m + 97) < m + 596 + 130 * G3_2 ∨ m + 596 + 130 * G3_2 + 130 ≤ (m + 97) := by omega
theorem zx_X16_quotient_71 {G3_0 G3_3 m : Nat} (h0 : G3_3 = G3_0 + 3) (h1 : G3_0 + 14 ≤ 44) : (m + 97) < m + 596 + 130 * G3_3 ∨ m + 596 + 130 * G3_3 + 130 ≤ (m + 97) := by omega
theorem zx_X16_quotient_72 {G3_0 m num : Nat} (h0 : m + 596 ≤ num ∧ num + 130 ≤ m + 596 + 130 * G3_0) (h1 : G3_0 + 14 ≤ 44) : (m + 97) < num ∨ num + 130 ≤ (m + 97) := by omega
theorem zx_X16_quotient_73 {G3_0 den m : Nat} (h0 : m + 596 ≤ den ∧ den + 130 ≤ m + 596 + 130 * G3_0) (h1 : G3_0 + 14 ≤ 44) : (m + 97) < den ∨ den + 130 ≤ (m + 97) := by omega
theorem zx_X16_quotient_74 {G1_0 m : Nat} (h0 : G1_0 + 9 ≤ 160) : (m + 97) < m + 276 + 2 * G1_0 ∨ m + 276 + 2 * G1_0 + (320 - 2 * G1_0) ≤ (m + 97) := by omega
theorem zx_X16_quotient_75 {G3_0 G3_4 m : Nat} (h0 : G3_4 = G3_0 + 4) (h1 : G3_0 + 14 ≤ 44) : (m + 97) < m + 596 + 130 * G3_4 ∨ m + 596 + 130 * G3_4 + (5720 - 130 * G3_4) ≤ (m + 97) := by omega
theorem zx_X16_quotient_76 {m : Nat}  : (m + 97) < m + 3 ∨ m + 3 + 1 ≤ (m + 97) := by omega
theorem zx_X16_quotient_77 {m : Nat}  : (m + 97) < m + 5 ∨ m + 5 + 64 ≤ (m + 97) := by omega
theorem zx_X16_quotient_78 {m : Nat}  : (m + 97) ≠ m := by omega
theorem zx_X16_quotient_79 {m : Nat}  : (m + 98) < m ∨ m + 1 ≤ (m + 98) := by omega
theorem zx_X16_quotient_80 {G3_0 m : Nat} (h0 : G3_0 + 14 ≤ 44) : (m + 98) < m + 596 + 130 * G3_0 ∨ m + 596 + 130 * G3_0 + 130 ≤ (m + 98) := by omega
theorem zx_X16_quotient_81 {G3_0 G3_1 m : Nat} (h0 : G3_1 = G3_0 + 1) (h1 : G3_0 + 14 ≤ 44) : (m + 98) < m + 596 + 130 * G3_1 ∨ m + 596 + 130 * G3_1 + 130 ≤ (m + 98) := by omega
theorem zx_X16_quotient_82 {G3_0 G3_2 m : Nat} (h0 : G3_2 = G3_0 + 2) (h1 : G3_0 + 14 ≤ 44) : (m + 98) < m + 596 + 130 * G3_2 ∨ m + 596 + 130 * G3_2 + 130 ≤ (m + 98) := by omega
theorem zx_X16_quotient_83 {G3_0 G3_3 m : Nat} (h0 : G3_3 = G3_0 + 3) (h1 : G3_0 + 14 ≤ 44) : (m + 98) < m + 596 + 130 * G3_3 ∨ m + 596 + 130 * G3_3 + 130 ≤ (m + 98) := by omega
theorem zx_X16_quotient_84 {G3_0 m num : Nat} (h0 : m + 596 ≤ num ∧ num + 130 ≤ m + 596 + 130 * G3_0) (h1 : G3_0 + 14 ≤ 44) : (m + 98) < num ∨ num + 130 ≤ (m + 98) := by omega
theorem zx_X16_quotient_85 {G3_0 den m : Nat} (h0 : m + 596 ≤ den ∧ den + 130 ≤ m + 596 + 130 * G3_0) (h1 : G3_0 + 14 ≤ 44) : (m + 98) < den ∨ den + 130 ≤ (m + 98) := by omega
theorem zx_X16_quotient_86 {G1_0 m : Nat} (h0 : G1_0 + 9 ≤ 160) : (m + 98) < m + 276 + 2 * G1_0 ∨ m + 276 + 2 * G1_0 + (320 - 2 * G1_0) ≤ (m + 98) := by omega
theorem zx_X16_quotient_87 {G3_0 G3_4 m : Nat} (h0 : G3_4 = G3_0 + 4) (h1 : G3_0 + 14 ≤ 44) : (m + 98) < m + 596 + 130 * G3_4 ∨ m + 596 + 130 * G3_4 + (5720 - 130 * G3_4) ≤ (m + 98) := by omega
theorem zx_X16_quotient_88 {m : Nat}  : (m + 98) < m + 3 ∨ m + 3 + 1 ≤ (m + 98) := by omega
theorem zx_X16_quotient_89 {m : Nat}  : (m + 98) < m + 5 ∨ m + 5 + 64 ≤ (m + 98) := by omega
theorem zx_X16_quotient_90 {m : Nat}  : (m + 98) ≠ m := by omega
theorem zx_X16_quotient_91 {m : Nat}  : (m + 99) < m ∨ m + 1 ≤ (m + 99) := by omega
theorem zx_X16_quotient_92 {G3_0 m : Nat} (h0 : G3_0 + 14 ≤ 44) : (m + 99) < m + 596 + 130 * G3_0 ∨ m + 596 + 130 * G3_0 + 130 ≤ (m + 99) := by omega
theorem zx_X16_quotient_93 {G3_0 G3_1 m : Nat} (h0 : G3_1 = G3_0 + 1) (h1 : G3_0 + 14 ≤ 44) : (m + 99) < m + 596 + 130 * G3_1 ∨ m + 596 + 130 * G3_1 + 130 ≤ (m + 99) := by omega
theorem zx_X16_quotient_94 {G3_0 G3_2 m : Nat} (h0 : G3_2 = G3_0 + 2) (h1 : G3_0 + 14 ≤ 44) : (m + 99) < m + 596 + 130 * G3_2 ∨ m + 596 + 130 * G3_2 + 130 ≤ (m + 99) := by omega
theorem zx_X16_quotient_95 {G3_0 G3_3 m : Nat} (h0 : G3_3 = G3_0 + 3) (h1 : G3_0 + 14 ≤ 44) : (m + 99) < m + 596 + 130 * G3_3 ∨ m + 596 + 130 * G3_3 + 130 ≤ (m + 99) := by omega
theorem zx_X16_quotient_96 {G3_0 m num : Nat} (h0 : m + 596 ≤ num ∧ num + 130 ≤ m + 596 + 130 * G3_0) (h1 : G3_0 + 14 ≤ 44) : (m + 99) < num ∨ num + 130 ≤ (m + 99) := by omega
theorem zx_X16_quotient_97 {G3_0 den m : Nat} (h0 : m + 596 ≤ den ∧ den + 130 ≤ m + 596 + 130 * G3_0) (h1 : G3_0 + 14 ≤ 44) : (m + 99) < den ∨ den + 130 ≤ (m + 99) := by omega
theorem zx_X16_quotient_98 {G1_0 m : Nat} (h0 : G1_0 + 9 ≤ 160) : (m + 99) < m + 276 + 2 * G1_0 ∨ m + 276 + 2 * G1_0 + (320 - 2 * G1_0) ≤ (m + 99) := by omega
theorem zx_X16_quotient_99 {G3_0 G3_4 m : Nat} (h0 : G3_4 = G3_0 + 4) (h1 : G3_0 + 14 ≤ 44) : (m + 99) < m + 596 + 130 * G3_4 ∨ m + 596 + 130 * G3_4 + (5720 - 130 * G3_4) ≤ (m + 99) := by omega
theorem zx_X16_quotient_100 {m : Nat}  : (m + 99) < m + 3 ∨ m + 3 + 1 ≤ (m + 99) := by omega
theorem zx_X16_quotient_101 {m : Nat}  : (m + 99) < m + 5 ∨ m + 5 + 64 ≤ (m + 99) := by omega
theorem zx_X16_quotient_102 {m : Nat}  : (m + 99) ≠ m := by omega
theorem zx_X16_quotient_103 {m t : Nat} (h0 : (m + 83 ≤ t ∧ t + 9 ≤ m + 92) ∨ (m + 6316 ≤ t ∧ t + 9 ≤ m + 7594)) : (t + 3) ≠ m := by omega
theorem zx_X16_quotient_104 {m t : Nat} (h0 : (m + 83 ≤ t ∧ t + 9 ≤ m + 92) ∨ (m + 6316 ≤ t ∧ t + 9 ≤ m + 7594)) : (t + 3) < m ∨ m + 1 ≤ (t + 3) := by omega
theorem zx_X16_quotient_105 {m t : Nat} (h0 : (m + 83 ≤ t ∧ t + 9 ≤ m + 92) ∨ (m + 6316 ≤ t ∧ t + 9 ≤ m + 7594)) : (t + 3) < m + 96 ∨ m + 96 + 4 ≤ (t + 3) := by omega
theorem zx_X16_quotient_106 {m t : Nat} (h0 : (m + 83 ≤ t ∧ t + 9 ≤ m + 92) ∨ (m + 6316 ≤ t ∧ t + 9 ≤ m + 7594)) : (t + 4) ≠ m := by omega
theorem zx_X16_quotient_107 {m t : Nat} (h0 : (m + 83 ≤ t ∧ t + 9 ≤ m + 92) ∨ (m + 6316 ≤ t ∧ t + 9 ≤ m + 7594)) : (t + 4) < m ∨ m + 1 ≤ (t + 4) := by omega
theorem zx_X16_quotient_108 {m t : Nat} (h0 : (m + 83 ≤ t ∧ t + 9 ≤ m + 92) ∨ (m + 6316 ≤ t ∧ t + 9 ≤ m + 7594)) : (t + 4) < m + 96 ∨ m + 96 + 4 ≤ (t + 4) := by omega
theorem zx_X16_quotient_109 {m t : Nat} (h0 : (m + 83 ≤ t ∧ t + 9 ≤ m + 92) ∨ (m + 6316 ≤ t ∧ t + 9 ≤ m + 7594)) : (t + 5) ≠ m := by omega
theorem zx_X16_quotient_110 {m t : Nat} (h0 : (m + 83 ≤ t ∧ t + 9 ≤ m + 92) ∨ (m + 6316 ≤ t ∧ t + 9 ≤ m + 7594)) : (t + 5) < m ∨ m + 1 ≤ (t + 5) := by omega
theorem zx_X16_quotient_111 {m t : Nat} (h0 : (m + 83 ≤ t ∧ t + 9 ≤ m + 92) ∨ (m + 6316 ≤ t ∧ t + 9 ≤ m + 7594)) : (t + 5) < m + 96 ∨ m + 96 + 4 ≤ (t + 5) := by omega
theorem zx_X16_quotient_112 {m t : Nat} (h0 : (m + 83 ≤ t ∧ t + 9 ≤ m + 92) ∨ (m + 6316 ≤ t ∧ t + 9 ≤ m + 7594)) : (t + 6) ≠ m := by omega
theorem zx_X16_quotient_113 {m t : Nat} (h0 : (m + 83 ≤ t ∧ t + 9 ≤ m + 92) ∨ (m + 6316 ≤ t ∧ t + 9 ≤ m + 7594)) : (t + 6) < m ∨ m + 1 ≤ (t + 6) := by omega
theorem zx_X16_quotient_114 {m t : Nat} (h0 : (m + 83 ≤ t ∧ t + 9 ≤ m + 92) ∨ (m + 6316 ≤ t ∧ t + 9 ≤ m + 7594)) : (t + 6) < m + 96 ∨ m + 96 + 4 ≤ (t + 6) := by omega
set_option maxHeartbeats 8000000 in
set_option maxRecDepth 100000 in
theorem c_X16_quotient {w : zM} {g : Nat → Int32} {r : Nat → Value} {k : Int32} {g1 : Int32} {g3 : Int32} (m : Nat) (num : Nat) (den : Nat) (t : Nat) (dn : Int32) (dk : Int32) (hm : w m = some (.inl (15, zMo m g r))) (hR_m : zR m w) (hBo_num : zBo w num) (hBo_den : zBo w den) (hTi_t : zTi w t k) (hut : 0 ≤ g1.toInt ∧ g1.toInt + 9 ≤ 160) (hbt : 0 ≤ g3.toInt ∧ g3.toInt + 14 ≤ 44) (hnd : num + 130 ≤ den ∨ den + 130 ≤ num) (hmn : m + 596 ≤ num ∧ num + 130 ≤ m + 596 + 130 * g3.toNatClampNeg) (hmd : m + 596 ≤ den ∧ den + 130 ≤ m + 596 + 130 * g3.toNatClampNeg) (hot : (m + 83 ≤ t ∧ t + 9 ≤ m + 92) ∨ (m + 6316 ≤ t ∧ t + 9 ≤ m + 7594)) (hk : k = 1 ∨ k = 2) (hnz : zNz w t) (hdd : 0 ≤ dn.toInt ∧ 0 ≤ dk.toInt ∧ dn.toInt + dk.toInt ≤ 3) (hg1 : g 1 = g1) (hg3 : g 3 = g3) : zCon 11 zq_X16_quotient [.ref m, .ref num, .ref den, .ref t, .int dn, .int dk] w (fun v9 w9' => ∃ L9 : Int32, ∃ N9 : Int32, ∃ P9 : zA2, ∃ Q9 : zA2, zSI w w9' ∧ (∀ x, (x < m ∨ m + 1 ≤ x) ∧ (x < num ∨ num + 130 ≤ x) ∧ (x < den ∨ den + 130 ≤ x) ∧ (x < m + 96 ∨ m + 96 + 4 ≤ x) ∧ (x < m + 276 + 2 * g1.toNatClampNeg ∨ m + 276 + 2 * g1.toNatClampNeg + (320 - 2 * g1.toNatClampNeg) ≤ x) ∧ (x < m + 596 + 130 * g3.toNatClampNeg ∨ m + 596 + 130 * g3.toNatClampNeg + (5720 - 130 * g3.toNatClampNeg) ≤ x) ∧ (x < m + 3 ∨ m + 3 + 1 ≤ x) ∧ (x < m + 5 ∨ m + 5 + 64 ≤ x) → w9' x = w x) ∧ w9' m = some (.inl (15, zMo m (zs (zs g 36 L9) 37 N9) r)) ∧ zB w9' num P9 ∧ zB w9' den Q9 ∧ (0 < zrw P9 ∧ 0 < zrw Q9 ∧ zrw P9 ≤ 51 ∧ zdn P9 ≤ 111 ∧ zrw Q9 ≤ 51 ∧ zdn Q9 ≤ 111) ∧ ∃ r9 : Int32, v9 = some (.int r9) ∧ (r9 = 0 ∨ r9 = 1) ∧ (r9 = 1 → zrw P9 ≤ 13 ∧ zdn P9 ≤ 24 ∧ zrw Q9 ≤ 13 ∧ zdn Q9 ≤ 24)) := by
  subst hg1
  subst hg3
  intro d sz hd
  obtain ⟨d, rfl⟩ : ∃ d9, d = d9 + 1 := ⟨d - 1, by omega⟩
  generalize hPost : (fun (r9' : Option (Option Value)) (w9' : zM) (z9 : Nat) => z9 = sz ∧ ∃ v9, r9' = some v9 ∧ (∃ L9 : Int32, ∃ N9 : Int32, ∃ P9 : zA2, ∃ Q9 : zA2, zSI w w9' ∧ (∀ x, (x < m ∨ m + 1 ≤ x) ∧ (x < num ∨ num + 130 ≤ x) ∧ (x < den ∨ den + 130 ≤ x) ∧ (x < m + 96 ∨ m + 96 + 4 ≤ x) ∧ (x < m + 276 + 2 * (g 1).toNatClampNeg ∨ m + 276 + 2 * (g 1).toNatClampNeg + (320 - 2 * (g 1).toNatClampNeg) ≤ x) ∧ (x < m + 596 + 130 * (g 3).toNatClampNeg ∨ m + 596 + 130 * (g 3).toNatClampNeg + (5720 - 130 * (g 3).toNatClampNeg) ≤ x) ∧ (x < m + 3 ∨ m + 3 + 1 ≤ x) ∧ (x < m + 5 ∨ m + 5 + 64 ≤ x) → w9' x = w x) ∧ w9' m = some (.inl (15, zMo m (zs (zs g 36 L9) 37 N9) r)) ∧ zB w9' num P9 ∧ zB w9' den Q9 ∧ (0 < zrw P9 ∧ 0 < zrw Q9 ∧ zrw P9 ≤ 51 ∧ zdn P9 ≤ 111 ∧ zrw Q9 ≤ 51 ∧ zdn Q9 ≤ 111) ∧ ∃ r9 : Int32, v9 = some (.int r9) ∧ (r9 = 0 ∨ r9 = 1) ∧ (r9 = 1 → zrw P9 ≤ 13 ∧ zdn P9 ≤ 24 ∧ zrw Q9 ≤ 13 ∧ zdn Q9 ≤ 24))) = Post
  show zP (d + 1) zq_X16_quotient 0 [(0, .ref m), (1, .ref num), (2, .ref den), (3, .ref t), (4, .int dn), (5, .int dk)] [] w sz 0 0 Post
  have k1 := zrng dn
  have k2 := zrng dk
  have k3 := zrng (g 1)
  have hz4 : ((g 1).toNatClampNeg : Int) = (g 1).toInt := znat (by first | omega | decide)
  have hgb1 : (g 1).toNatClampNeg + 9 ≤ 160 := by omega
  have k5 := zrng (g 3)
  have hz6 : ((g 3).toNatClampNeg : Int) = (g 3).toInt := znat (by first | omega | decide)
  have hgb3 : (g 3).toNatClampNeg + 14 ≤ 44 := by omega
  obtain ⟨g1, fn1, fd1, fa1, fb1, fc1, fe1, fr1, fu1, hT1, hAn1, hAd1, hAa1, hAb1, hAc1, hAe1, hAr1, hAu1, hK1⟩ := id hTi_t
  obtain ⟨hK10, hKn1, hKd1, hKx1, hKm1, hKl1, hKr1, hKu1, hKk1⟩ := id hK1
  have hn1 := zNz_of hnz hAn1
  have hd1 : 0 < zrw (zbT fd1) := hKk1.2.1 (hk.elim Or.inl (fun e => Or.inr (Or.inl e)))
  have hx1 := hKk1.2.2.2.1 hk
  have hdn9 : zr1 dn := ⟨by omega, by omega⟩
  have hdk9 : zr1 dk := ⟨by omega, by omega⟩
  have k7 := zrng (g1 5)
  have hz8 : ((g1 5).toNatClampNeg : Int) = (g1 5).toInt := znat (by first | omega | decide)
  have srfn1 := zbT_rw fn1
  have sdfn1 := zbT_dn fn1
  have srfd1 := zbT_rw fd1
  have sdfd1 := zbT_dn fd1
  refine zp_seg (pc' := 1) (lv' := [(0, .ref m), (1, .ref num), (2, .ref den), (3, .ref t), (4, .int dn), (5, .int dk)]) (st' := [.ref m]) [(0, .aload_n 0)] (by decide +kernel) rfl ?_
  refine zr_get (idx := 90) (k := 3) (v := .int (g 3)) (by decide +kernel) (by decide +kernel) hm rfl ?_
  refine zp_seg (pc' := 8) (lv' := [(6, .int (g 3)), (0, .ref m), (1, .ref num), (2, .ref den), (3, .ref t), (4, .int dn), (5, .int dk)]) (st' := [.int 0, .ref m]) [(4, .istore 6), (6, .aload_n 0), (7, .iconst 0)] (by decide +kernel) rfl ?_
  refine zr_put2 (idx := 616) (k := 36) (fs2 := zMo m (zs g 36 0) r) (by decide +kernel) (by decide +kernel) hm (Nat.le_of_ble_eq_true rfl) rfl rfl rfl ?_
  show zP (d + 1) zq_X16_quotient 11 [(6, .int (g 3)), (0, .ref m), (1, .ref num), (2, .ref den), (3, .ref t), (4, .int dn), (5, .int dk)] [] (zup w m (.inl (15, zMo m (zs g 36 0) r))) sz 0 0 Post
  obtain ⟨w8, ew8⟩ : ∃ wz9, wz9 = zup w m (.inl (15, zMo m (zs g 36 0) r)) := ⟨_, rfl⟩
  have hsi8 : zSI w w8 := by rw [ew8]; exact zSI.setG hm _ _
  have heq8 : ∀ x, x ≠ m → w8 x = w x := fun x hx => by rw [ew8]; exact zup_n hx
  have hc8 : w8 m = some (.inl (15, zMo m (zs g 36 0) r)) := by rw [ew8]; exact zup_s
  rw [← ew8]
  clear ew8
  refine zp_seg (pc' := 13) (lv' := [(6, .int (g 3)), (0, .ref m), (1, .ref num), (2, .ref den), (3, .ref t), (4, .int dn), (5, .int dk)]) (st' := [.ref t, .ref m]) [(11, .aload_n 0), (12, .aload_n 3)] (by decide +kernel) rfl ?_
  have hb9 : w8 t = some (.inl (13, zTo t g1)) := (heq8 t (zx_X16_quotient_0 hot)).trans hT1
  refine zr_get (idx := 213) (k := 3) (v := .int (g1 3)) (by decide +kernel) (by decide +kernel) hb9 rfl ?_
  refine zp_seg (pc' := 19) (lv' := [(6, .int (g 3)), (0, .ref m), (1, .ref num), (2, .ref den), (3, .ref t), (4, .int dn), (5, .int dk)]) (st' := [.long (dn.toInt64), .int (g1 3), .ref m]) [(16, .iload 4), (18, .i2l)] (by decide +kernel) rfl ?_
  have k10 := zi2lM dn
  generalize ev19 : (dn.toInt64 : Int64) = v19 at k10 ⊢
  have kv19 := zrngL v19
  have k11 := zrng (g1 3)
  refine zr_callS (idx := 8) (j := 258) (by decide +kernel) (by decide +kernel) (by decide) (show zMe 258 = some zq_X16_pow from rfl) rfl rfl (Nat.le_of_ble_eq_true rfl) rfl rfl (Nat.le_of_ble_eq_true rfl) (Nat.le_of_ble_eq_true rfl) (c_X16_pow (w := w8) (g1 3) v19 (by exact hKx1.1) (by first | omega | decide | assumption | exact zr1_1 | exact zr1_0 | fail "num")) (by omega) (fun v19 w19 hp19 => ?_)
  obtain ⟨hpw19, r19, rfl, hr19⟩ := hp19
  replace hpw19 := hpw19.symm
  subst hpw19
  have kr19 := zrng r19
  show zP _ _ _ _ [.int r19, .ref m] _ _ _ _ _
  refine zp_seg (pc' := 23) (lv' := [(6, .int (g 3)), (0, .ref m), (1, .ref num), (2, .ref den), (3, .ref t), (4, .int dn), (5, .int dk)]) (st' := [.ref t, .int r19, .ref m]) [(22, .aload_n 3)] (by decide +kernel) rfl ?_
  refine zr_get (idx := 216) (k := 4) (v := .int (g1 4)) (by decide +kernel) (by decide +kernel) hb9 rfl ?_
  refine zp_seg (pc' := 29) (lv' := [(6, .int (g 3)), (0, .ref m), (1, .ref num), (2, .ref den), (3, .ref t), (4, .int dn), (5, .int dk)]) (st' := [.long (dk.toInt64), .int (g1 4), .int r19, .ref m]) [(26, .iload 5), (28, .i2l)] (by decide +kernel) rfl ?_
  have k12 := zi2lM dk
  generalize ev29 : (dk.toInt64 : Int64) = v29 at k12 ⊢
  have kv29 := zrngL v29
  have k13 := zrng (g1 4)
  refine zr_callS (idx := 8) (j := 258) (by decide +kernel) (by decide +kernel) (by decide) (show zMe 258 = some zq_X16_pow from rfl) rfl rfl (Nat.le_of_ble_eq_true rfl) rfl rfl (Nat.le_of_ble_eq_true rfl) (Nat.le_of_ble_eq_true rfl) (c_X16_pow (w := w8) (g1 4) v29 (by exact hKx1.2) (by first | omega | decide | assumption | exact zr1_1 | exact zr1_0 | fail "num")) (by omega) (fun v29 w29 hp29 => ?_)
  obtain ⟨hpw29, r29, rfl, hr29⟩ := hp29
  replace hpw29 := hpw29.symm
  subst hpw29
  have kr29 := zrng r29
  show zP _ _ _ _ [.int r29, .int r19, .ref m] _ _ _ _ _
  refine zr_callS (idx := 56) (j := 257) (by decide +kernel) (by decide +kernel) (by decide) (show zMe 257 = some zq_X16_mul from rfl) rfl rfl (Nat.le_of_ble_eq_true rfl) rfl rfl (Nat.le_of_ble_eq_true rfl) (Nat.le_of_ble_eq_true rfl) (c_X16_mul (w := w8) r19 r29 (by first | exact hr19.1 | omega | decide | assumption | exact zr1_1 | exact zr1_0 | fail "num") (by first | exact hr29.1 | omega | decide | assumption | exact zr1_1 | exact zr1_0 | fail "num")) (by omega) (fun v32 w32 hp32 => ?_)
  obtain ⟨hpw32, r32, rfl, hr32⟩ := hp32
  replace hpw32 := hpw32.symm
  subst hpw32
  have kr32 := zrng r32
  show zP _ _ _ _ [.int r32, .ref m] _ _ _ _ _
  have hN0 : r32 ≠ 0 := zmul_nz hr19.1 hr29.1 hr32.2 (zpw_nz2 hKx1.1 hx1.1 hr19.2) (zpw_nz2 hKx1.2 hx1.2 hr29.2)
  refine zr_put2 (idx := 613) (k := 37) (fs2 := zMo m (zs (zs g 36 0) 37 r32) r) (by decide +kernel) (by decide +kernel) hc8 (Nat.le_of_ble_eq_true rfl) rfl rfl rfl ?_
  show zP (d + 1) zq_X16_quotient 38 [(6, .int (g 3)), (0, .ref m), (1, .ref num), (2, .ref den), (3, .ref t), (4, .int dn), (5, .int dk)] [] (zup w8 m (.inl (15, zMo m (zs (zs g 36 0) 37 r32) r))) sz 0 0 Post
  obtain ⟨w35, ew35⟩ : ∃ wz9, wz9 = zup w8 m (.inl (15, zMo m (zs (zs g 36 0) 37 r32) r)) := ⟨_, rfl⟩
  have hsi35 : zSI w8 w35 := by rw [ew35]; exact zSI.setG hc8 _ _
  have heq35 : ∀ x, x ≠ m → w35 x = w8 x := fun x hx => by rw [ew35]; exact zup_n hx
  have hc35 : w35 m = some (.inl (15, zMo m (zs (zs g 36 0) 37 r32) r)) := by rw [ew35]; exact zup_s
  rw [← ew35]
  clear ew35
  refine zp_seg (pc' := 41) (lv' := [(7, .int 0), (6, .int (g 3)), (0, .ref m), (1, .ref num), (2, .ref den), (3, .ref t), (4, .int dn), (5, .int dk)]) (st' := []) [(38, .iconst 0), (39, .istore 7)] (by decide +kernel) rfl ?_
  have hL41 : ∀ (mm41 : Nat) (wL41 : zM) (y7_41 : Int32) (pL : Int32) (pN : Int32) (pa : Nat → Int32) (pb : Nat → Int32) (pc : Nat → Int32) (pe : Nat → Int32), (zSI w35 wL41) → (∀ x, ((x < m ∨ m + 1 ≤ x) ∧ (x < m + 96 ∨ m + 96 + 4 ≤ x)) ∧ x ≠ m → wL41 x = w35 x) → (0 ≤ y7_41.toInt) → (y7_41.toInt ≤ (g1 5).toInt) → (wL41 m = some (.inl (15, zMo m (zs (zs g 36 pL) 37 pN) r))) → (wL41 (m + 96) = some (.inr (0, 120, .inl pa))) → (wL41 (m + 97) = some (.inr (0, 120, .inl pb))) → (wL41 (m + 98) = some (.inr (0, 120, .inl pc))) → (wL41 (m + 99) = some (.inr (0, 120, .inl pe))) → ((zr1 pN ∧ pN ≠ 0) ∧ zQs pa pb pc pL.toNatClampNeg) → (0 ≤ pL.toInt ∧ pL.toInt ≤ 9 * y7_41.toInt) → (20 - y7_41.toInt).toNat < mm41 → zP (d + 1) zq_X16_quotient 41 [(0, .ref m), (1, .ref num), (2, .ref den), (3, .ref t), (4, .int dn), (5, .int dk), (6, .int (g 3)), (7, .int y7_41)] [] wL41 sz 0 0 Post := by
    intro mm41
    induction mm41 with
    | zero => intros; omega
    | succ mm41 ih41 =>
    intro wL41 y7_41 pL pN pa pb pc pe hsiL41 heqL41 hi41_0 hi41_1 hpM hpa hpb hpc hpe hpq hpB hmu41
    have ky7_41 := zrng y7_41
    have hz14 : (y7_41.toNatClampNeg : Int) = y7_41.toInt := znat (by first | omega | decide)
    refine zp_seg (pc' := 44) (lv' := [(0, .ref m), (1, .ref num), (2, .ref den), (3, .ref t), (4, .int dn), (5, .int dk), (6, .int (g 3)), (7, .int y7_41)]) (st' := [.ref t, .int y7_41]) [(41, .iload 7), (43, .aload_n 3)] (by decide +kernel) rfl ?_
    have hb15 : wL41 t = some (.inl (13, zTo t g1)) := ((heqL41 t ⟨⟨(zx_X16_quotient_1 hot), (zx_X16_quotient_2 hot)⟩, (zx_X16_quotient_0 hot)⟩).trans (heq35 t (zx_X16_quotient_0 hot))).trans hb9
    refine zr_get (idx := 219) (k := 5) (v := .int (g1 5)) (by decide +kernel) (by decide +kernel) hb15 rfl ?_
    refine zp_if (i := .if_icmp .ge 153) (c := (g1 5) ≤ y7_41) (t := 200) (e := 50) (lv' := [(0, .ref m), (1, .ref num), (2, .ref den), (3, .ref t), (4, .int dn), (5, .int dk), (6, .int (g 3)), (7, .int y7_41)]) (st' := []) (by decide +kernel) rfl (fun cc47 => ?_) (fun cc47 => ?_)
    ·
      have f16 := zleI cc47
      refine zp_seg (pc' := 201) (lv' := [(0, .ref m), (1, .ref num), (2, .ref den), (3, .ref t), (4, .int dn), (5, .int dk), (6, .int (g 3)), (7, .int y7_41)]) (st' := [.ref m]) [(200, .aload_n 0)] (by decide +kernel) rfl ?_
      have hb17 := hR_m.si ((hsi8.tr hsi35).tr hsiL41)
      refine zr_callV (idx := 140) (j := 274) (by decide +kernel) (by decide +kernel) (show zMe 274 = some zq_X16_newB from rfl) rfl rfl (Nat.le_of_ble_eq_true rfl) rfl rfl hpM (Nat.le_of_ble_eq_true rfl) (Nat.le_of_ble_eq_true rfl) (c_X16_newB (w := wL41) (g3 := (g 3)) m hpM hb17 (by first | omega | decide | assumption | exact zr1_1 | exact zr1_0 | fail "num") rfl) (by omega) (fun v201 w201 hp201 => ?_)
      obtain ⟨hsi201, heq201, hp201_0, hp201_1, rfl⟩ := hp201
      have hM201 : w201 m = some (.inl (15, zMo m (zs (zs (zs g 3 (g 3 + 1)) 36 pL) 37 pN) r)) := hp201_0
      show zP _ _ _ _ [.ref (m + 596 + 130 * (g 3).toNatClampNeg)] _ _ _ _ _
      refine zp_seg (pc' := 207) (lv' := [(7, .ref (m + 596 + 130 * (g 3).toNatClampNeg)), (0, .ref m), (1, .ref num), (2, .ref den), (3, .ref t), (4, .int dn), (5, .int dk), (6, .int (g 3))]) (st' := [.ref m]) [(204, .astore 7), (206, .aload_n 0)] (by decide +kernel) rfl ?_
      have k19 := zaddC (g 3) 1 (n := 1) (by decide) (by omega) (by omega)
      have hz20 : ((g 3 + 1).toNatClampNeg : Int) = (g 3 + 1).toInt := znat (by first | omega | decide)
      have hgn3_1 : (g 3 + 1).toNatClampNeg = (g 3).toNatClampNeg + 1 := by omega
      have hb21 := hb17.si hsi201
      refine zr_callV (idx := 140) (j := 274) (by decide +kernel) (by decide +kernel) (show zMe 274 = some zq_X16_newB from rfl) rfl rfl (Nat.le_of_ble_eq_true rfl) rfl rfl hM201 (Nat.le_of_ble_eq_true rfl) (Nat.le_of_ble_eq_true rfl) (c_X16_newB (w := w201) (g3 := (g 3 + 1)) m hM201 hb21 (by first | omega | decide | assumption | exact zr1_1 | exact zr1_0 | fail "num") rfl) (by omega) (fun v207 w207 hp207 => ?_)
      obtain ⟨hsi207, heq207, hp207_0, hp207_1, rfl⟩ := hp207
      have hM207 : w207 m = some (.inl (15, zMo m (zs (zs (zs g 3 (g 3 + 1 + 1)) 36 pL) 37 pN) r)) := hp207_0
      show zP _ _ _ _ [.ref (m + 596 + 130 * (g 3 + 1).toNatClampNeg)] _ _ _ _ _
      refine zp_seg (pc' := 212) (lv' := [(8, .ref (m + 596 + 130 * (g 3 + 1).toNatClampNeg)), (7, .ref (m + 596 + 130 * (g 3).toNatClampNeg)), (0, .ref m), (1, .ref num), (2, .ref den), (3, .ref t), (4, .int dn), (5, .int dk), (6, .int (g 3))]) (st' := []) [(210, .astore 8)] (by decide +kernel) rfl ?_
      have k22 := zaddC (g 3 + 1) 1 (n := 1) (by decide) (by omega) (by omega)
      have k23 := zaddC (g 3 + 1 + 1) 1 (n := 1) (by decide) (by omega) (by omega)
      have k24 := zaddC (g 3 + 1 + 1 + 1) 1 (n := 1) (by decide) (by omega) (by omega)
      have hz25 : ((g 3 + 1 + 1 + 1 + 1).toNatClampNeg : Int) = (g 3 + 1 + 1 + 1 + 1).toInt := znat (by first | omega | decide)
      have hgn3_4 : (g 3 + 1 + 1 + 1 + 1).toNatClampNeg = (g 3).toNatClampNeg + 4 := by omega
      refine zp_seg (pc' := 213) (lv' := [(8, .ref (m + 596 + 130 * (g 3 + 1).toNatClampNeg)), (7, .ref (m + 596 + 130 * (g 3).toNatClampNeg)), (0, .ref m), (1, .ref num), (2, .ref den), (3, .ref t), (4, .int dn), (5, .int dk), (6, .int (g 3))]) (st' := [.ref m]) [(212, .aload_n 0)] (by decide +kernel) rfl ?_
      have hz26 : ((g 3 + 1 + 1).toNatClampNeg : Int) = (g 3 + 1 + 1).toInt := znat (by first | omega | decide)
      have hgn3_2 : (g 3 + 1 + 1).toNatClampNeg = (g 3).toNatClampNeg + 2 := by omega
      have hb27 := hb21.si hsi207
      refine zr_callV (idx := 140) (j := 274) (by decide +kernel) (by decide +kernel) (show zMe 274 = some zq_X16_newB from rfl) rfl rfl (Nat.le_of_ble_eq_true rfl) rfl rfl hM207 (Nat.le_of_ble_eq_true rfl) (Nat.le_of_ble_eq_true rfl) (c_X16_newB (w := w207) (g3 := (g 3 + 1 + 1)) m hM207 hb27 (by first | omega | decide | assumption | exact zr1_1 | exact zr1_0 | fail "num") rfl) (by omega) (fun v213 w213 hp213 => ?_)
      obtain ⟨hsi213, heq213, hp213_0, hp213_1, rfl⟩ := hp213
      have hM213 : w213 m = some (.inl (15, zMo m (zs (zs (zs g 3 (g 3 + 1 + 1 + 1)) 36 pL) 37 pN) r)) := hp213_0
      show zP _ _ _ _ [.ref (m + 596 + 130 * (g 3 + 1 + 1).toNatClampNeg)] _ _ _ _ _
      refine zp_seg (pc' := 219) (lv' := [(9, .ref (m + 596 + 130 * (g 3 + 1 + 1).toNatClampNeg)), (8, .ref (m + 596 + 130 * (g 3 + 1).toNatClampNeg)), (7, .ref (m + 596 + 130 * (g 3).toNatClampNeg)), (0, .ref m), (1, .ref num), (2, .ref den), (3, .ref t), (4, .int dn), (5, .int dk), (6, .int (g 3))]) (st' := [.ref m]) [(216, .astore 9), (218, .aload_n 0)] (by decide +kernel) rfl ?_
      have hz28 : ((g 3 + 1 + 1 + 1).toNatClampNeg : Int) = (g 3 + 1 + 1 + 1).toInt := znat (by first | omega | decide)
      have hgn3_3 : (g 3 + 1 + 1 + 1).toNatClampNeg = (g 3).toNatClampNeg + 3 := by omega
      have hb29 := hb27.si hsi213
      refine zr_callV (idx := 140) (j := 274) (by decide +kernel) (by decide +kernel) (show zMe 274 = some zq_X16_newB from rfl) rfl rfl (Nat.le_of_ble_eq_true rfl) rfl rfl hM213 (Nat.le_of_ble_eq_true rfl) (Nat.le_of_ble_eq_true rfl) (c_X16_newB (w := w213) (g3 := (g 3 + 1 + 1 + 1)) m hM213 hb29 (by first | omega | decide | assumption | exact zr1_1 | exact zr1_0 | fail "num") rfl) (by omega) (fun v219 w219 hp219 => ?_)
      obtain ⟨hsi219, heq219, hp219_0, hp219_1, rfl⟩ := hp219
      have hM219 : w219 m = some (.inl (15, zMo m (zs (zs (zs g 3 (g 3 + 1 + 1 + 1 + 1)) 36 pL) 37 pN) r)) := hp219_0
      show zP _ _ _ _ [.ref (m + 596 + 130 * (g 3 + 1 + 1 + 1).toNatClampNeg)] _ _ _ _ _
      refine zp_seg (pc' := 227) (lv' := [(10, .ref (m + 596 + 130 * (g 3 + 1 + 1 + 1).toNatClampNeg)), (9, .ref (m + 596 + 130 * (g 3 + 1 + 1).toNatClampNeg)), (8, .ref (m + 596 + 130 * (g 3 + 1).toNatClampNeg)), (7, .ref (m + 596 + 130 * (g 3).toNatClampNeg)), (0, .ref m), (1, .ref num), (2, .ref den), (3, .ref t), (4, .int dn), (5, .int dk), (6, .int (g 3))]) (st' := [.ref t, .ref (m + 596 + 130 * (g 3).toNatClampNeg)]) [(222, .astore 10), (224, .aload 7), (226, .aload_n 3)] (by decide +kernel) rfl ?_
      have hb30 : w219 t = some (.inl (13, zTo t g1)) := ((heq219 t ⟨(zx_X16_quotient_1 hot), (zx_X16_quotient_6 hot hgn3_3 hgb3)⟩).trans ((heq213 t ⟨(zx_X16_quotient_1 hot), (zx_X16_quotient_5 hot hgn3_2 hgb3)⟩).trans ((heq207 t ⟨(zx_X16_quotient_1 hot), (zx_X16_quotient_4 hot hgn3_1 hgb3)⟩).trans (heq201 t ⟨(zx_X16_quotient_1 hot), (zx_X16_quotient_3 hot hgb3)⟩)))).trans hb15
      refine zr_get (idx := 207) (k := 1) (v := .ref (t + 1)) (by decide +kernel) (by decide +kernel) hb30 rfl ?_
      have hb31 : zB w219 (m + 596 + 130 * (g 3).toNatClampNeg) zbZ := hp201_1.ag (fun x hx1 hx2 => ((heq219 x ⟨(zx_X16_quotient_7 hx1 hx2 hgb3), (zx_X16_quotient_10 hx1 hx2 hgn3_3 hgb3)⟩).trans ((heq213 x ⟨(zx_X16_quotient_7 hx1 hx2 hgb3), (zx_X16_quotient_9 hx1 hx2 hgn3_2 hgb3)⟩).trans (heq207 x ⟨(zx_X16_quotient_7 hx1 hx2 hgb3), (zx_X16_quotient_8 hx1 hx2 hgn3_1 hgb3)⟩))))
      have ho230_b := zB.o hb31
      have hb32 : w219 (t + 1) = some (.inr (0, 325, .inl fn1)) := ((heq219 (t + 1) ⟨(zx_X16_quotient_12 hot), (zx_X16_quotient_17 hot hgn3_3 hgb3)⟩).trans ((heq213 (t + 1) ⟨(zx_X16_quotient_12 hot), (zx_X16_quotient_16 hot hgn3_2 hgb3)⟩).trans ((heq207 (t + 1) ⟨(zx_X16_quotient_12 hot), (zx_X16_quotient_15 hot hgn3_1 hgb3)⟩).trans ((heq201 (t + 1) ⟨(zx_X16_quotient_12 hot), (zx_X16_quotient_14 hot hgb3)⟩).trans ((heqL41 (t + 1) ⟨⟨(zx_X16_quotient_12 hot), (zx_X16_quotient_13 hot)⟩, (zx_X16_quotient_11 hot)⟩).trans ((heq35 (t + 1) (zx_X16_quotient_11 hot)).trans (heq8 (t + 1) (zx_X16_quotient_11 hot)))))))).trans hAn1
      refine zr_callS (idx := 295) (j := 299) (by decide +kernel) (by decide +kernel) (by decide) (show zMe 299 = some zq_X16_load from rfl) rfl rfl (Nat.le_of_ble_eq_true rfl) rfl rfl (Nat.le_of_ble_eq_true rfl) (Nat.le_of_ble_eq_true rfl) (c_X16_load (w := w219) (m + 596 + 130 * (g 3).toNatClampNeg) (t + 1) ho230_b hb32 (by exact hKn1) (by first | omega | decide | assumption | exact zr1_1 | exact zr1_0 | fail "num")) (by omega) (fun v230 w230 hp230 => ?_)
      obtain ⟨hsi230, heq230, hp230_0, rfl⟩ := hp230
      show zP _ _ _ _ [] _ _ _ _ _
      refine zp_seg (pc' := 236) (lv' := [(10, .ref (m + 596 + 130 * (g 3 + 1 + 1 + 1).toNatClampNeg)), (9, .ref (m + 596 + 130 * (g 3 + 1 + 1).toNatClampNeg)), (8, .ref (m + 596 + 130 * (g 3 + 1).toNatClampNeg)), (7, .ref (m + 596 + 130 * (g 3).toNatClampNeg)), (0, .ref m), (1, .ref num), (2, .ref den), (3, .ref t), (4, .int dn), (5, .int dk), (6, .int (g 3))]) (st' := [.ref t, .ref (m + 596 + 130 * (g 3 + 1).toNatClampNeg)]) [(233, .aload 8), (235, .aload_n 3)] (by decide +kernel) rfl ?_
      have hb33 : w230 t = some (.inl (13, zTo t g1)) := (heq230 t (zx_X16_quotient_3 hot hgb3)).trans hb30
      refine zr_get (idx := 210) (k := 2) (v := .ref (t + 2)) (by decide +kernel) (by decide +kernel) hb33 rfl ?_
      have hb34 : zB w230 (m + 596 + 130 * (g 3 + 1).toNatClampNeg) zbZ := hp207_1.ag (fun x hx1 hx2 => ((heq230 x (zx_X16_quotient_21 hx1 hx2 hgn3_1 hgb3)).trans ((heq219 x ⟨(zx_X16_quotient_18 hx1 hx2 hgn3_1 hgb3), (zx_X16_quotient_20 hx1 hx2 hgn3_1 hgn3_3 hgb3)⟩).trans (heq213 x ⟨(zx_X16_quotient_18 hx1 hx2 hgn3_1 hgb3), (zx_X16_quotient_19 hx1 hx2 hgn3_1 hgn3_2 hgb3)⟩))))
      have ho239_b := zB.o hb34
      have hb35 : w230 (t + 2) = some (.inr (0, 325, .inl fd1)) := ((heq230 (t + 2) (zx_X16_quotient_25 hot hgb3)).trans ((heq219 (t + 2) ⟨(zx_X16_quotient_23 hot), (zx_X16_quotient_28 hot hgn3_3 hgb3)⟩).trans ((heq213 (t + 2) ⟨(zx_X16_quotient_23 hot), (zx_X16_quotient_27 hot hgn3_2 hgb3)⟩).trans ((heq207 (t + 2) ⟨(zx_X16_quotient_23 hot), (zx_X16_quotient_26 hot hgn3_1 hgb3)⟩).trans ((heq201 (t + 2) ⟨(zx_X16_quotient_23 hot), (zx_X16_quotient_25 hot hgb3)⟩).trans ((heqL41 (t + 2) ⟨⟨(zx_X16_quotient_23 hot), (zx_X16_quotient_24 hot)⟩, (zx_X16_quotient_22 hot)⟩).trans ((heq35 (t + 2) (zx_X16_quotient_22 hot)).trans (heq8 (t + 2) (zx_X16_quotient_22 hot))))))))).trans hAd1
      refine zr_callS (idx := 295) (j := 299) (by decide +kernel) (by decide +kernel) (by decide) (show zMe 299 = some zq_X16_load from rfl) rfl rfl (Nat.le_of_ble_eq_true rfl) rfl rfl (Nat.le_of_ble_eq_true rfl) (Nat.le_of_ble_eq_true rfl) (c_X16_load (w := w230) (m + 596 + 130 * (g 3 + 1).toNatClampNeg) (t + 2) ho239_b hb35 (by first | omega | decide | assumption | exact zr1_1 | exact zr1_0 | fail "num") (by first | omega | decide | assumption | exact zr1_1 | exact zr1_0 | fail "num")) (by omega) (fun v239 w239 hp239 => ?_)
      obtain ⟨hsi239, heq239, hp239_0, rfl⟩ := hp239
      show zP _ _ _ _ [] _ _ _ _ _
      refine zp_seg (pc' := 248) (lv' := [(10, .ref (m + 596 + 130 * (g 3 + 1 + 1 + 1).toNatClampNeg)), (9, .ref (m + 596 + 130 * (g 3 + 1 + 1).toNatClampNeg)), (8, .ref (m + 596 + 130 * (g 3 + 1).toNatClampNeg)), (7, .ref (m + 596 + 130 * (g 3).toNatClampNeg)), (0, .ref m), (1, .ref num), (2, .ref den), (3, .ref t), (4, .int dn), (5, .int dk), (6, .int (g 3))]) (st' := [.int dn, .ref (m + 596 + 130 * (g 3).toNatClampNeg), .ref (m + 596 + 130 * (g 3 + 1 + 1).toNatClampNeg)]) [(242, .aload 9), (244, .aload 7), (246, .iload 4)] (by decide +kernel) rfl ?_
      have hb36 : zB w239 (m + 596 + 130 * (g 3 + 1 + 1).toNatClampNeg) zbZ := hp213_1.ag (fun x hx1 hx2 => ((heq239 x (zx_X16_quotient_32 hx1 hx2 hgn3_1 hgn3_2 hgb3)).trans ((heq230 x (zx_X16_quotient_31 hx1 hx2 hgn3_2 hgb3)).trans (heq219 x ⟨(zx_X16_quotient_29 hx1 hx2 hgn3_2 hgb3), (zx_X16_quotient_30 hx1 hx2 hgn3_2 hgn3_3 hgb3)⟩))))
      have ho248_to := zB.o hb36
      have hb37 : zB w239 (m + 596 + 130 * (g 3).toNatClampNeg) (zbT fn1) := hp230_0.ag (fun x hx1 hx2 => (heq239 x (zx_X16_quotient_8 hx1 hx2 hgn3_1 hgb3)))
      refine zr_callS (idx := 623) (j := 282) (by decide +kernel) (by decide +kernel) (by decide) (show zMe 282 = some zq_X16_shiftN from rfl) rfl rfl (Nat.le_of_ble_eq_true rfl) rfl rfl (Nat.le_of_ble_eq_true rfl) (Nat.le_of_ble_eq_true rfl) (c_X16_shiftND (w := w239) (m + 596 + 130 * (g 3 + 1 + 1).toNatClampNeg) (m + 596 + 130 * (g 3).toNatClampNeg) dn ho248_to hb37 (by first | omega | decide | assumption | exact zr1_1 | exact zr1_0 | fail "num") (by first | omega | decide | assumption | exact zr1_1 | exact zr1_0 | fail "num")) (by omega) (fun v248 w248 hp248 => ?_)
      obtain ⟨P9_248, hsi248, heq248, hp248_0, hp248_1, rfl⟩ := hp248
      show zP _ _ _ _ [] _ _ _ _ _
      refine zp_seg (pc' := 257) (lv' := [(10, .ref (m + 596 + 130 * (g 3 + 1 + 1 + 1).toNatClampNeg)), (9, .ref (m + 596 + 130 * (g 3 + 1 + 1).toNatClampNeg)), (8, .ref (m + 596 + 130 * (g 3 + 1).toNatClampNeg)), (7, .ref (m + 596 + 130 * (g 3).toNatClampNeg)), (0, .ref m), (1, .ref num), (2, .ref den), (3, .ref t), (4, .int dn), (5, .int dk), (6, .int (g 3))]) (st' := [.int dk, .ref (m + 596 + 130 * (g 3 + 1 + 1).toNatClampNeg), .ref (m + 596 + 130 * (g 3 + 1 + 1).toNatClampNeg)]) [(251, .aload 9), (253, .aload 9), (255, .iload 5)] (by decide +kernel) rfl ?_
      refine zr_callS (idx := 626) (j := 281) (by decide +kernel) (by decide +kernel) (by decide) (show zMe 281 = some zq_X16_shiftK from rfl) rfl rfl (Nat.le_of_ble_eq_true rfl) rfl rfl (Nat.le_of_ble_eq_true rfl) (Nat.le_of_ble_eq_true rfl) (c_X16_shiftKS (w := w248) (m + 596 + 130 * (g 3 + 1 + 1).toNatClampNeg)  dk hp248_0 (by first | omega | decide | assumption | exact zr1_1 | exact zr1_0 | fail "num")) (by omega) (fun v257 w257 hp257 => ?_)
      obtain ⟨hsi257, heq257, hp257_0, rfl⟩ := hp257
      show zP _ _ _ _ [] _ _ _ _ _
      refine zp_seg (pc' := 266) (lv' := [(10, .ref (m + 596 + 130 * (g 3 + 1 + 1 + 1).toNatClampNeg)), (9, .ref (m + 596 + 130 * (g 3 + 1 + 1).toNatClampNeg)), (8, .ref (m + 596 + 130 * (g 3 + 1).toNatClampNeg)), (7, .ref (m + 596 + 130 * (g 3).toNatClampNeg)), (0, .ref m), (1, .ref num), (2, .ref den), (3, .ref t), (4, .int dn), (5, .int dk), (6, .int (g 3))]) (st' := [.int dn, .ref (m + 596 + 130 * (g 3 + 1).toNatClampNeg), .ref (m + 596 + 130 * (g 3 + 1 + 1 + 1).toNatClampNeg)]) [(260, .aload 10), (262, .aload 8), (264, .iload 4)] (by decide +kernel) rfl ?_
      have hb38 : zB w257 (m + 596 + 130 * (g 3 + 1 + 1 + 1).toNatClampNeg) zbZ := hp219_1.ag (fun x hx1 hx2 => ((heq257 x (zx_X16_quotient_35 hx1 hx2 hgn3_2 hgn3_3 hgb3)).trans ((heq248 x (zx_X16_quotient_35 hx1 hx2 hgn3_2 hgn3_3 hgb3)).trans ((heq239 x (zx_X16_quotient_34 hx1 hx2 hgn3_1 hgn3_3 hgb3)).trans (heq230 x (zx_X16_quotient_33 hx1 hx2 hgn3_3 hgb3))))))
      have ho266_to := zB.o hb38
      have hb39 : zB w257 (m + 596 + 130 * (g 3 + 1).toNatClampNeg) (zbT fd1) := hp239_0.ag (fun x hx1 hx2 => ((heq257 x (zx_X16_quotient_19 hx1 hx2 hgn3_1 hgn3_2 hgb3)).trans (heq248 x (zx_X16_quotient_19 hx1 hx2 hgn3_1 hgn3_2 hgb3))))
      refine zr_callS (idx := 623) (j := 282) (by decide +kernel) (by decide +kernel) (by decide) (show zMe 282 = some zq_X16_shiftN from rfl) rfl rfl (Nat.le_of_ble_eq_true rfl) rfl rfl (Nat.le_of_ble_eq_true rfl) (Nat.le_of_ble_eq_true rfl) (c_X16_shiftND (w := w257) (m + 596 + 130 * (g 3 + 1 + 1 + 1).toNatClampNeg) (m + 596 + 130 * (g 3 + 1).toNatClampNeg) dn ho266_to hb39 (by first | omega | decide | assumption | exact zr1_1 | exact zr1_0 | fail "num") (by first | omega | decide | assumption | exact zr1_1 | exact zr1_0 | fail "num")) (by omega) (fun v266 w266 hp266 => ?_)
      obtain ⟨P9_266, hsi266, heq266, hp266_0, hp266_1, rfl⟩ := hp266
      show zP _ _ _ _ [] _ _ _ _ _
      refine zp_seg (pc' := 275) (lv' := [(10, .ref (m + 596 + 130 * (g 3 + 1 + 1 + 1).toNatClampNeg)), (9, .ref (m + 596 + 130 * (g 3 + 1 + 1).toNatClampNeg)), (8, .ref (m + 596 + 130 * (g 3 + 1).toNatClampNeg)), (7, .ref (m + 596 + 130 * (g 3).toNatClampNeg)), (0, .ref m), (1, .ref num), (2, .ref den), (3, .ref t), (4, .int dn), (5, .int dk), (6, .int (g 3))]) (st' := [.int dk, .ref (m + 596 + 130 * (g 3 + 1 + 1 + 1).toNatClampNeg), .ref (m + 596 + 130 * (g 3 + 1 + 1 + 1).toNatClampNeg)]) [(269, .aload 10), (271, .aload 10), (273, .iload 5)] (by decide +kernel) rfl ?_
      refine zr_callS (idx := 626) (j := 281) (by decide +kernel) (by decide +kernel) (by decide) (show zMe 281 = some zq_X16_shiftK from rfl) rfl rfl (Nat.le_of_ble_eq_true rfl) rfl rfl (Nat.le_of_ble_eq_true rfl) (Nat.le_of_ble_eq_true rfl) (c_X16_shiftKS (w := w266) (m + 596 + 130 * (g 3 + 1 + 1 + 1).toNatClampNeg)  dk hp266_0 (by first | omega | decide | assumption | exact zr1_1 | exact zr1_0 | fail "num")) (by omega) (fun v275 w275 hp275 => ?_)
      obtain ⟨hsi275, heq275, hp275_0, rfl⟩ := hp275
      show zP _ _ _ _ [] _ _ _ _ _
      have e1 := zsh_rw (zf dk) P9_248
      have e2 := zsh_rw (zf dk) P9_266
      have e3 := hp248_1
      have e4 := hp266_1
      refine zp_seg (pc' := 289) (lv' := [(10, .ref (m + 596 + 130 * (g 3 + 1 + 1 + 1).toNatClampNeg)), (9, .ref (m + 596 + 130 * (g 3 + 1 + 1).toNatClampNeg)), (8, .ref (m + 596 + 130 * (g 3 + 1).toNatClampNeg)), (7, .ref (m + 596 + 130 * (g 3).toNatClampNeg)), (0, .ref m), (1, .ref num), (2, .ref den), (3, .ref t), (4, .int dn), (5, .int dk), (6, .int (g 3))]) (st' := [.ref (m + 596 + 130 * (g 3).toNatClampNeg), .ref (m + 596 + 130 * (g 3 + 1).toNatClampNeg), .ref (m + 596 + 130 * (g 3 + 1 + 1 + 1).toNatClampNeg), .ref (m + 596 + 130 * (g 3 + 1 + 1).toNatClampNeg), .ref den, .ref num, .ref m]) [(278, .aload_n 0), (279, .aload_n 1), (280, .aload_n 2), (281, .aload 9), (283, .aload 10), (285, .aload 8), (287, .aload 7)] (by decide +kernel) rfl ?_
      have hb40 : w275 m = some (.inl (15, zMo m (zs (zs (zs g 3 (g 3 + 1 + 1 + 1 + 1)) 36 pL) 37 pN) r)) := ((heq275 m (zx_X16_quotient_39 hgn3_3 hgb3)).trans ((heq266 m (zx_X16_quotient_39 hgn3_3 hgb3)).trans ((heq257 m (zx_X16_quotient_38 hgn3_2 hgb3)).trans ((heq248 m (zx_X16_quotient_38 hgn3_2 hgb3)).trans ((heq239 m (zx_X16_quotient_37 hgn3_1 hgb3)).trans (heq230 m (zx_X16_quotient_36 hgb3))))))).trans hM219
      have hb41 := hb29.si ((((((hsi219.tr hsi230).tr hsi239).tr hsi248).tr hsi257).tr hsi266).tr hsi275)
      have hb42 := hBo_num.si ((((((((((((hsi8.tr hsi35).tr hsiL41).tr hsi201).tr hsi207).tr hsi213).tr hsi219).tr hsi230).tr hsi239).tr hsi248).tr hsi257).tr hsi266).tr hsi275)
      have hb43 := hBo_den.si ((((((((((((hsi8.tr hsi35).tr hsiL41).tr hsi201).tr hsi207).tr hsi213).tr hsi219).tr hsi230).tr hsi239).tr hsi248).tr hsi257).tr hsi266).tr hsi275)
      have hb44 : zB w275 (m + 596 + 130 * (g 3 + 1 + 1).toNatClampNeg) (zsh (zf dk) P9_248) := hp257_0.ag (fun x hx1 hx2 => ((heq275 x (zx_X16_quotient_30 hx1 hx2 hgn3_2 hgn3_3 hgb3)).trans (heq266 x (zx_X16_quotient_30 hx1 hx2 hgn3_2 hgn3_3 hgb3))))
      have hb45 : zB w275 (m + 596 + 130 * (g 3 + 1).toNatClampNeg) (zbT fd1) := hb39.ag (fun x hx1 hx2 => ((heq275 x (zx_X16_quotient_20 hx1 hx2 hgn3_1 hgn3_3 hgb3)).trans (heq266 x (zx_X16_quotient_20 hx1 hx2 hgn3_1 hgn3_3 hgb3))))
      have hb46 : zB w275 (m + 596 + 130 * (g 3).toNatClampNeg) (zbT fn1) := hb37.ag (fun x hx1 hx2 => ((heq275 x (zx_X16_quotient_10 hx1 hx2 hgn3_3 hgb3)).trans ((heq266 x (zx_X16_quotient_10 hx1 hx2 hgn3_3 hgb3)).trans ((heq257 x (zx_X16_quotient_9 hx1 hx2 hgn3_2 hgb3)).trans (heq248 x (zx_X16_quotient_9 hx1 hx2 hgn3_2 hgb3))))))
      refine zr_callV (idx := 299) (j := 295) (by decide +kernel) (by decide +kernel) (show zMe 295 = some zq_X16_multiply from rfl) rfl rfl (Nat.le_of_ble_eq_true rfl) rfl rfl hb40 (Nat.le_of_ble_eq_true rfl) (Nat.le_of_ble_eq_true rfl) (c_X16_multiply (w := w275) (g1 := (g 1)) (g3 := (g 3 + 1 + 1 + 1 + 1)) m num den (m + 596 + 130 * (g 3 + 1 + 1).toNatClampNeg) (m + 596 + 130 * (g 3 + 1 + 1 + 1).toNatClampNeg) (m + 596 + 130 * (g 3 + 1).toNatClampNeg) (m + 596 + 130 * (g 3).toNatClampNeg) hb40 hb41 hb42 hb43 hb44 hp275_0 hb45 hb46 (by first | omega | decide | assumption | exact zr1_1 | exact zr1_0 | fail "num") (by first | omega | decide | assumption | exact zr1_1 | exact zr1_0 | fail "num") (by first | omega | decide | assumption | exact zr1_1 | exact zr1_0 | fail "num") (by first | omega | decide | assumption | exact zr1_1 | exact zr1_0 | fail "num") (by first | omega | decide | assumption | exact zr1_1 | exact zr1_0 | fail "num") (by first | omega | decide | assumption | exact zr1_1 | exact zr1_0 | fail "num") (by first | omega | decide | assumption | exact zr1_1 | exact zr1_0 | fail "num") (by first | omega | decide | assumption | exact zr1_1 | exact zr1_0 | fail "num") (by first | omega | decide | assumption | exact zr1_1 | exact zr1_0 | fail "num") (by first | omega | decide | assumption | exact zr1_1 | exact zr1_0 | fail "num") (by first | omega | decide | assumption | exact zr1_1 | exact zr1_0 | fail "num") (by first | omega | decide | assumption | exact zr1_1 | exact zr1_0 | fail "num") (by first | omega | decide | assumption | exact zr1_1 | exact zr1_0 | fail "num") rfl rfl) (by omega) (fun v289 w289 hp289 => ?_)
      obtain ⟨P9_289, Q9_289, hsi289, heq289, hp289_0, hp289_1, hp289_2, rfl⟩ := hp289
      show zP _ _ _ _ [] _ _ _ _ _
      have hP := hp289_2.1.2.2 (by omega) (by omega)
      have hQ := hp289_2.2.2.2 (by omega) (by omega)
      have e5 := hp289_2.1.1
      have e6 := hp289_2.1.2.1
      have e7 := hp289_2.2.1
      have e8 := hp289_2.2.2.1
      refine zp_seg (pc' := 298) (lv' := [(12, .int 0), (11, .int 1), (10, .ref (m + 596 + 130 * (g 3 + 1 + 1 + 1).toNatClampNeg)), (9, .ref (m + 596 + 130 * (g 3 + 1 + 1).toNatClampNeg)), (8, .ref (m + 596 + 130 * (g 3 + 1).toNatClampNeg)), (7, .ref (m + 596 + 130 * (g 3).toNatClampNeg)), (0, .ref m), (1, .ref num), (2, .ref den), (3, .ref t), (4, .int dn), (5, .int dk), (6, .int (g 3))]) (st' := []) [(292, .iconst 1), (293, .istore 11), (295, .iconst 0), (296, .istore 12)] (by decide +kernel) rfl ?_
      have hb47 : w289 m = some (.inl (15, zMo m (zs (zs (zs g 3 (g 3 + 1 + 1 + 1 + 1)) 36 pL) 37 pN) r)) := (heq289 m ⟨(zx_X16_quotient_40 hmn hgb3), (zx_X16_quotient_41 hmd hgb3), (zx_X16_quotient_42 hgb1), (zx_X16_quotient_43 hgn3_4 hgb3), (zx_X16_quotient_44), (zx_X16_quotient_45)⟩).trans hb40
      have hL298 : ∀ (mm298 : Nat) (wL298 : zM) (y11_298 : Int32) (y12_298 : Int32) (P : zA2) (Q : zA2), (zSI w289 wL298) → (∀ x, ((x < num ∨ num + 130 ≤ x) ∧ (x < den ∨ den + 130 ≤ x) ∧ (x < m + 276 + 2 * (g 1).toNatClampNeg ∨ m + 276 + 2 * (g 1).toNatClampNeg + (320 - 2 * (g 1).toNatClampNeg) ≤ x) ∧ (x < m + 596 + 130 * (g 3 + 1 + 1 + 1 + 1).toNatClampNeg ∨ m + 596 + 130 * (g 3 + 1 + 1 + 1 + 1).toNatClampNeg + (5720 - 130 * (g 3 + 1 + 1 + 1 + 1).toNatClampNeg) ≤ x)) ∧ x ≠ m → wL298 x = w289 x) → ((y11_298 = 0 ∨ y11_298 = 1)) → (0 ≤ y12_298.toInt) → (y12_298.toInt ≤ pL.toInt) → (zB wL298 num P) → (zB wL298 den Q) → (wL298 m = some (.inl (15, zMo m (zs (zs (zs g 3 (g 3 + 1 + 1 + 1 + 1)) 36 pL) 37 pN) r))) → (0 < zrw P ∧ 0 < zrw Q ∧ zrw P ≤ 51 ∧ zdn P ≤ 111 ∧ zrw Q ≤ 51 ∧ zdn Q ≤ 111 ∧ (y11_298 = 1 → zrw P ≤ 50 ∧ zdn P ≤ 110 ∧ zrw Q ≤ 50 ∧ zdn Q ≤ 110)) → (200 - y12_298.toInt).toNat < mm298 → zP (d + 1) zq_X16_quotient 298 [(0, .ref m), (1, .ref num), (2, .ref den), (6, .int (g 3)), (11, .int y11_298), (12, .int y12_298)] [] wL298 sz 0 0 Post := by
        intro mm298
        induction mm298 with
        | zero => intros; omega
        | succ mm298 ih298 =>
        intro wL298 y11_298 y12_298 P Q hsiL298 heqL298 hi298_0 hi298_1 hi298_2 hBP hBQ hmL298 hS hmu298
        have ky11_298 := zrng y11_298
        have ky12_298 := zrng y12_298
        have hz48 : (y12_298.toNatClampNeg : Int) = y12_298.toInt := znat (by first | omega | decide)
        refine zp_seg (pc' := 301) (lv' := [(0, .ref m), (1, .ref num), (2, .ref den), (6, .int (g 3)), (11, .int y11_298), (12, .int y12_298)]) (st' := [.ref m, .int y12_298]) [(298, .iload 12), (300, .aload_n 0)] (by decide +kernel) rfl ?_
        refine zr_get (idx := 616) (k := 36) (v := .int pL) (by decide +kernel) (by decide +kernel) hmL298 rfl ?_
        refine zp_if (i := .if_icmp .ge 24) (c := pL ≤ y12_298) (t := 328) (e := 307) (lv' := [(0, .ref m), (1, .ref num), (2, .ref den), (6, .int (g 3)), (11, .int y11_298), (12, .int y12_298)]) (st' := []) (by decide +kernel) rfl (fun cc304 => ?_) (fun cc304 => ?_)
        ·
          have k49 := zrng pL
          have f50 := zleI cc304
          refine zp_seg (pc' := 330) (lv' := [(0, .ref m), (1, .ref num), (2, .ref den), (6, .int (g 3)), (11, .int y11_298), (12, .int y12_298)]) (st' := [.int y11_298]) [(328, .iload 11)] (by decide +kernel) rfl ?_
          refine zp_if (i := .ifCond .eq 38) (c := y11_298 = 0) (t := 368) (e := 333) (lv' := [(0, .ref m), (1, .ref num), (2, .ref den), (6, .int (g 3)), (11, .int y11_298), (12, .int y12_298)]) (st' := []) (by decide +kernel) rfl (fun cc330 => ?_) (fun cc330 => ?_)
          ·
            have f52 := zeqI cc330
            rw [show (0 : Int32).toInt = 0 from by decide] at f52
            refine zp_seg (pc' := 371) (lv' := [(0, .ref m), (1, .ref num), (2, .ref den), (6, .int (g 3)), (11, .int y11_298), (12, .int y12_298)]) (st' := [.int (g 3), .ref m]) [(368, .aload_n 0), (369, .iload 6)] (by decide +kernel) rfl ?_
            refine zr_put2 (idx := 90) (k := 3) (fs2 := zMo m (zs (zs g 36 pL) 37 pN) r) (by decide +kernel) (by decide +kernel) hmL298 (Nat.le_of_ble_eq_true rfl) rfl rfl rfl ?_
            show zP (d + 1) zq_X16_quotient 374 [(0, .ref m), (1, .ref num), (2, .ref den), (6, .int (g 3)), (11, .int y11_298), (12, .int y12_298)] [] (zup wL298 m (.inl (15, zMo m (zs (zs g 36 pL) 37 pN) r))) sz 0 0 Post
            obtain ⟨w371, ew371⟩ : ∃ wz9, wz9 = zup wL298 m (.inl (15, zMo m (zs (zs g 36 pL) 37 pN) r)) := ⟨_, rfl⟩
            have hsi371 : zSI wL298 w371 := by rw [ew371]; exact zSI.setG hmL298 _ _
            have heq371 : ∀ x, x ≠ m → w371 x = wL298 x := fun x hx => by rw [ew371]; exact zup_n hx
            have hc371 : w371 m = some (.inl (15, zMo m (zs (zs g 36 pL) 37 pN) r)) := by rw [ew371]; exact zup_s
            rw [← ew371]
            clear ew371
            refine zp_seg (pc' := 376) (lv' := [(0, .ref m), (1, .ref num), (2, .ref den), (6, .int (g 3)), (11, .int y11_298), (12, .int y12_298)]) (st' := [.int y11_298]) [(374, .iload 11)] (by decide +kernel) rfl ?_
            have hoffend : ∀ x, (x < m ∨ m + 1 ≤ x) ∧ (x < num ∨ num + 130 ≤ x) ∧ (x < den ∨ den + 130 ≤ x) ∧ (x < m + 96 ∨ m + 96 + 4 ≤ x) ∧ (x < m + 276 + 2 * (g 1).toNatClampNeg ∨ m + 276 + 2 * (g 1).toNatClampNeg + (320 - 2 * (g 1).toNatClampNeg) ≤ x) ∧ (x < m + 596 + 130 * (g 3).toNatClampNeg ∨ m + 596 + 130 * (g 3).toNatClampNeg + (5720 - 130 * (g 3).toNatClampNeg) ≤ x) ∧ (x < m + 3 ∨ m + 3 + 1 ≤ x) ∧ (x < m + 5 ∨ m + 5 + 64 ≤ x) → w371 x = w x := fun x hx => ((heq371 x (zx_X16_quotient_46 hx.1)).trans ((heqL298 x ⟨⟨hx.2.1, hx.2.2.1, hx.2.2.2.2.1, (zx_X16_quotient_51 hx.2.2.2.2.2.1 hgn3_4 hgb3)⟩, (zx_X16_quotient_46 hx.1)⟩).trans ((heq289 x ⟨hx.2.1, hx.2.2.1, hx.2.2.2.2.1, (zx_X16_quotient_51 hx.2.2.2.2.2.1 hgn3_4 hgb3), hx.2.2.2.2.2.2.1, hx.2.2.2.2.2.2.2⟩).trans ((heq275 x (zx_X16_quotient_50 hx.2.2.2.2.2.1 hgn3_3 hgb3)).trans ((heq266 x (zx_X16_quotient_50 hx.2.2.2.2.2.1 hgn3_3 hgb3)).trans ((heq257 x (zx_X16_quotient_49 hx.2.2.2.2.2.1 hgn3_2 hgb3)).trans ((heq248 x (zx_X16_quotient_49 hx.2.2.2.2.2.1 hgn3_2 hgb3)).trans ((heq239 x (zx_X16_quotient_48 hx.2.2.2.2.2.1 hgn3_1 hgb3)).trans ((heq230 x (zx_X16_quotient_47 hx.2.2.2.2.2.1 hgb3)).trans ((heq219 x ⟨hx.1, (zx_X16_quotient_50 hx.2.2.2.2.2.1 hgn3_3 hgb3)⟩).trans ((heq213 x ⟨hx.1, (zx_X16_quotient_49 hx.2.2.2.2.2.1 hgn3_2 hgb3)⟩).trans ((heq207 x ⟨hx.1, (zx_X16_quotient_48 hx.2.2.2.2.2.1 hgn3_1 hgb3)⟩).trans ((heq201 x ⟨hx.1, (zx_X16_quotient_47 hx.2.2.2.2.2.1 hgb3)⟩).trans ((heqL41 x ⟨⟨hx.1, hx.2.2.2.1⟩, (zx_X16_quotient_46 hx.1)⟩).trans ((heq35 x (zx_X16_quotient_46 hx.1)).trans (heq8 x (zx_X16_quotient_46 hx.1)))))))))))))))))
            have hb53 : zB w371 num P := hBP.ag (fun x hx1 hx2 => (heq371 x (zx_X16_quotient_52 hx1 hx2 hmn hgb3)))
            have hb54 : zB w371 den Q := hBQ.ag (fun x hx1 hx2 => (heq371 x (zx_X16_quotient_53 hx1 hx2 hmd hgb3)))
            refine zr_retB (by decide +kernel) rfl hi298_0 ?_
            rw [← hPost]; exact ⟨rfl, _, rfl, pL, pN, P, Q, (((((((((((((((hsi8.tr hsi35).tr hsiL41).tr hsi201).tr hsi207).tr hsi213).tr hsi219).tr hsi230).tr hsi239).tr hsi248).tr hsi257).tr hsi266).tr hsi275).tr hsi289).tr hsiL298).tr hsi371), hoffend, hc371, (by first | exact hb53 | (have z9 := hb53; simpa using z9)), (by first | exact hb54 | (have z9 := hb54; simpa using z9)), (by
                  first
                  | exact ⟨hS.1, hS.2.1, hS.2.2.1, hS.2.2.2.1, hS.2.2.2.2.1, hS.2.2.2.2.2.1⟩
                  | exact ⟨w3, w6, by omega, by omega, by omega, by omega⟩), _, rfl, hi298_0, (by
                  first
                  | exact fun e => absurd e (by decide)
                  | exact fun e => absurd (cc330.symm.trans e) (by decide)
                  | exact fun _ => ⟨(hr348.1 (hrb348.resolve_left cc351)).1, (hr348.1 (hrb348.resolve_left cc351)).2, (hr355.1 (hrb355.resolve_left cc358)).1, (hr355.1 (hrb355.resolve_left cc358)).2⟩)⟩
          ·
            have f56 := zneI cc330
            rw [show (0 : Int32).toInt = 0 from by decide] at f56
            obtain ⟨hs1, hs2, hs3, hs4, hs5, hs6, -⟩ := id hS
            refine zp_seg (pc' := 336) (lv' := [(0, .ref m), (1, .ref num), (2, .ref den), (6, .int (g 3)), (11, .int y11_298), (12, .int y12_298)]) (st' := [.ref m, .ref num, .ref num]) [(333, .aload_n 1), (334, .aload_n 1), (335, .aload_n 0)] (by decide +kernel) rfl ?_
            refine zr_get (idx := 613) (k := 37) (v := .int pN) (by decide +kernel) (by decide +kernel) hmL298 rfl ?_
            have ho339_to := zB.o hBP
            have k57 := zrng pN
            refine zr_callS (idx := 182) (j := 277) (by decide +kernel) (by decide +kernel) (by decide) (show zMe 277 = some zq_X16_scale_ from rfl) rfl rfl (Nat.le_of_ble_eq_true rfl) rfl rfl (Nat.le_of_ble_eq_true rfl) (Nat.le_of_ble_eq_true rfl) (c_X16_scale_ (w := wL298) num num pN ho339_to hBP (by first | omega | decide | assumption | exact zr1_1 | exact zr1_0 | fail "num") (by exact hpq.1.1)) (by omega) (fun v339 w339 hp339 => ?_)
            obtain ⟨hsi339, heq339, hp339_0, rfl⟩ := hp339
            show zP _ _ _ _ [] _ _ _ _ _
            have u1 := zLe_c (zf_nz hpq.1.1 hpq.1.2) P
            have u2 := u1.1
            have u3 := u1.2.1
            have u4 := u1.2.2 hs1
            refine zp_seg (pc' := 344) (lv' := [(0, .ref m), (1, .ref num), (2, .ref den), (6, .int (g 3)), (11, .int y11_298), (12, .int y12_298)]) (st' := [.ref den, .ref num]) [(342, .aload_n 1), (343, .aload_n 2)] (by decide +kernel) rfl ?_
            have hb58 : zB w339 den Q := hBQ.ag (fun x hx1 hx2 => (heq339 x (zx_X16_quotient_54 hx1 hx2 hnd hmn hmd hgb3)))
            refine zr_callS (idx := 191) (j := 293) (by decide +kernel) (by decide +kernel) (by decide) (show zMe 293 = some zq_X16_settle from rfl) rfl rfl (Nat.le_of_ble_eq_true rfl) rfl rfl (Nat.le_of_ble_eq_true rfl) (Nat.le_of_ble_eq_true rfl) (c_X16_settle (w := w339) num den hp339_0 hb58 (by first | omega | decide | assumption | exact zr1_1 | exact zr1_0 | fail "num") (by first | omega | decide | assumption | exact zr1_1 | exact zr1_0 | fail "num")) (by omega) (fun v344 w344 hp344 => ?_)
            obtain ⟨P9_344, Q9_344, hsi344, heq344, hp344_0, hp344_1, hp344_2, rfl⟩ := hp344
            show zP _ _ _ _ [] _ _ _ _ _
            have w1 := hp344_2.1.1
            have w2 := hp344_2.1.2.1
            have w3 := hp344_2.1.2.2 u4
            have w4 := hp344_2.2.1
            have w5 := hp344_2.2.2.1
            have w6 := hp344_2.2.2.2 hs2
            refine zp_seg (pc' := 348) (lv' := [(0, .ref m), (1, .ref num), (2, .ref den), (6, .int (g 3)), (11, .int y11_298), (12, .int y12_298)]) (st' := [.ref num]) [(347, .aload_n 1)] (by decide +kernel) rfl ?_
            refine zr_callS (idx := 249) (j := 292) (by decide +kernel) (by decide +kernel) (by decide) (show zMe 292 = some zq_X16_fits from rfl) rfl rfl (Nat.le_of_ble_eq_true rfl) rfl rfl (Nat.le_of_ble_eq_true rfl) (Nat.le_of_ble_eq_true rfl) (c_X16_fits (w := w344) num hp344_0) (by omega) (fun v348 w348 hp348 => ?_)
            obtain ⟨hpw348, r348, rfl, hrb348, hr348⟩ := hp348
            replace hpw348 := hpw348.symm
            subst hpw348
            have kr348 := zrng r348
            show zP _ _ _ _ [.int r348] _ _ _ _ _
            refine zp_if (i := .ifCond .eq 14) (c := r348 = 0) (t := 365) (e := 354) (lv' := [(0, .ref m), (1, .ref num), (2, .ref den), (6, .int (g 3)), (11, .int y11_298), (12, .int y12_298)]) (st' := []) (by decide +kernel) rfl (fun cc351 => ?_) (fun cc351 => ?_)
            ·
              have f59 := zeqI cc351
              rw [show (0 : Int32).toInt = 0 from by decide] at f59
              refine zp_seg (pc' := 371) (lv' := [(11, .int 0), (0, .ref m), (1, .ref num), (2, .ref den), (6, .int (g 3)), (12, .int y12_298)]) (st' := [.int (g 3), .ref m]) [(365, .iconst 0), (366, .istore 11), (368, .aload_n 0), (369, .iload 6)] (by decide +kernel) rfl ?_
              have hb60 : w344 m = some (.inl (15, zMo m (zs (zs (zs g 3 (g 3 + 1 + 1 + 1 + 1)) 36 pL) 37 pN) r)) := ((heq344 m ⟨(zx_X16_quotient_40 hmn hgb3), (zx_X16_quotient_41 hmd hgb3)⟩).trans (heq339 m (zx_X16_quotient_40 hmn hgb3))).trans hmL298
              refine zr_put2 (idx := 90) (k := 3) (fs2 := zMo m (zs (zs g 36 pL) 37 pN) r) (by decide +kernel) (by decide +kernel) hb60 (Nat.le_of_ble_eq_true rfl) rfl rfl rfl ?_
              show zP (d + 1) zq_X16_quotient 374 [(11, .int 0), (0, .ref m), (1, .ref num), (2, .ref den), (6, .int (g 3)), (12, .int y12_298)] [] (zup w344 m (.inl (15, zMo m (zs (zs g 36 pL) 37 pN) r))) sz 0 0 Post
              obtain ⟨w371, ew371⟩ : ∃ wz9, wz9 = zup w344 m (.inl (15, zMo m (zs (zs g 36 pL) 37 pN) r)) := ⟨_, rfl⟩
              have hsi371 : zSI w344 w371 := by rw [ew371]; exact zSI.setG hb60 _ _
              have heq371 : ∀ x, x ≠ m → w371 x = w344 x := fun x hx => by rw [ew371]; exact zup_n hx
              have hc371 : w371 m = some (.inl (15, zMo m (zs (zs g 36 pL) 37 pN) r)) := by rw [ew371]; exact zup_s
              rw [← ew371]
              clear ew371
              refine zp_seg (pc' := 376) (lv' := [(11, .int 0), (0, .ref m), (1, .ref num), (2, .ref den), (6, .int (g 3)), (12, .int y12_298)]) (st' := [.int 0]) [(374, .iload 11)] (by decide +kernel) rfl ?_
              have hoffend : ∀ x, (x < m ∨ m + 1 ≤ x) ∧ (x < num ∨ num + 130 ≤ x) ∧ (x < den ∨ den + 130 ≤ x) ∧ (x < m + 96 ∨ m + 96 + 4 ≤ x) ∧ (x < m + 276 + 2 * (g 1).toNatClampNeg ∨ m + 276 + 2 * (g 1).toNatClampNeg + (320 - 2 * (g 1).toNatClampNeg) ≤ x) ∧ (x < m + 596 + 130 * (g 3).toNatClampNeg ∨ m + 596 + 130 * (g 3).toNatClampNeg + (5720 - 130 * (g 3).toNatClampNeg) ≤ x) ∧ (x < m + 3 ∨ m + 3 + 1 ≤ x) ∧ (x < m + 5 ∨ m + 5 + 64 ≤ x) → w371 x = w x := fun x hx => ((heq371 x (zx_X16_quotient_46 hx.1)).trans ((heq344 x ⟨hx.2.1, hx.2.2.1⟩).trans ((heq339 x hx.2.1).trans ((heqL298 x ⟨⟨hx.2.1, hx.2.2.1, hx.2.2.2.2.1, (zx_X16_quotient_51 hx.2.2.2.2.2.1 hgn3_4 hgb3)⟩, (zx_X16_quotient_46 hx.1)⟩).trans ((heq289 x ⟨hx.2.1, hx.2.2.1, hx.2.2.2.2.1, (zx_X16_quotient_51 hx.2.2.2.2.2.1 hgn3_4 hgb3), hx.2.2.2.2.2.2.1, hx.2.2.2.2.2.2.2⟩).trans ((heq275 x (zx_X16_quotient_50 hx.2.2.2.2.2.1 hgn3_3 hgb3)).trans ((heq266 x (zx_X16_quotient_50 hx.2.2.2.2.2.1 hgn3_3 hgb3)).trans ((heq257 x (zx_X16_quotient_49 hx.2.2.2.2.2.1 hgn3_2 hgb3)).trans ((heq248 x (zx_X16_quotient_49 hx.2.2.2.2.2.1 hgn3_2 hgb3)).trans ((heq239 x (zx_X16_quotient_48 hx.2.2.2.2.2.1 hgn3_1 hgb3)).trans ((heq230 x (zx_X16_quotient_47 hx.2.2.2.2.2.1 hgb3)).trans ((heq219 x ⟨hx.1, (zx_X16_quotient_50 hx.2.2.2.2.2.1 hgn3_3 hgb3)⟩).trans ((heq213 x ⟨hx.1, (zx_X16_quotient_49 hx.2.2.2.2.2.1 hgn3_2 hgb3)⟩).trans ((heq207 x ⟨hx.1, (zx_X16_quotient_48 hx.2.2.2.2.2.1 hgn3_1 hgb3)⟩).trans ((heq201 x ⟨hx.1, (zx_X16_quotient_47 hx.2.2.2.2.2.1 hgb3)⟩).trans ((heqL41 x ⟨⟨hx.1, hx.2.2.2.1⟩, (zx_X16_quotient_46 hx.1)⟩).trans ((heq35 x (zx_X16_quotient_46 hx.1)).trans (heq8 x (zx_X16_quotient_46 hx.1)))))))))))))))))))
              have hb61 : zB w371 num P9_344 := hp344_0.ag (fun x hx1 hx2 => (heq371 x (zx_X16_quotient_52 hx1 hx2 hmn hgb3)))
              have hb62 : zB w371 den Q9_344 := hp344_1.ag (fun x hx1 hx2 => (heq371 x (zx_X16_quotient_53 hx1 hx2 hmd hgb3)))
              refine zr_retB (by decide +kernel) rfl (by decide) ?_
              rw [← hPost]; exact ⟨rfl, _, rfl, pL, pN, P9_344, Q9_344, (((((((((((((((((hsi8.tr hsi35).tr hsiL41).tr hsi201).tr hsi207).tr hsi213).tr hsi219).tr hsi230).tr hsi239).tr hsi248).tr hsi257).tr hsi266).tr hsi275).tr hsi289).tr hsiL298).tr hsi339).tr hsi344).tr hsi371), hoffend, hc371, (by first | exact hb61 | (have z9 := hb61; simpa using z9)), (by first | exact hb62 | (have z9 := hb62; simpa using z9)), (by
                    first
                    | exact ⟨hS.1, hS.2.1, hS.2.2.1, hS.2.2.2.1, hS.2.2.2.2.1, hS.2.2.2.2.2.1⟩
                    | exact ⟨w3, w6, by omega, by omega, by omega, by omega⟩), _, rfl, (by decide), (by
                    first
                    | exact fun e => absurd e (by decide)
                    | exact fun e => absurd (cc330.symm.trans e) (by decide)
                    | exact fun _ => ⟨(hr348.1 (hrb348.resolve_left cc351)).1, (hr348.1 (hrb348.resolve_left cc351)).2, (hr355.1 (hrb355.resolve_left cc358)).1, (hr355.1 (hrb355.resolve_left cc358)).2⟩)⟩
            ·
              have f63 := zneI cc351
              rw [show (0 : Int32).toInt = 0 from by decide] at f63
              refine zp_seg (pc' := 355) (lv' := [(0, .ref m), (1, .ref num), (2, .ref den), (6, .int (g 3)), (11, .int y11_298), (12, .int y12_298)]) (st' := [.ref den]) [(354, .aload_n 2)] (by decide +kernel) rfl ?_
              refine zr_callS (idx := 249) (j := 292) (by decide +kernel) (by decide +kernel) (by decide) (show zMe 292 = some zq_X16_fits from rfl) rfl rfl (Nat.le_of_ble_eq_true rfl) rfl rfl (Nat.le_of_ble_eq_true rfl) (Nat.le_of_ble_eq_true rfl) (c_X16_fits (w := w344) den hp344_1) (by omega) (fun v355 w355 hp355 => ?_)
              obtain ⟨hpw355, r355, rfl, hrb355, hr355⟩ := hp355
              replace hpw355 := hpw355.symm
              subst hpw355
              have kr355 := zrng r355
              show zP _ _ _ _ [.int r355] _ _ _ _ _
              refine zp_if (i := .ifCond .eq 7) (c := r355 = 0) (t := 365) (e := 361) (lv' := [(0, .ref m), (1, .ref num), (2, .ref den), (6, .int (g 3)), (11, .int y11_298), (12, .int y12_298)]) (st' := []) (by decide +kernel) rfl (fun cc358 => ?_) (fun cc358 => ?_)
              ·
                have f64 := zeqI cc358
                rw [show (0 : Int32).toInt = 0 from by decide] at f64
                refine zp_seg (pc' := 371) (lv' := [(11, .int 0), (0, .ref m), (1, .ref num), (2, .ref den), (6, .int (g 3)), (12, .int y12_298)]) (st' := [.int (g 3), .ref m]) [(365, .iconst 0), (366, .istore 11), (368, .aload_n 0), (369, .iload 6)] (by decide +kernel) rfl ?_
                have hb65 : w344 m = some (.inl (15, zMo m (zs (zs (zs g 3 (g 3 + 1 + 1 + 1 + 1)) 36 pL) 37 pN) r)) := ((heq344 m ⟨(zx_X16_quotient_40 hmn hgb3), (zx_X16_quotient_41 hmd hgb3)⟩).trans (heq339 m (zx_X16_quotient_40 hmn hgb3))).trans hmL298
                refine zr_put2 (idx := 90) (k := 3) (fs2 := zMo m (zs (zs g 36 pL) 37 pN) r) (by decide +kernel) (by decide +kernel) hb65 (Nat.le_of_ble_eq_true rfl) rfl rfl rfl ?_
                show zP (d + 1) zq_X16_quotient 374 [(11, .int 0), (0, .ref m), (1, .ref num), (2, .ref den), (6, .int (g 3)), (12, .int y12_298)] [] (zup w344 m (.inl (15, zMo m (zs (zs g 36 pL) 37 pN) r))) sz 0 0 Post
                obtain ⟨w371, ew371⟩ : ∃ wz9, wz9 = zup w344 m (.inl (15, zMo m (zs (zs g 36 pL) 37 pN) r)) := ⟨_, rfl⟩
                have hsi371 : zSI w344 w371 := by rw [ew371]; exact zSI.setG hb65 _ _
                have heq371 : ∀ x, x ≠ m → w371 x = w344 x := fun x hx => by rw [ew371]; exact zup_n hx
                have hc371 : w371 m = some (.inl (15, zMo m (zs (zs g 36 pL) 37 pN) r)) := by rw [ew371]; exact zup_s
                rw [← ew371]
                clear ew371
                refine zp_seg (pc' := 376) (lv' := [(11, .int 0), (0, .ref m), (1, .ref num), (2, .ref den), (6, .int (g 3)), (12, .int y12_298)]) (st' := [.int 0]) [(374, .iload 11)] (by decide +kernel) rfl ?_
                have hoffend : ∀ x, (x < m ∨ m + 1 ≤ x) ∧ (x < num ∨ num + 130 ≤ x) ∧ (x < den ∨ den + 130 ≤ x) ∧ (x < m + 96 ∨ m + 96 + 4 ≤ x) ∧ (x < m + 276 + 2 * (g 1).toNatClampNeg ∨ m + 276 + 2 * (g 1).toNatClampNeg + (320 - 2 * (g 1).toNatClampNeg) ≤ x) ∧ (x < m + 596 + 130 * (g 3).toNatClampNeg ∨ m + 596 + 130 * (g 3).toNatClampNeg + (5720 - 130 * (g 3).toNatClampNeg) ≤ x) ∧ (x < m + 3 ∨ m + 3 + 1 ≤ x) ∧ (x < m + 5 ∨ m + 5 + 64 ≤ x) → w371 x = w x := fun x hx => ((heq371 x (zx_X16_quotient_46 hx.1)).trans ((heq344 x ⟨hx.2.1, hx.2.2.1⟩).trans ((heq339 x hx.2.1).trans ((heqL298 x ⟨⟨hx.2.1, hx.2.2.1, hx.2.2.2.2.1, (zx_X16_quotient_51 hx.2.2.2.2.2.1 hgn3_4 hgb3)⟩, (zx_X16_quotient_46 hx.1)⟩).trans ((heq289 x ⟨hx.2.1, hx.2.2.1, hx.2.2.2.2.1, (zx_X16_quotient_51 hx.2.2.2.2.2.1 hgn3_4 hgb3), hx.2.2.2.2.2.2.1, hx.2.2.2.2.2.2.2⟩).trans ((heq275 x (zx_X16_quotient_50 hx.2.2.2.2.2.1 hgn3_3 hgb3)).trans ((heq266 x (zx_X16_quotient_50 hx.2.2.2.2.2.1 hgn3_3 hgb3)).trans ((heq257 x (zx_X16_quotient_49 hx.2.2.2.2.2.1 hgn3_2 hgb3)).trans ((heq248 x (zx_X16_quotient_49 hx.2.2.2.2.2.1 hgn3_2 hgb3)).trans ((heq239 x (zx_X16_quotient_48 hx.2.2.2.2.2.1 hgn3_1 hgb3)).trans ((heq230 x (zx_X16_quotient_47 hx.2.2.2.2.2.1 hgb3)).trans ((heq219 x ⟨hx.1, (zx_X16_quotient_50 hx.2.2.2.2.2.1 hgn3_3 hgb3)⟩).trans ((heq213 x ⟨hx.1, (zx_X16_quotient_49 hx.2.2.2.2.2.1 hgn3_2 hgb3)⟩).trans ((heq207 x ⟨hx.1, (zx_X16_quotient_48 hx.2.2.2.2.2.1 hgn3_1 hgb3)⟩).trans ((heq201 x ⟨hx.1, (zx_X16_quotient_47 hx.2.2.2.2.2.1 hgb3)⟩).trans ((heqL41 x ⟨⟨hx.1, hx.2.2.2.1⟩, (zx_X16_quotient_46 hx.1)⟩).trans ((heq35 x (zx_X16_quotient_46 hx.1)).trans (heq8 x (zx_X16_quotient_46 hx.1)))))))))))))))))))
                have hb66 : zB w371 num P9_344 := hp344_0.ag (fun x hx1 hx2 => (heq371 x (zx_X16_quotient_52 hx1 hx2 hmn hgb3)))
                have hb67 : zB w371 den Q9_344 := hp344_1.ag (fun x hx1 hx2 => (heq371 x (zx_X16_quotient_53 hx1 hx2 hmd hgb3)))
                refine zr_retB (by decide +kernel) rfl (by decide) ?_
                rw [← hPost]; exact ⟨rfl, _, rfl, pL, pN, P9_344, Q9_344, (((((((((((((((((hsi8.tr hsi35).tr hsiL41).tr hsi201).tr hsi207).tr hsi213).tr hsi219).tr hsi230).tr hsi239).tr hsi248).tr hsi257).tr hsi266).tr hsi275).tr hsi289).tr hsiL298).tr hsi339).tr hsi344).tr hsi371), hoffend, hc371, (by first | exact hb66 | (have z9 := hb66; simpa using z9)), (by first | exact hb67 | (have z9 := hb67; simpa using z9)), (by
                      first
                      | exact ⟨hS.1, hS.2.1, hS.2.2.1, hS.2.2.2.1, hS.2.2.2.2.1, hS.2.2.2.2.2.1⟩
                      | exact ⟨w3, w6, by omega, by omega, by omega, by omega⟩), _, rfl, (by decide), (by
                      first
                      | exact fun e => absurd e (by decide)
                      | exact fun e => absurd (cc330.symm.trans e) (by decide)
                      | exact fun _ => ⟨(hr348.1 (hrb348.resolve_left cc351)).1, (hr348.1 (hrb348.resolve_left cc351)).2, (hr355.1 (hrb355.resolve_left cc358)).1, (hr355.1 (hrb355.resolve_left cc358)).2⟩)⟩
              ·
                have f68 := zneI cc358
                rw [show (0 : Int32).toInt = 0 from by decide] at f68
                refine zp_seg (pc' := 371) (lv' := [(11, .int 1), (0, .ref m), (1, .ref num), (2, .ref den), (6, .int (g 3)), (12, .int y12_298)]) (st' := [.int (g 3), .ref m]) [(361, .iconst 1), (362, .goto 4), (366, .istore 11), (368, .aload_n 0), (369, .iload 6)] (by decide +kernel) rfl ?_
                have hb69 : w344 m = some (.inl (15, zMo m (zs (zs (zs g 3 (g 3 + 1 + 1 + 1 + 1)) 36 pL) 37 pN) r)) := ((heq344 m ⟨(zx_X16_quotient_40 hmn hgb3), (zx_X16_quotient_41 hmd hgb3)⟩).trans (heq339 m (zx_X16_quotient_40 hmn hgb3))).trans hmL298
                refine zr_put2 (idx := 90) (k := 3) (fs2 := zMo m (zs (zs g 36 pL) 37 pN) r) (by decide +kernel) (by decide +kernel) hb69 (Nat.le_of_ble_eq_true rfl) rfl rfl rfl ?_
                show zP (d + 1) zq_X16_quotient 374 [(11, .int 1), (0, .ref m), (1, .ref num), (2, .ref den), (6, .int (g 3)), (12, .int y12_298)] [] (zup w344 m (.inl (15, zMo m (zs (zs g 36 pL) 37 pN) r))) sz 0 0 Post
                obtain ⟨w371, ew371⟩ : ∃ wz9, wz9 = zup w344 m (.inl (15, zMo m (zs (zs g 36 pL) 37 pN) r)) := ⟨_, rfl⟩
                have hsi371 : zSI w344 w371 := by rw [ew371]; exact zSI.setG hb69 _ _
                have heq371 : ∀ x, x ≠ m → w371 x = w344 x := fun x hx => by rw [ew371]; exact zup_n hx
                have hc371 : w371 m = some (.inl (15, zMo m (zs (zs g 36 pL) 37 pN) r)) := by rw [ew371]; exact zup_s
                rw [← ew371]
                clear ew371
                refine zp_seg (pc' := 376) (lv' := [(11, .int 1), (0, .ref m), (1, .ref num), (2, .ref den), (6, .int (g 3)), (12, .int y12_298)]) (st' := [.int 1]) [(374, .iload 11)] (by decide +kernel) rfl ?_
                have hoffend : ∀ x, (x < m ∨ m + 1 ≤ x) ∧ (x < num ∨ num + 130 ≤ x) ∧ (x < den ∨ den + 130 ≤ x) ∧ (x < m + 96 ∨ m + 96 + 4 ≤ x) ∧ (x < m + 276 + 2 * (g 1).toNatClampNeg ∨ m + 276 + 2 * (g 1).toNatClampNeg + (320 - 2 * (g 1).toNatClampNeg) ≤ x) ∧ (x < m + 596 + 130 * (g 3).toNatClampNeg ∨ m + 596 + 130 * (g 3).toNatClampNeg + (5720 - 130 * (g 3).toNatClampNeg) ≤ x) ∧ (x < m + 3 ∨ m + 3 + 1 ≤ x) ∧ (x < m + 5 ∨ m + 5 + 64 ≤ x) → w371 x = w x := fun x hx => ((heq371 x (zx_X16_quotient_46 hx.1)).trans ((heq344 x ⟨hx.2.1, hx.2.2.1⟩).trans ((heq339 x hx.2.1).trans ((heqL298 x ⟨⟨hx.2.1, hx.2.2.1, hx.2.2.2.2.1, (zx_X16_quotient_51 hx.2.2.2.2.2.1 hgn3_4 hgb3)⟩, (zx_X16_quotient_46 hx.1)⟩).trans ((heq289 x ⟨hx.2.1, hx.2.2.1, hx.2.2.2.2.1, (zx_X16_quotient_51 hx.2.2.2.2.2.1 hgn3_4 hgb3), hx.2.2.2.2.2.2.1, hx.2.2.2.2.2.2.2⟩).trans ((heq275 x (zx_X16_quotient_50 hx.2.2.2.2.2.1 hgn3_3 hgb3)).trans ((heq266 x (zx_X16_quotient_50 hx.2.2.2.2.2.1 hgn3_3 hgb3)).trans ((heq257 x (zx_X16_quotient_49 hx.2.2.2.2.2.1 hgn3_2 hgb3)).trans ((heq248 x (zx_X16_quotient_49 hx.2.2.2.2.2.1 hgn3_2 hgb3)).trans ((heq239 x (zx_X16_quotient_48 hx.2.2.2.2.2.1 hgn3_1 hgb3)).trans ((heq230 x (zx_X16_quotient_47 hx.2.2.2.2.2.1 hgb3)).trans ((heq219 x ⟨hx.1, (zx_X16_quotient_50 hx.2.2.2.2.2.1 hgn3_3 hgb3)⟩).trans ((heq213 x ⟨hx.1, (zx_X16_quotient_49 hx.2.2.2.2.2.1 hgn3_2 hgb3)⟩).trans ((heq207 x ⟨hx.1, (zx_X16_quotient_48 hx.2.2.2.2.2.1 hgn3_1 hgb3)⟩).trans ((heq201 x ⟨hx.1, (zx_X16_quotient_47 hx.2.2.2.2.2.1 hgb3)⟩).trans ((heqL41 x ⟨⟨hx.1, hx.2.2.2.1⟩, (zx_X16_quotient_46 hx.1)⟩).trans ((heq35 x (zx_X16_quotient_46 hx.1)).trans (heq8 x (zx_X16_quotient_46 hx.1)))))))))))))))))))
                have hb70 : zB w371 num P9_344 := hp344_0.ag (fun x hx1 hx2 => (heq371 x (zx_X16_quotient_52 hx1 hx2 hmn hgb3)))
                have hb71 : zB w371 den Q9_344 := hp344_1.ag (fun x hx1 hx2 => (heq371 x (zx_X16_quotient_53 hx1 hx2 hmd hgb3)))
                refine zr_retB (by decide +kernel) rfl (by decide) ?_
                rw [← hPost]; exact ⟨rfl, _, rfl, pL, pN, P9_344, Q9_344, (((((((((((((((((hsi8.tr hsi35).tr hsiL41).tr hsi201).tr hsi207).tr hsi213).tr hsi219).tr hsi230).tr hsi239).tr hsi248).tr hsi257).tr hsi266).tr hsi275).tr hsi289).tr hsiL298).tr hsi339).tr hsi344).tr hsi371), hoffend, hc371, (by first | exact hb70 | (have z9 := hb70; simpa using z9)), (by first | exact hb71 | (have z9 := hb71; simpa using z9)), (by
                      first
                      | exact ⟨hS.1, hS.2.1, hS.2.2.1, hS.2.2.2.1, hS.2.2.2.2.1, hS.2.2.2.2.2.1⟩
                      | exact ⟨w3, w6, by omega, by omega, by omega, by omega⟩), _, rfl, (by decide), (by
                      first
                      | exact fun e => absurd e (by decide)
                      | exact fun e => absurd (cc330.symm.trans e) (by decide)
                      | exact fun _ => ⟨(hr348.1 (hrb348.resolve_left cc351)).1, (hr348.1 (hrb348.resolve_left cc351)).2, (hr355.1 (hrb355.resolve_left cc358)).1, (hr355.1 (hrb355.resolve_left cc358)).2⟩)⟩
        ·
          have k72 := zrng pL
          have f73 := znleI cc304
          refine zp_seg (pc' := 309) (lv' := [(0, .ref m), (1, .ref num), (2, .ref den), (6, .int (g 3)), (11, .int y11_298), (12, .int y12_298)]) (st' := [.int y11_298]) [(307, .iload 11)] (by decide +kernel) rfl ?_
          refine zp_if (i := .ifCond .eq 19) (c := y11_298 = 0) (t := 328) (e := 312) (lv' := [(0, .ref m), (1, .ref num), (2, .ref den), (6, .int (g 3)), (11, .int y11_298), (12, .int y12_298)]) (st' := []) (by decide +kernel) rfl (fun cc309 => ?_) (fun cc309 => ?_)
          ·
            have f75 := zeqI cc309
            rw [show (0 : Int32).toInt = 0 from by decide] at f75
            refine zp_seg (pc' := 330) (lv' := [(0, .ref m), (1, .ref num), (2, .ref den), (6, .int (g 3)), (11, .int y11_298), (12, .int y12_298)]) (st' := [.int y11_298]) [(328, .iload 11)] (by decide +kernel) rfl ?_
            refine zp_if (i := .ifCond .eq 38) (c := y11_298 = 0) (t := 368) (e := 333) (lv' := [(0, .ref m), (1, .ref num), (2, .ref den), (6, .int (g 3)), (11, .int y11_298), (12, .int y12_298)]) (st' := []) (by decide +kernel) rfl (fun cc330 => ?_) (fun cc330 => ?_)
            ·
              have f76 := zeqI cc330
              rw [show (0 : Int32).toInt = 0 from by decide] at f76
              refine zp_seg (pc' := 371) (lv' := [(0, .ref m), (1, .ref num), (2, .ref den), (6, .int (g 3)), (11, .int y11_298), (12, .int y12_298)]) (st' := [.int (g 3), .ref m]) [(368, .aload_n 0), (369, .iload 6)] (by decide +kernel) rfl ?_
              refine zr_put2 (idx := 90) (k := 3) (fs2 := zMo m (zs (zs g 36 pL) 37 pN) r) (by decide +kernel) (by decide +kernel) hmL298 (Nat.le_of_ble_eq_true rfl) rfl rfl rfl ?_
              show zP (d + 1) zq_X16_quotient 374 [(0, .ref m), (1, .ref num), (2, .ref den), (6, .int (g 3)), (11, .int y11_298), (12, .int y12_298)] [] (zup wL298 m (.inl (15, zMo m (zs (zs g 36 pL) 37 pN) r))) sz 0 0 Post
              obtain ⟨w371, ew371⟩ : ∃ wz9, wz9 = zup wL298 m (.inl (15, zMo m (zs (zs g 36 pL) 37 pN) r)) := ⟨_, rfl⟩
              have hsi371 : zSI wL298 w371 := by rw [ew371]; exact zSI.setG hmL298 _ _
              have heq371 : ∀ x, x ≠ m → w371 x = wL298 x := fun x hx => by rw [ew371]; exact zup_n hx
              have hc371 : w371 m = some (.inl (15, zMo m (zs (zs g 36 pL) 37 pN) r)) := by rw [ew371]; exact zup_s
              rw [← ew371]
              clear ew371
              refine zp_seg (pc' := 376) (lv' := [(0, .ref m), (1, .ref num), (2, .ref den), (6, .int (g 3)), (11, .int y11_298), (12, .int y12_298)]) (st' := [.int y11_298]) [(374, .iload 11)] (by decide +kernel) rfl ?_
              have hoffend : ∀ x, (x < m ∨ m + 1 ≤ x) ∧ (x < num ∨ num + 130 ≤ x) ∧ (x < den ∨ den + 130 ≤ x) ∧ (x < m + 96 ∨ m + 96 + 4 ≤ x) ∧ (x < m + 276 + 2 * (g 1).toNatClampNeg ∨ m + 276 + 2 * (g 1).toNatClampNeg + (320 - 2 * (g 1).toNatClampNeg) ≤ x) ∧ (x < m + 596 + 130 * (g 3).toNatClampNeg ∨ m + 596 + 130 * (g 3).toNatClampNeg + (5720 - 130 * (g 3).toNatClampNeg) ≤ x) ∧ (x < m + 3 ∨ m + 3 + 1 ≤ x) ∧ (x < m + 5 ∨ m + 5 + 64 ≤ x) → w371 x = w x := fun x hx => ((heq371 x (zx_X16_quotient_46 hx.1)).trans ((heqL298 x ⟨⟨hx.2.1, hx.2.2.1, hx.2.2.2.2.1, (zx_X16_quotient_51 hx.2.2.2.2.2.1 hgn3_4 hgb3)⟩, (zx_X16_quotient_46 hx.1)⟩).trans ((heq289 x ⟨hx.2.1, hx.2.2.1, hx.2.2.2.2.1, (zx_X16_quotient_51 hx.2.2.2.2.2.1 hgn3_4 hgb3), hx.2.2.2.2.2.2.1, hx.2.2.2.2.2.2.2⟩).trans ((heq275 x (zx_X16_quotient_50 hx.2.2.2.2.2.1 hgn3_3 hgb3)).trans ((heq266 x (zx_X16_quotient_50 hx.2.2.2.2.2.1 hgn3_3 hgb3)).trans ((heq257 x (zx_X16_quotient_49 hx.2.2.2.2.2.1 hgn3_2 hgb3)).trans ((heq248 x (zx_X16_quotient_49 hx.2.2.2.2.2.1 hgn3_2 hgb3)).trans ((heq239 x (zx_X16_quotient_48 hx.2.2.2.2.2.1 hgn3_1 hgb3)).trans ((heq230 x (zx_X16_quotient_47 hx.2.2.2.2.2.1 hgb3)).trans ((heq219 x ⟨hx.1, (zx_X16_quotient_50 hx.2.2.2.2.2.1 hgn3_3 hgb3)⟩).trans ((heq213 x ⟨hx.1, (zx_X16_quotient_49 hx.2.2.2.2.2.1 hgn3_2 hgb3)⟩).trans ((heq207 x ⟨hx.1, (zx_X16_quotient_48 hx.2.2.2.2.2.1 hgn3_1 hgb3)⟩).trans ((heq201 x ⟨hx.1, (zx_X16_quotient_47 hx.2.2.2.2.2.1 hgb3)⟩).trans ((heqL41 x ⟨⟨hx.1, hx.2.2.2.1⟩, (zx_X16_quotient_46 hx.1)⟩).trans ((heq35 x (zx_X16_quotient_46 hx.1)).trans (heq8 x (zx_X16_quotient_46 hx.1)))))))))))))))))
              have hb77 : zB w371 num P := hBP.ag (fun x hx1 hx2 => (heq371 x (zx_X16_quotient_52 hx1 hx2 hmn hgb3)))
              have hb78 : zB w371 den Q := hBQ.ag (fun x hx1 hx2 => (heq371 x (zx_X16_quotient_53 hx1 hx2 hmd hgb3)))
              refine zr_retB (by decide +kernel) rfl hi298_0 ?_
              rw [← hPost]; exact ⟨rfl, _, rfl, pL, pN, P, Q, (((((((((((((((hsi8.tr hsi35).tr hsiL41).tr hsi201).tr hsi207).tr hsi213).tr hsi219).tr hsi230).tr hsi239).tr hsi248).tr hsi257).tr hsi266).tr hsi275).tr hsi289).tr hsiL298).tr hsi371), hoffend, hc371, (by first | exact hb77 | (have z9 := hb77; simpa using z9)), (by first | exact hb78 | (have z9 := hb78; simpa using z9)), (by
                    first
                    | exact ⟨hS.1, hS.2.1, hS.2.2.1, hS.2.2.2.1, hS.2.2.2.2.1, hS.2.2.2.2.2.1⟩
                    | exact ⟨w3, w6, by omega, by omega, by omega, by omega⟩), _, rfl, hi298_0, (by
                    first
                    | exact fun e => absurd e (by decide)
                    | exact fun e => absurd (cc330.symm.trans e) (by decide)
                    | exact fun _ => ⟨(hr348.1 (hrb348.resolve_left cc351)).1, (hr348.1 (hrb348.resolve_left cc351)).2, (hr355.1 (hrb355.resolve_left cc358)).1, (hr355.1 (hrb355.resolve_left cc358)).2⟩)⟩
            ·
              exact absurd cc309 cc330
          ·
            have f80 := zneI cc309
            rw [show (0 : Int32).toInt = 0 from by decide] at f80
            refine zp_seg (pc' := 317) (lv' := [(0, .ref m), (1, .ref num), (2, .ref den), (6, .int (g 3)), (11, .int y11_298), (12, .int y12_298)]) (st' := [.int y12_298, .ref den, .ref num, .ref m]) [(312, .aload_n 0), (313, .aload_n 1), (314, .aload_n 2), (315, .iload 12)] (by decide +kernel) rfl ?_
            have hb81 := hb41.si (hsi289.tr hsiL298)
            have hb82 : wL298 (m + 96) = some (.inr (0, 120, .inl pa)) := ((heqL298 (m + 96) ⟨⟨(zx_X16_quotient_60 hmn hgb3), (zx_X16_quotient_61 hmd hgb3), (zx_X16_quotient_62 hgb1), (zx_X16_quotient_63 hgn3_4 hgb3)⟩, (zx_X16_quotient_66)⟩).trans ((heq289 (m + 96) ⟨(zx_X16_quotient_60 hmn hgb3), (zx_X16_quotient_61 hmd hgb3), (zx_X16_quotient_62 hgb1), (zx_X16_quotient_63 hgn3_4 hgb3), (zx_X16_quotient_64), (zx_X16_quotient_65)⟩).trans ((heq275 (m + 96) (zx_X16_quotient_59 hgn3_3 hgb3)).trans ((heq266 (m + 96) (zx_X16_quotient_59 hgn3_3 hgb3)).trans ((heq257 (m + 96) (zx_X16_quotient_58 hgn3_2 hgb3)).trans ((heq248 (m + 96) (zx_X16_quotient_58 hgn3_2 hgb3)).trans ((heq239 (m + 96) (zx_X16_quotient_57 hgn3_1 hgb3)).trans ((heq230 (m + 96) (zx_X16_quotient_56 hgb3)).trans ((heq219 (m + 96) ⟨(zx_X16_quotient_55), (zx_X16_quotient_59 hgn3_3 hgb3)⟩).trans ((heq213 (m + 96) ⟨(zx_X16_quotient_55), (zx_X16_quotient_58 hgn3_2 hgb3)⟩).trans ((heq207 (m + 96) ⟨(zx_X16_quotient_55), (zx_X16_quotient_57 hgn3_1 hgb3)⟩).trans (heq201 (m + 96) ⟨(zx_X16_quotient_55), (zx_X16_quotient_56 hgb3)⟩)))))))))))).trans hpa
            have hb83 : wL298 (m + 97) = some (.inr (0, 120, .inl pb)) := ((heqL298 (m + 97) ⟨⟨(zx_X16_quotient_72 hmn hgb3), (zx_X16_quotient_73 hmd hgb3), (zx_X16_quotient_74 hgb1), (zx_X16_quotient_75 hgn3_4 hgb3)⟩, (zx_X16_quotient_78)⟩).trans ((heq289 (m + 97) ⟨(zx_X16_quotient_72 hmn hgb3), (zx_X16_quotient_73 hmd hgb3), (zx_X16_quotient_74 hgb1), (zx_X16_quotient_75 hgn3_4 hgb3), (zx_X16_quotient_76), (zx_X16_quotient_77)⟩).trans ((heq275 (m + 97) (zx_X16_quotient_71 hgn3_3 hgb3)).trans ((heq266 (m + 97) (zx_X16_quotient_71 hgn3_3 hgb3)).trans ((heq257 (m + 97) (zx_X16_quotient_70 hgn3_2 hgb3)).trans ((heq248 (m + 97) (zx_X16_quotient_70 hgn3_2 hgb3)).trans ((heq239 (m + 97) (zx_X16_quotient_69 hgn3_1 hgb3)).trans ((heq230 (m + 97) (zx_X16_quotient_68 hgb3)).trans ((heq219 (m + 97) ⟨(zx_X16_quotient_67), (zx_X16_quotient_71 hgn3_3 hgb3)⟩).trans ((heq213 (m + 97) ⟨(zx_X16_quotient_67), (zx_X16_quotient_70 hgn3_2 hgb3)⟩).trans ((heq207 (m + 97) ⟨(zx_X16_quotient_67), (zx_X16_quotient_69 hgn3_1 hgb3)⟩).trans (heq201 (m + 97) ⟨(zx_X16_quotient_67), (zx_X16_quotient_68 hgb3)⟩)))))))))))).trans hpb
            have hb84 : wL298 (m + 98) = some (.inr (0, 120, .inl pc)) := ((heqL298 (m + 98) ⟨⟨(zx_X16_quotient_84 hmn hgb3), (zx_X16_quotient_85 hmd hgb3), (zx_X16_quotient_86 hgb1), (zx_X16_quotient_87 hgn3_4 hgb3)⟩, (zx_X16_quotient_90)⟩).trans ((heq289 (m + 98) ⟨(zx_X16_quotient_84 hmn hgb3), (zx_X16_quotient_85 hmd hgb3), (zx_X16_quotient_86 hgb1), (zx_X16_quotient_87 hgn3_4 hgb3), (zx_X16_quotient_88), (zx_X16_quotient_89)⟩).trans ((heq275 (m + 98) (zx_X16_quotient_83 hgn3_3 hgb3)).trans ((heq266 (m + 98) (zx_X16_quotient_83 hgn3_3 hgb3)).trans ((heq257 (m + 98) (zx_X16_quotient_82 hgn3_2 hgb3)).trans ((heq248 (m + 98) (zx_X16_quotient_82 hgn3_2 hgb3)).trans ((heq239 (m + 98) (zx_X16_quotient_81 hgn3_1 hgb3)).trans ((heq230 (m + 98) (zx_X16_quotient_80 hgb3)).trans ((heq219 (m + 98) ⟨(zx_X16_quotient_79), (zx_X16_quotient_83 hgn3_3 hgb3)⟩).trans ((heq213 (m + 98) ⟨(zx_X16_quotient_79), (zx_X16_quotient_82 hgn3_2 hgb3)⟩).trans ((heq207 (m + 98) ⟨(zx_X16_quotient_79), (zx_X16_quotient_81 hgn3_1 hgb3)⟩).trans (heq201 (m + 98) ⟨(zx_X16_quotient_79), (zx_X16_quotient_80 hgb3)⟩)))))))))))).trans hpc
            have hb85 : wL298 (m + 99) = some (.inr (0, 120, .inl pe)) := ((heqL298 (m + 99) ⟨⟨(zx_X16_quotient_96 hmn hgb3), (zx_X16_quotient_97 hmd hgb3), (zx_X16_quotient_98 hgb1), (zx_X16_quotient_99 hgn3_4 hgb3)⟩, (zx_X16_quotient_102)⟩).trans ((heq289 (m + 99) ⟨(zx_X16_quotient_96 hmn hgb3), (zx_X16_quotient_97 hmd hgb3), (zx_X16_quotient_98 hgb1), (zx_X16_quotient_99 hgn3_4 hgb3), (zx_X16_quotient_100), (zx_X16_quotient_101)⟩).trans ((heq275 (m + 99) (zx_X16_quotient_95 hgn3_3 hgb3)).trans ((heq266 (m + 99) (zx_X16_quotient_95 hgn3_3 hgb3)).trans ((heq257 (m + 99) (zx_X16_quotient_94 hgn3_2 hgb3)).trans ((heq248 (m + 99) (zx_X16_quotient_94 hgn3_2 hgb3)).trans ((heq239 (m + 99) (zx_X16_quotient_93 hgn3_1 hgb3)).trans ((heq230 (m + 99) (zx_X16_quotient_92 hgb3)).trans ((heq219 (m + 99) ⟨(zx_X16_quotient_91), (zx_X16_quotient_95 hgn3_3 hgb3)⟩).trans ((heq213 (m + 99) ⟨(zx_X16_quotient_91), (zx_X16_quotient_94 hgn3_2 hgb3)⟩).trans ((heq207 (m + 99) ⟨(zx_X16_quotient_91), (zx_X16_quotient_93 hgn3_1 hgb3)⟩).trans (heq201 (m + 99) ⟨(zx_X16_quotient_91), (zx_X16_quotient_92 hgb3)⟩)))))))))))).trans hpe
            refine zr_callV (idx := 629) (j := 362) (by decide +kernel) (by decide +kernel) (show zMe 362 = some zq_X16_lineInto from rfl) rfl rfl (Nat.le_of_ble_eq_true rfl) rfl rfl hmL298 (Nat.le_of_ble_eq_true rfl) (Nat.le_of_ble_eq_true rfl) (c_X16_lineInto (w := wL298) (g1 := (g 1)) (g3 := (g 3 + 1 + 1 + 1 + 1)) (g36 := pL) m num den y12_298 hmL298 hb81 hb82 hb83 hb84 hb85 hBP hBQ (by first | omega | decide | assumption | exact zr1_1 | exact zr1_0 | fail "num") (by first | omega | decide | assumption | exact zr1_1 | exact zr1_0 | fail "num") (by first | omega | decide | assumption | exact zr1_1 | exact zr1_0 | fail "num") (by first | omega | decide | assumption | exact zr1_1 | exact zr1_0 | fail "num") (by first | omega | decide | assumption | exact zr1_1 | exact zr1_0 | fail "num") (by first | omega | decide | assumption | exact zr1_1 | exact zr1_0 | fail "num") (by exact hpq.2) (by exact hS.1) (by exact hS.2.1) (by exact hS.2.2.2.2.2.2 (hi298_0.resolve_left cc309)) rfl rfl rfl) (by omega) (fun v317 w317 hp317 => ?_)
            obtain ⟨P9_317, Q9_317, hsi317, heq317, hp317_0, hp317_1, hp317_2, r317, rfl, hrb317, hr317⟩ := hp317
            have kr317 := zrng r317
            show zP _ _ _ _ [.int r317] _ _ _ _ _
            refine zp_seg (pc' := 325) (lv' := [(12, .int (y12_298 + 1)), (11, .int r317), (0, .ref m), (1, .ref num), (2, .ref den), (6, .int (g 3))]) (st' := []) [(320, .istore 11), (322, .iinc 12 1)] (by decide +kernel) rfl ?_
            have k86 := zaddC y12_298 1 (n := 1) (by decide) (by omega) (by omega)
            generalize ev325 : (y12_298 + 1 : Int32) = v325 at k86 ⊢
            have kv325 := zrng v325
            refine zp_seg (pc' := 298) (lv' := [(12, .int v325), (11, .int r317), (0, .ref m), (1, .ref num), (2, .ref den), (6, .int (g 3))]) (st' := []) [(325, .goto (-27))] (by decide +kernel) rfl ?_
            have hz87 : (v325.toNatClampNeg : Int) = v325.toInt := znat (by first | omega | decide)
            have hb88 : w317 m = some (.inl (15, zMo m (zs (zs (zs g 3 (g 3 + 1 + 1 + 1 + 1)) 36 pL) 37 pN) r)) := (heq317 m ⟨(zx_X16_quotient_40 hmn hgb3), (zx_X16_quotient_41 hmd hgb3), (zx_X16_quotient_42 hgb1), (zx_X16_quotient_43 hgn3_4 hgb3)⟩).trans hmL298
            exact (ih298 w317 r317 v325 (P9_317) (Q9_317) (hsiL298.tr hsi317) (fun x hx => ((heq317 x ⟨hx.1.1, hx.1.2.1, hx.1.2.2.1, hx.1.2.2.2⟩).trans (heqL298 x ⟨⟨hx.1.1, hx.1.2.1, hx.1.2.2.1, hx.1.2.2.2⟩, hx.2⟩))) (by first | assumption | omega | decide) (by first | assumption | omega | decide) (by first | assumption | omega | decide) hp317_0 hp317_1 hb88 (by
                  exact ⟨hp317_2.1, hp317_2.2.1, hp317_2.2.2.1, hp317_2.2.2.2.1, hp317_2.2.2.2.2.1, hp317_2.2.2.2.2.2, hr317⟩) (by omega)).more (zfa1 rfl (zfa1 rfl (zfa1 rfl (zfa1 rfl (zfa1 rfl (zfa1 rfl (zfa0)))))))
      have hl89 : (1 : Int32).toInt = 1 := by decide
      have hl90 : (0 : Int32).toInt = 0 := by decide
      have hz91 : ((0 : Int32).toNatClampNeg : Int) = 0 := by decide
      exact (hL298 _ w289 1 0 (P9_289) (Q9_289) zSI.rf (fun _ _ => rfl) (by first | assumption | omega | decide) (by first | assumption | omega | decide) (by first | assumption | omega | decide) hp289_0 hp289_1 hb47 (by
            exact ⟨hP, hQ, by omega, by omega, by omega, by omega, fun _ => ⟨by omega, by omega, by omega, by omega⟩⟩) (Nat.lt_succ_self _)).more (zfa1 rfl (zfa1 rfl (zfa1 rfl (zfa1 rfl (zfa1 rfl (zfa1 rfl (zfa0)))))))
    ·
      have f92 := znleI cc47
      refine zp_seg (pc' := 51) (lv' := [(0, .ref m), (1, .ref num), (2, .ref den), (3, .ref t), (4, .int dn), (5, .int dk), (6, .int (g 3)), (7, .int y7_41)]) (st' := [.ref t]) [(50, .aload_n 3)] (by decide +kernel) rfl ?_
      refine zr_get (idx := 222) (k := 6) (v := .ref (t + 3)) (by decide +kernel) (by decide +kernel) hb15 rfl ?_
      refine zp_seg (pc' := 56) (lv' := [(0, .ref m), (1, .ref num), (2, .ref den), (3, .ref t), (4, .int dn), (5, .int dk), (6, .int (g 3)), (7, .int y7_41)]) (st' := [.int y7_41, .ref (t + 3)]) [(54, .iload 7)] (by decide +kernel) rfl ?_
      have hb93 : wL41 (t + 3) = some (.inr (0, 13, .inl fa1)) := ((heqL41 (t + 3) ⟨⟨(zx_X16_quotient_104 hot), (zx_X16_quotient_105 hot)⟩, (zx_X16_quotient_103 hot)⟩).trans ((heq35 (t + 3) (zx_X16_quotient_103 hot)).trans (heq8 (t + 3) (zx_X16_quotient_103 hot)))).trans hAa1
      refine zr_iald (by decide +kernel) hb93 (zin (by first | omega | decide) (by first | omega | decide)) ?_
      obtain ⟨x56, ex56⟩ : ∃ x9, x9 = fa1 (y7_41.toNatClampNeg) := ⟨_, rfl⟩
      rw [← ex56]
      have kx56 := zrng x56
      refine zp_seg (pc' := 59) (lv' := [(0, .ref m), (1, .ref num), (2, .ref den), (3, .ref t), (4, .int dn), (5, .int dk), (6, .int (g 3)), (7, .int y7_41)]) (st' := [.int dn, .int x56]) [(57, .iload 4)] (by decide +kernel) rfl ?_
      have hfa9 := hKl1 y7_41.toNatClampNeg (by omega)
      rw [← ex56] at hfa9
      have hb1 := zmul_b3 (x := x56) (y := dn) hfa9.1 (by omega)
      refine zp_seg (pc' := 60) (lv' := [(0, .ref m), (1, .ref num), (2, .ref den), (3, .ref t), (4, .int dn), (5, .int dk), (6, .int (g 3)), (7, .int y7_41)]) (st' := [.int (x56 * dn)]) [(59, .imul)] (by decide +kernel) rfl ?_
      have k94 := zmulM x56 dn
      generalize ev60 : (x56 * dn : Int32) = v60 at k94 ⊢
      have kv60 := zrng v60
      refine zp_seg (pc' := 61) (lv' := [(0, .ref m), (1, .ref num), (2, .ref den), (3, .ref t), (4, .int dn), (5, .int dk), (6, .int (g 3)), (7, .int y7_41)]) (st' := [.ref t, .int v60]) [(60, .aload_n 3)] (by decide +kernel) rfl ?_
      refine zr_get (idx := 225) (k := 7) (v := .ref (t + 4)) (by decide +kernel) (by decide +kernel) hb15 rfl ?_
      refine zp_seg (pc' := 66) (lv' := [(0, .ref m), (1, .ref num), (2, .ref den), (3, .ref t), (4, .int dn), (5, .int dk), (6, .int (g 3)), (7, .int y7_41)]) (st' := [.int y7_41, .ref (t + 4), .int v60]) [(64, .iload 7)] (by decide +kernel) rfl ?_
      have hb95 : wL41 (t + 4) = some (.inr (0, 13, .inl fb1)) := ((heqL41 (t + 4) ⟨⟨(zx_X16_quotient_107 hot), (zx_X16_quotient_108 hot)⟩, (zx_X16_quotient_106 hot)⟩).trans ((heq35 (t + 4) (zx_X16_quotient_106 hot)).trans (heq8 (t + 4) (zx_X16_quotient_106 hot)))).trans hAb1
      refine zr_iald (by decide +kernel) hb95 (zin (by first | omega | decide) (by first | omega | decide)) ?_
      obtain ⟨x66, ex66⟩ : ∃ x9, x9 = fb1 (y7_41.toNatClampNeg) := ⟨_, rfl⟩
      rw [← ex66]
      have kx66 := zrng x66
      refine zp_seg (pc' := 69) (lv' := [(0, .ref m), (1, .ref num), (2, .ref den), (3, .ref t), (4, .int dn), (5, .int dk), (6, .int (g 3)), (7, .int y7_41)]) (st' := [.int dk, .int x66, .int v60]) [(67, .iload 5)] (by decide +kernel) rfl ?_
      rw [← ex66] at hfa9
      have hb2 := zmul_b3 (x := x66) (y := dk) hfa9.2.1 (by omega)
      refine zp_seg (pc' := 70) (lv' := [(0, .ref m), (1, .ref num), (2, .ref den), (3, .ref t), (4, .int dn), (5, .int dk), (6, .int (g 3)), (7, .int y7_41)]) (st' := [.int (x66 * dk), .int v60]) [(69, .imul)] (by decide +kernel) rfl ?_
      have k96 := zmulM x66 dk
      generalize ev70 : (x66 * dk : Int32) = v70 at k96 ⊢
      have kv70 := zrng v70
      have hv70 : v70.toInt = x66.toInt * dk.toInt := by omega
      refine zp_seg (pc' := 71) (lv' := [(0, .ref m), (1, .ref num), (2, .ref den), (3, .ref t), (4, .int dn), (5, .int dk), (6, .int (g 3)), (7, .int y7_41)]) (st' := [.int (v60 + v70)]) [(70, .iadd)] (by decide +kernel) rfl ?_
      have k97 := zadd v60 v70 (by omega) (by omega)
      generalize ev71 : (v60 + v70 : Int32) = v71 at k97 ⊢
      have kv71 := zrng v71
      have hst : -9 ≤ v71.toInt ∧ v71.toInt ≤ 9 := by omega
      refine zp_seg (pc' := 76) (lv' := [(9, .int 1), (8, .int v71), (0, .ref m), (1, .ref num), (2, .ref den), (3, .ref t), (4, .int dn), (5, .int dk), (6, .int (g 3)), (7, .int y7_41)]) (st' := []) [(71, .istore 8), (73, .iconst 1), (74, .istore 9)] (by decide +kernel) rfl ?_
      have hL76 : ∀ (mm76 : Nat) (wL76 : zM) (y9_76 : Int32) (sL : Int32) (sN : Int32) (sa : Nat → Int32) (sb : Nat → Int32) (sc : Nat → Int32) (se : Nat → Int32), (zSI wL41 wL76) → (∀ x, ((x < m ∨ m + 1 ≤ x) ∧ (x < m + 96 ∨ m + 96 + 4 ≤ x)) ∧ x ≠ m → wL76 x = wL41 x) → (1 ≤ y9_76.toInt) → (y9_76.toInt ≤ 10) → (wL76 m = some (.inl (15, zMo m (zs (zs g 36 sL) 37 sN) r))) → (wL76 (m + 96) = some (.inr (0, 120, .inl sa))) → (wL76 (m + 97) = some (.inr (0, 120, .inl sb))) → (wL76 (m + 98) = some (.inr (0, 120, .inl sc))) → (wL76 (m + 99) = some (.inr (0, 120, .inl se))) → ((zr1 sN ∧ sN ≠ 0) ∧ zQs sa sb sc sL.toNatClampNeg) → (0 ≤ sL.toInt ∧ sL.toInt ≤ 9 * y7_41.toInt + y9_76.toInt - 1 ∧ (y9_76.toInt ≤ 1 ∨ y9_76.toInt ≤ v71.toInt + 1)) → (20 - y9_76.toInt).toNat < mm76 → zP (d + 1) zq_X16_quotient 76 [(0, .ref m), (1, .ref num), (2, .ref den), (3, .ref t), (4, .int dn), (5, .int dk), (6, .int (g 3)), (7, .int y7_41), (8, .int v71), (9, .int y9_76)] [] wL76 sz 0 0 Post := by
        intro mm76
        induction mm76 with
        | zero => intros; omega
        | succ mm76 ih76 =>
        intro wL76 y9_76 sL sN sa sb sc se hsiL76 heqL76 hi76_0 hi76_1 hsM hsa hsb hsc hse hsq hsB hmu76
        have ky9_76 := zrng y9_76
        refine zp_seg (pc' := 80) (lv' := [(0, .ref m), (1, .ref num), (2, .ref den), (3, .ref t), (4, .int dn), (5, .int dk), (6, .int (g 3)), (7, .int y7_41), (8, .int v71), (9, .int y9_76)]) (st' := [.int v71, .int y9_76]) [(76, .iload 9), (78, .iload 8)] (by decide +kernel) rfl ?_
        refine zp_if (i := .if_icmp .gt 53) (c := v71 < y9_76) (t := 133) (e := 83) (lv' := [(0, .ref m), (1, .ref num), (2, .ref den), (3, .ref t), (4, .int dn), (5, .int dk), (6, .int (g 3)), (7, .int y7_41), (8, .int v71), (9, .int y9_76)]) (st' := []) (by decide +kernel) rfl (fun cc80 => ?_) (fun cc80 => ?_)
        ·
          have f98 := zltI cc80
          refine zp_seg (pc' := 136) (lv' := [(9, .int 0), (0, .ref m), (1, .ref num), (2, .ref den), (3, .ref t), (4, .int dn), (5, .int dk), (6, .int (g 3)), (7, .int y7_41), (8, .int v71)]) (st' := []) [(133, .iconst 0), (134, .istore 9)] (by decide +kernel) rfl ?_
          have hL136 : ∀ (mm136 : Nat) (wL136 : zM) (y9_136 : Int32) (uL : Int32) (uN : Int32) (ua : Nat → Int32) (ub : Nat → Int32) (uc : Nat → Int32) (ue : Nat → Int32), (zSI wL76 wL136) → (∀ x, ((x < m ∨ m + 1 ≤ x) ∧ (x < m + 96 ∨ m + 96 + 4 ≤ x)) ∧ x ≠ m → wL136 x = wL76 x) → (y9_136.toInt ≤ 0) → (-9 ≤ y9_136.toInt) → (wL136 m = some (.inl (15, zMo m (zs (zs g 36 uL) 37 uN) r))) → (wL136 (m + 96) = some (.inr (0, 120, .inl ua))) → (wL136 (m + 97) = some (.inr (0, 120, .inl ub))) → (wL136 (m + 98) = some (.inr (0, 120, .inl uc))) → (wL136 (m + 99) = some (.inr (0, 120, .inl ue))) → ((zr1 uN ∧ uN ≠ 0) ∧ zQs ua ub uc uL.toNatClampNeg) → (0 ≤ uL.toInt ∧ uL.toInt ≤ 9 * y7_41.toInt + 9 ∧ (v71.toInt < 0 → uL.toInt ≤ 9 * y7_41.toInt - y9_136.toInt)) → (y9_136.toInt + 20).toNat < mm136 → zP (d + 1) zq_X16_quotient 136 [(0, .ref m), (1, .ref num), (2, .ref den), (3, .ref t), (4, .int dn), (5, .int dk), (6, .int (g 3)), (7, .int y7_41), (8, .int v71), (9, .int y9_136)] [] wL136 sz 0 0 Post := by
            intro mm136
            induction mm136 with
            | zero => intros; omega
            | succ mm136 ih136 =>
            intro wL136 y9_136 uL uN ua ub uc ue hsiL136 heqL136 hi136_0 hi136_1 huM hua hub huc hue huq huB hmu136
            have ky9_136 := zrng y9_136
            refine zp_seg (pc' := 140) (lv' := [(0, .ref m), (1, .ref num), (2, .ref den), (3, .ref t), (4, .int dn), (5, .int dk), (6, .int (g 3)), (7, .int y7_41), (8, .int v71), (9, .int y9_136)]) (st' := [.int v71, .int y9_136]) [(136, .iload 9), (138, .iload 8)] (by decide +kernel) rfl ?_
            refine zp_if (i := .if_icmp .le 54) (c := y9_136 ≤ v71) (t := 194) (e := 143) (lv' := [(0, .ref m), (1, .ref num), (2, .ref den), (3, .ref t), (4, .int dn), (5, .int dk), (6, .int (g 3)), (7, .int y7_41), (8, .int v71), (9, .int y9_136)]) (st' := []) (by decide +kernel) rfl (fun cc140 => ?_) (fun cc140 => ?_)
            ·
              have f99 := zleI cc140
              refine zp_seg (pc' := 197) (lv' := [(7, .int (y7_41 + 1)), (0, .ref m), (1, .ref num), (2, .ref den), (3, .ref t), (4, .int dn), (5, .int dk), (6, .int (g 3)), (8, .int v71), (9, .int y9_136)]) (st' := []) [(194, .iinc 7 1)] (by decide +kernel) rfl ?_
              have k100 := zaddC y7_41 1 (n := 1) (by decide) (by omega) (by omega)
              generalize ev197 : (y7_41 + 1 : Int32) = v197 at k100 ⊢
              have kv197 := zrng v197
              refine zp_seg (pc' := 41) (lv' := [(7, .int v197), (0, .ref m), (1, .ref num), (2, .ref den), (3, .ref t), (4, .int dn), (5, .int dk), (6, .int (g 3)), (8, .int v71), (9, .int y9_136)]) (st' := []) [(197, .goto (-156))] (by decide +kernel) rfl ?_
              have hz101 : (v197.toNatClampNeg : Int) = v197.toInt := znat (by first | omega | decide)
              exact (ih41 wL136 v197 (uL) (uN) (ua) (ub) (uc) (ue) ((hsiL41.tr hsiL76).tr hsiL136) (fun x hx => ((heqL136 x ⟨⟨hx.1.1, hx.1.2⟩, hx.2⟩).trans ((heqL76 x ⟨⟨hx.1.1, hx.1.2⟩, hx.2⟩).trans (heqL41 x ⟨⟨hx.1.1, hx.1.2⟩, hx.2⟩)))) (by first | assumption | omega | decide) (by first | assumption | omega | decide) huM hua hub huc hue (by
                    exact huq) (by
                    omega) (by omega)).more (zfa1 rfl (zfa1 rfl (zfa1 rfl (zfa1 rfl (zfa1 rfl (zfa1 rfl (zfa1 rfl (zfa1 rfl (zfa0)))))))))
            ·
              have f102 := znleI cc140
              refine zp_seg (pc' := 145) (lv' := [(0, .ref m), (1, .ref num), (2, .ref den), (3, .ref t), (4, .int dn), (5, .int dk), (6, .int (g 3)), (7, .int y7_41), (8, .int v71), (9, .int y9_136)]) (st' := [.ref t, .ref m]) [(143, .aload_n 0), (144, .aload_n 3)] (by decide +kernel) rfl ?_
              have hb103 : wL136 t = some (.inl (13, zTo t g1)) := ((heqL136 t ⟨⟨(zx_X16_quotient_1 hot), (zx_X16_quotient_2 hot)⟩, (zx_X16_quotient_0 hot)⟩).trans (heqL76 t ⟨⟨(zx_X16_quotient_1 hot), (zx_X16_quotient_2 hot)⟩, (zx_X16_quotient_0 hot)⟩)).trans hb15
              refine zr_get (idx := 222) (k := 6) (v := .ref (t + 3)) (by decide +kernel) (by decide +kernel) hb103 rfl ?_
              refine zp_seg (pc' := 150) (lv' := [(0, .ref m), (1, .ref num), (2, .ref den), (3, .ref t), (4, .int dn), (5, .int dk), (6, .int (g 3)), (7, .int y7_41), (8, .int v71), (9, .int y9_136)]) (st' := [.int y7_41, .ref (t + 3), .ref m]) [(148, .iload 7)] (by decide +kernel) rfl ?_
              have hb104 : wL136 (t + 3) = some (.inr (0, 13, .inl fa1)) := ((heqL136 (t + 3) ⟨⟨(zx_X16_quotient_104 hot), (zx_X16_quotient_105 hot)⟩, (zx_X16_quotient_103 hot)⟩).trans (heqL76 (t + 3) ⟨⟨(zx_X16_quotient_104 hot), (zx_X16_quotient_105 hot)⟩, (zx_X16_quotient_103 hot)⟩)).trans hb93
              refine zr_iald (by decide +kernel) hb104 (zin (by first | omega | decide) (by first | omega | decide)) ?_
              rw [← ex56]
              refine zr_callS (idx := 600) (j := 260) (by decide +kernel) (by decide +kernel) (by decide) (show zMe 260 = some zq_X16_rest from rfl) rfl rfl (Nat.le_of_ble_eq_true rfl) rfl rfl (Nat.le_of_ble_eq_true rfl) (Nat.le_of_ble_eq_true rfl) (c_X16_rest (w := wL136) x56 ) (by omega) (fun v151 w151 hp151 => ?_)
              obtain ⟨hpw151, r151, rfl, hr151⟩ := hp151
              replace hpw151 := hpw151.symm
              subst hpw151
              have kr151 := zrng r151
              show zP _ _ _ _ [.int r151, .ref m] _ _ _ _ _
              refine zp_seg (pc' := 155) (lv' := [(0, .ref m), (1, .ref num), (2, .ref den), (3, .ref t), (4, .int dn), (5, .int dk), (6, .int (g 3)), (7, .int y7_41), (8, .int v71), (9, .int y9_136)]) (st' := [.ref t, .int r151, .ref m]) [(154, .aload_n 3)] (by decide +kernel) rfl ?_
              refine zr_get (idx := 225) (k := 7) (v := .ref (t + 4)) (by decide +kernel) (by decide +kernel) hb103 rfl ?_
              refine zp_seg (pc' := 160) (lv' := [(0, .ref m), (1, .ref num), (2, .ref den), (3, .ref t), (4, .int dn), (5, .int dk), (6, .int (g 3)), (7, .int y7_41), (8, .int v71), (9, .int y9_136)]) (st' := [.int y7_41, .ref (t + 4), .int r151, .ref m]) [(158, .iload 7)] (by decide +kernel) rfl ?_
              have hb105 : wL136 (t + 4) = some (.inr (0, 13, .inl fb1)) := ((heqL136 (t + 4) ⟨⟨(zx_X16_quotient_107 hot), (zx_X16_quotient_108 hot)⟩, (zx_X16_quotient_106 hot)⟩).trans (heqL76 (t + 4) ⟨⟨(zx_X16_quotient_107 hot), (zx_X16_quotient_108 hot)⟩, (zx_X16_quotient_106 hot)⟩)).trans hb95
              refine zr_iald (by decide +kernel) hb105 (zin (by first | omega | decide) (by first | omega | decide)) ?_
              rw [← ex66]
              refine zr_callS (idx := 600) (j := 260) (by decide +kernel) (by decide +kernel) (by decide) (show zMe 260 = some zq_X16_rest from rfl) rfl rfl (Nat.le_of_ble_eq_true rfl) rfl rfl (Nat.le_of_ble_eq_true rfl) (Nat.le_of_ble_eq_true rfl) (c_X16_rest (w := wL136) x66 ) (by omega) (fun v161 w161 hp161 => ?_)
              obtain ⟨hpw161, r161, rfl, hr161⟩ := hp161
              replace hpw161 := hpw161.symm
              subst hpw161
              have kr161 := zrng r161
              show zP _ _ _ _ [.int r161, .int r151, .ref m] _ _ _ _ _
              refine zp_seg (pc' := 165) (lv' := [(0, .ref m), (1, .ref num), (2, .ref den), (3, .ref t), (4, .int dn), (5, .int dk), (6, .int (g 3)), (7, .int y7_41), (8, .int v71), (9, .int y9_136)]) (st' := [.ref t, .int r161, .int r151, .ref m]) [(164, .aload_n 3)] (by decide +kernel) rfl ?_
              refine zr_get (idx := 228) (k := 8) (v := .ref (t + 5)) (by decide +kernel) (by decide +kernel) hb103 rfl ?_
              refine zp_seg (pc' := 170) (lv' := [(0, .ref m), (1, .ref num), (2, .ref den), (3, .ref t), (4, .int dn), (5, .int dk), (6, .int (g 3)), (7, .int y7_41), (8, .int v71), (9, .int y9_136)]) (st' := [.int y7_41, .ref (t + 5), .int r161, .int r151, .ref m]) [(168, .iload 7)] (by decide +kernel) rfl ?_
              have hb106 : wL136 (t + 5) = some (.inr (0, 13, .inl fc1)) := ((heqL136 (t + 5) ⟨⟨(zx_X16_quotient_110 hot), (zx_X16_quotient_111 hot)⟩, (zx_X16_quotient_109 hot)⟩).trans ((heqL76 (t + 5) ⟨⟨(zx_X16_quotient_110 hot), (zx_X16_quotient_111 hot)⟩, (zx_X16_quotient_109 hot)⟩).trans ((heqL41 (t + 5) ⟨⟨(zx_X16_quotient_110 hot), (zx_X16_quotient_111 hot)⟩, (zx_X16_quotient_109 hot)⟩).trans ((heq35 (t + 5) (zx_X16_quotient_109 hot)).trans (heq8 (t + 5) (zx_X16_quotient_109 hot)))))).trans hAc1
              refine zr_iald (by decide +kernel) hb106 (zin (by first | omega | decide) (by first | omega | decide)) ?_
              obtain ⟨x170, ex170⟩ : ∃ x9, x9 = fc1 (y7_41.toNatClampNeg) := ⟨_, rfl⟩
              rw [← ex170]
              have kx170 := zrng x170
              refine zp_seg (pc' := 174) (lv' := [(0, .ref m), (1, .ref num), (2, .ref den), (3, .ref t), (4, .int dn), (5, .int dk), (6, .int (g 3)), (7, .int y7_41), (8, .int v71), (9, .int y9_136)]) (st' := [.int (x170 + y9_136), .int r161, .int r151, .ref m]) [(171, .iload 9), (173, .iadd)] (by decide +kernel) rfl ?_
              have k107 := zaddM x170 y9_136
              generalize ev174 : (x170 + y9_136 : Int32) = v174 at k107 ⊢
              have kv174 := zrng v174
              refine zr_callS (idx := 600) (j := 260) (by decide +kernel) (by decide +kernel) (by decide) (show zMe 260 = some zq_X16_rest from rfl) rfl rfl (Nat.le_of_ble_eq_true rfl) rfl rfl (Nat.le_of_ble_eq_true rfl) (Nat.le_of_ble_eq_true rfl) (c_X16_rest (w := wL136) v174 ) (by omega) (fun v174 w174 hp174 => ?_)
              obtain ⟨hpw174, r174, rfl, hr174⟩ := hp174
              replace hpw174 := hpw174.symm
              subst hpw174
              have kr174 := zrng r174
              show zP _ _ _ _ [.int r174, .int r161, .int r151, .ref m] _ _ _ _ _
              refine zp_seg (pc' := 178) (lv' := [(0, .ref m), (1, .ref num), (2, .ref den), (3, .ref t), (4, .int dn), (5, .int dk), (6, .int (g 3)), (7, .int y7_41), (8, .int v71), (9, .int y9_136)]) (st' := [.ref t, .int r174, .int r161, .int r151, .ref m]) [(177, .aload_n 3)] (by decide +kernel) rfl ?_
              refine zr_get (idx := 231) (k := 9) (v := .ref (t + 6)) (by decide +kernel) (by decide +kernel) hb103 rfl ?_
              refine zp_seg (pc' := 183) (lv' := [(0, .ref m), (1, .ref num), (2, .ref den), (3, .ref t), (4, .int dn), (5, .int dk), (6, .int (g 3)), (7, .int y7_41), (8, .int v71), (9, .int y9_136)]) (st' := [.int y7_41, .ref (t + 6), .int r174, .int r161, .int r151, .ref m]) [(181, .iload 7)] (by decide +kernel) rfl ?_
              have hb108 : wL136 (t + 6) = some (.inr (0, 13, .inl fe1)) := ((heqL136 (t + 6) ⟨⟨(zx_X16_quotient_113 hot), (zx_X16_quotient_114 hot)⟩, (zx_X16_quotient_112 hot)⟩).trans ((heqL76 (t + 6) ⟨⟨(zx_X16_quotient_113 hot), (zx_X16_quotient_114 hot)⟩, (zx_X16_quotient_112 hot)⟩).trans ((heqL41 (t + 6) ⟨⟨(zx_X16_quotient_113 hot), (zx_X16_quotient_114 hot)⟩, (zx_X16_quotient_112 hot)⟩).trans ((heq35 (t + 6) (zx_X16_quotient_112 hot)).trans (heq8 (t + 6) (zx_X16_quotient_112 hot)))))).trans hAe1
              refine zr_iald (by decide +kernel) hb108 (zin (by first | omega | decide) (by first | omega | decide)) ?_
              obtain ⟨x183, ex183⟩ : ∃ x9, x9 = fe1 (y7_41.toNatClampNeg) := ⟨_, rfl⟩
              rw [← ex183]
              have kx183 := zrng x183
              refine zp_seg (pc' := 185) (lv' := [(0, .ref m), (1, .ref num), (2, .ref den), (3, .ref t), (4, .int dn), (5, .int dk), (6, .int (g 3)), (7, .int y7_41), (8, .int v71), (9, .int y9_136)]) (st' := [.int (-x183), .int r174, .int r161, .int r151, .ref m]) [(184, .ineg)] (by decide +kernel) rfl ?_
              have k109 := znegM x183
              generalize ev185 : (-x183 : Int32) = v185 at k109 ⊢
              have kv185 := zrng v185
              have k110 := zrng uL
              have k111 := zrng uN
              have hb112 := hR_m.si ((((hsi8.tr hsi35).tr hsiL41).tr hsiL76).tr hsiL136)
              refine zr_callV (idx := 619) (j := 360) (by decide +kernel) (by decide +kernel) (show zMe 360 = some zq_X16_lineFactor from rfl) rfl rfl (Nat.le_of_ble_eq_true rfl) rfl rfl huM (Nat.le_of_ble_eq_true rfl) (Nat.le_of_ble_eq_true rfl) (c_X16_lineFactor (w := wL136) (g36 := uL) (g37 := uN) m r151 r161 r174 v185 huM hb112 hua hub huc hue (by first | exact hr151.1 | omega | decide | assumption | exact zr1_1 | exact zr1_0 | fail "num") (by first | exact hr161.1 | omega | decide | assumption | exact zr1_1 | exact zr1_0 | fail "num") (by first | exact hr174.1 | omega | decide | assumption | exact zr1_1 | exact zr1_0 | fail "num") (by first | omega | decide | assumption | exact zr1_1 | exact zr1_0 | fail "num") (by exact huq.1.1) (by exact huq.1.2) (by exact hfa9.2.2.1.elim (fun h => Or.inl (zrest_nz hr151.2 hfa9.1 h)) (fun h => Or.inr (zrest_nz hr161.2 hfa9.2.1 h))) (by exact huq.2) rfl rfl) (by omega) (fun v185 w185 hp185 => ?_)
              obtain ⟨L9_185, N9_185, Fa_185, Fb_185, Fc_185, Fe_185, hsi185, heq185, hp185_0, hp185_1, hp185_2, hp185_3, hp185_4, hp185_5, rfl⟩ := hp185
              have hM185 : w185 m = some (.inl (15, zMo m (zs (zs g 36 L9_185) 37 N9_185) r)) := hp185_0
              show zP _ _ _ _ [] _ _ _ _ _
              refine zp_seg (pc' := 191) (lv' := [(9, .int (y9_136 + (Int32.ofInt (-1)))), (0, .ref m), (1, .ref num), (2, .ref den), (3, .ref t), (4, .int dn), (5, .int dk), (6, .int (g 3)), (7, .int y7_41), (8, .int v71)]) (st' := []) [(188, .iinc 9 (-1))] (by decide +kernel) rfl ?_
              have k113 := zaddC y9_136 ((Int32.ofInt (-1))) (n := (-1)) (by decide) (by omega) (by omega)
              generalize ev191 : (y9_136 + (Int32.ofInt (-1)) : Int32) = v191 at k113 ⊢
              have kv191 := zrng v191
              refine zp_seg (pc' := 136) (lv' := [(9, .int v191), (0, .ref m), (1, .ref num), (2, .ref den), (3, .ref t), (4, .int dn), (5, .int dk), (6, .int (g 3)), (7, .int y7_41), (8, .int v71)]) (st' := []) [(191, .goto (-55))] (by decide +kernel) rfl ?_
              exact (ih136 w185 v191 (L9_185) (N9_185) (Fa_185) (Fb_185) (Fc_185) (Fe_185) (hsiL136.tr hsi185) (fun x hx => ((heq185 x ⟨hx.1.1, hx.1.2⟩).trans (heqL136 x ⟨⟨hx.1.1, hx.1.2⟩, hx.2⟩))) (by first | assumption | omega | decide) (by first | assumption | omega | decide) hM185 hp185_1 hp185_2 hp185_3 hp185_4 (by
                    exact hp185_5.2) (by
                    omega) (by omega)).more (zfa1 rfl (zfa1 rfl (zfa1 rfl (zfa1 rfl (zfa1 rfl (zfa1 rfl (zfa1 rfl (zfa1 rfl (zfa1 rfl (zfa1 rfl (zfa0)))))))))))
          have hl114 : (0 : Int32).toInt = 0 := by decide
          exact (hL136 _ wL76 0 (sL) (sN) (sa) (sb) (sc) (se) zSI.rf (fun _ _ => rfl) (by first | assumption | omega | decide) (by first | assumption | omega | decide) hsM hsa hsb hsc hse (by
                exact hsq) (by
                omega) (Nat.lt_succ_self _)).more (zfa1 rfl (zfa1 rfl (zfa1 rfl (zfa1 rfl (zfa1 rfl (zfa1 rfl (zfa1 rfl (zfa1 rfl (zfa1 rfl (zfa1 rfl (zfa0)))))))))))
        ·
          have f115 := znltI cc80
          refine zp_seg (pc' := 85) (lv' := [(0, .ref m), (1, .ref num), (2, .ref den), (3, .ref t), (4, .int dn), (5, .int dk), (6, .int (g 3)), (7, .int y7_41), (8, .int v71), (9, .int y9_76)]) (st' := [.ref t, .ref m]) [(83, .aload_n 0), (84, .aload_n 3)] (by decide +kernel) rfl ?_
          have hb116 : wL76 t = some (.inl (13, zTo t g1)) := (heqL76 t ⟨⟨(zx_X16_quotient_1 hot), (zx_X16_quotient_2 hot)⟩, (zx_X16_quotient_0 hot)⟩).trans hb15
          refine zr_get (idx := 222) (k := 6) (v := .ref (t + 3)) (by decide +kernel) (by decide +kernel) hb116 rfl ?_
          refine zp_seg (pc' := 90) (lv' := [(0, .ref m), (1, .ref num), (2, .ref den), (3, .ref t), (4, .int dn), (5, .int dk), (6, .int (g 3)), (7, .int y7_41), (8, .int v71), (9, .int y9_76)]) (st' := [.int y7_41, .ref (t + 3), .ref m]) [(88, .iload 7)] (by decide +kernel) rfl ?_
          have hb117 : wL76 (t + 3) = some (.inr (0, 13, .inl fa1)) := (heqL76 (t + 3) ⟨⟨(zx_X16_quotient_104 hot), (zx_X16_quotient_105 hot)⟩, (zx_X16_quotient_103 hot)⟩).trans hb93
          refine zr_iald (by decide +kernel) hb117 (zin (by first | omega | decide) (by first | omega | decide)) ?_
          rw [← ex56]
          refine zr_callS (idx := 600) (j := 260) (by decide +kernel) (by decide +kernel) (by decide) (show zMe 260 = some zq_X16_rest from rfl) rfl rfl (Nat.le_of_ble_eq_true rfl) rfl rfl (Nat.le_of_ble_eq_true rfl) (Nat.le_of_ble_eq_true rfl) (c_X16_rest (w := wL76) x56 ) (by omega) (fun v91 w91 hp91 => ?_)
          obtain ⟨hpw91, r91, rfl, hr91⟩ := hp91
          replace hpw91 := hpw91.symm
          subst hpw91
          have kr91 := zrng r91
          show zP _ _ _ _ [.int r91, .ref m] _ _ _ _ _
          refine zp_seg (pc' := 95) (lv' := [(0, .ref m), (1, .ref num), (2, .ref den), (3, .ref t), (4, .int dn), (5, .int dk), (6, .int (g 3)), (7, .int y7_41), (8, .int v71), (9, .int y9_76)]) (st' := [.ref t, .int r91, .ref m]) [(94, .aload_n 3)] (by decide +kernel) rfl ?_
          refine zr_get (idx := 225) (k := 7) (v := .ref (t + 4)) (by decide +kernel) (by decide +kernel) hb116 rfl ?_
          refine zp_seg (pc' := 100) (lv' := [(0, .ref m), (1, .ref num), (2, .ref den), (3, .ref t), (4, .int dn), (5, .int dk), (6, .int (g 3)), (7, .int y7_41), (8, .int v71), (9, .int y9_76)]) (st' := [.int y7_41, .ref (t + 4), .int r91, .ref m]) [(98, .iload 7)] (by decide +kernel) rfl ?_
          have hb118 : wL76 (t + 4) = some (.inr (0, 13, .inl fb1)) := (heqL76 (t + 4) ⟨⟨(zx_X16_quotient_107 hot), (zx_X16_quotient_108 hot)⟩, (zx_X16_quotient_106 hot)⟩).trans hb95
          refine zr_iald (by decide +kernel) hb118 (zin (by first | omega | decide) (by first | omega | decide)) ?_
          rw [← ex66]
          refine zr_callS (idx := 600) (j := 260) (by decide +kernel) (by decide +kernel) (by decide) (show zMe 260 = some zq_X16_rest from rfl) rfl rfl (Nat.le_of_ble_eq_true rfl) rfl rfl (Nat.le_of_ble_eq_true rfl) (Nat.le_of_ble_eq_true rfl) (c_X16_rest (w := wL76) x66 ) (by omega) (fun v101 w101 hp101 => ?_)
          obtain ⟨hpw101, r101, rfl, hr101⟩ := hp101
          replace hpw101 := hpw101.symm
          subst hpw101
          have kr101 := zrng r101
          show zP _ _ _ _ [.int r101, .int r91, .ref m] _ _ _ _ _
          refine zp_seg (pc' := 105) (lv' := [(0, .ref m), (1, .ref num), (2, .ref den), (3, .ref t), (4, .int dn), (5, .int dk), (6, .int (g 3)), (7, .int y7_41), (8, .int v71), (9, .int y9_76)]) (st' := [.ref t, .int r101, .int r91, .ref m]) [(104, .aload_n 3)] (by decide +kernel) rfl ?_
          refine zr_get (idx := 228) (k := 8) (v := .ref (t + 5)) (by decide +kernel) (by decide +kernel) hb116 rfl ?_
          refine zp_seg (pc' := 110) (lv' := [(0, .ref m), (1, .ref num), (2, .ref den), (3, .ref t), (4, .int dn), (5, .int dk), (6, .int (g 3)), (7, .int y7_41), (8, .int v71), (9, .int y9_76)]) (st' := [.int y7_41, .ref (t + 5), .int r101, .int r91, .ref m]) [(108, .iload 7)] (by decide +kernel) rfl ?_
          have hb119 : wL76 (t + 5) = some (.inr (0, 13, .inl fc1)) := ((heqL76 (t + 5) ⟨⟨(zx_X16_quotient_110 hot), (zx_X16_quotient_111 hot)⟩, (zx_X16_quotient_109 hot)⟩).trans ((heqL41 (t + 5) ⟨⟨(zx_X16_quotient_110 hot), (zx_X16_quotient_111 hot)⟩, (zx_X16_quotient_109 hot)⟩).trans ((heq35 (t + 5) (zx_X16_quotient_109 hot)).trans (heq8 (t + 5) (zx_X16_quotient_109 hot))))).trans hAc1
          refine zr_iald (by decide +kernel) hb119 (zin (by first | omega | decide) (by first | omega | decide)) ?_
          obtain ⟨x110, ex110⟩ : ∃ x9, x9 = fc1 (y7_41.toNatClampNeg) := ⟨_, rfl⟩
          rw [← ex110]
          have kx110 := zrng x110
          refine zp_seg (pc' := 114) (lv' := [(0, .ref m), (1, .ref num), (2, .ref den), (3, .ref t), (4, .int dn), (5, .int dk), (6, .int (g 3)), (7, .int y7_41), (8, .int v71), (9, .int y9_76)]) (st' := [.int (x110 + y9_76), .int r101, .int r91, .ref m]) [(111, .iload 9), (113, .iadd)] (by decide +kernel) rfl ?_
          have k120 := zaddM x110 y9_76
          generalize ev114 : (x110 + y9_76 : Int32) = v114 at k120 ⊢
          have kv114 := zrng v114
          refine zr_callS (idx := 600) (j := 260) (by decide +kernel) (by decide +kernel) (by decide) (show zMe 260 = some zq_X16_rest from rfl) rfl rfl (Nat.le_of_ble_eq_true rfl) rfl rfl (Nat.le_of_ble_eq_true rfl) (Nat.le_of_ble_eq_true rfl) (c_X16_rest (w := wL76) v114 ) (by omega) (fun v114 w114 hp114 => ?_)
          obtain ⟨hpw114, r114, rfl, hr114⟩ := hp114
          replace hpw114 := hpw114.symm
          subst hpw114
          have kr114 := zrng r114
          show zP _ _ _ _ [.int r114, .int r101, .int r91, .ref m] _ _ _ _ _
          refine zp_seg (pc' := 118) (lv' := [(0, .ref m), (1, .ref num), (2, .ref den), (3, .ref t), (4, .int dn), (5, .int dk), (6, .int (g 3)), (7, .int y7_41), (8, .int v71), (9, .int y9_76)]) (st' := [.ref t, .int r114, .int r101, .int r91, .ref m]) [(117, .aload_n 3)] (by decide +kernel) rfl ?_
          refine zr_get (idx := 231) (k := 9) (v := .ref (t + 6)) (by decide +kernel) (by decide +kernel) hb116 rfl ?_
          refine zp_seg (pc' := 123) (lv' := [(0, .ref m), (1, .ref num), (2, .ref den), (3, .ref t), (4, .int dn), (5, .int dk), (6, .int (g 3)), (7, .int y7_41), (8, .int v71), (9, .int y9_76)]) (st' := [.int y7_41, .ref (t + 6), .int r114, .int r101, .int r91, .ref m]) [(121, .iload 7)] (by decide +kernel) rfl ?_
          have hb121 : wL76 (t + 6) = some (.inr (0, 13, .inl fe1)) := ((heqL76 (t + 6) ⟨⟨(zx_X16_quotient_113 hot), (zx_X16_quotient_114 hot)⟩, (zx_X16_quotient_112 hot)⟩).trans ((heqL41 (t + 6) ⟨⟨(zx_X16_quotient_113 hot), (zx_X16_quotient_114 hot)⟩, (zx_X16_quotient_112 hot)⟩).trans ((heq35 (t + 6) (zx_X16_quotient_112 hot)).trans (heq8 (t + 6) (zx_X16_quotient_112 hot))))).trans hAe1
          refine zr_iald (by decide +kernel) hb121 (zin (by first | omega | decide) (by first | omega | decide)) ?_
          obtain ⟨x123, ex123⟩ : ∃ x9, x9 = fe1 (y7_41.toNatClampNeg) := ⟨_, rfl⟩
          rw [← ex123]
          have kx123 := zrng x123
          have k122 := zrng sL
          have k123 := zrng sN
          have hb124 := hR_m.si (((hsi8.tr hsi35).tr hsiL41).tr hsiL76)
          refine zr_callV (idx := 619) (j := 360) (by decide +kernel) (by decide +kernel) (show zMe 360 = some zq_X16_lineFactor from rfl) rfl rfl (Nat.le_of_ble_eq_true rfl) rfl rfl hsM (Nat.le_of_ble_eq_true rfl) (Nat.le_of_ble_eq_true rfl) (c_X16_lineFactor (w := wL76) (g36 := sL) (g37 := sN) m r91 r101 r114 x123 hsM hb124 hsa hsb hsc hse (by first | exact hr91.1 | omega | decide | assumption | exact zr1_1 | exact zr1_0 | fail "num") (by first | exact hr101.1 | omega | decide | assumption | exact zr1_1 | exact zr1_0 | fail "num") (by first | exact hr114.1 | omega | decide | assumption | exact zr1_1 | exact zr1_0 | fail "num") (by first | omega | decide | assumption | exact zr1_1 | exact zr1_0 | fail "num") (by exact hsq.1.1) (by exact hsq.1.2) (by exact hfa9.2.2.1.elim (fun h => Or.inl (zrest_nz hr91.2 hfa9.1 h)) (fun h => Or.inr (zrest_nz hr101.2 hfa9.2.1 h))) (by exact hsq.2) rfl rfl) (by omega) (fun v124 w124 hp124 => ?_)
          obtain ⟨L9_124, N9_124, Fa_124, Fb_124, Fc_124, Fe_124, hsi124, heq124, hp124_0, hp124_1, hp124_2, hp124_3, hp124_4, hp124_5, rfl⟩ := hp124
          have hM124 : w124 m = some (.inl (15, zMo m (zs (zs g 36 L9_124) 37 N9_124) r)) := hp124_0
          show zP _ _ _ _ [] _ _ _ _ _
          refine zp_seg (pc' := 130) (lv' := [(9, .int (y9_76 + 1)), (0, .ref m), (1, .ref num), (2, .ref den), (3, .ref t), (4, .int dn), (5, .int dk), (6, .int (g 3)), (7, .int y7_41), (8, .int v71)]) (st' := []) [(127, .iinc 9 1)] (by decide +kernel) rfl ?_
          have k125 := zaddC y9_76 1 (n := 1) (by decide) (by omega) (by omega)
          generalize ev130 : (y9_76 + 1 : Int32) = v130 at k125 ⊢
          have kv130 := zrng v130
          refine zp_seg (pc' := 76) (lv' := [(9, .int v130), (0, .ref m), (1, .ref num), (2, .ref den), (3, .ref t), (4, .int dn), (5, .int dk), (6, .int (g 3)), (7, .int y7_41), (8, .int v71)]) (st' := []) [(130, .goto (-54))] (by decide +kernel) rfl ?_
          exact (ih76 w124 v130 (L9_124) (N9_124) (Fa_124) (Fb_124) (Fc_124) (Fe_124) (hsiL76.tr hsi124) (fun x hx => ((heq124 x ⟨hx.1.1, hx.1.2⟩).trans (heqL76 x ⟨⟨hx.1.1, hx.1.2⟩, hx.2⟩))) (by first | assumption | omega | decide) (by first | assumption | omega | decide) hM124 hp124_1 hp124_2 hp124_3 hp124_4 (by
                exact hp124_5.2) (by
                omega) (by omega)).more (zfa1 rfl (zfa1 rfl (zfa1 rfl (zfa1 rfl (zfa1 rfl (zfa1 rfl (zfa1 rfl (zfa1 rfl (zfa1 rfl (zfa1 rfl (zfa0)))))))))))
      have hl126 : (1 : Int32).toInt = 1 := by decide
      exact (hL76 _ wL41 1 (pL) (pN) (pa) (pb) (pc) (pe) zSI.rf (fun _ _ => rfl) (by first | assumption | omega | decide) (by first | assumption | omega | decide) hpM hpa hpb hpc hpe (by
            exact hpq) (by
            omega) (Nat.lt_succ_self _)).more (zfa1 rfl (zfa1 rfl (zfa1 rfl (zfa1 rfl (zfa1 rfl (zfa1 rfl (zfa1 rfl (zfa1 rfl (zfa1 rfl (zfa1 rfl (zfa0)))))))))))
  have hl127 : (0 : Int32).toInt = 0 := by decide
  have hz128 : ((0 : Int32).toNatClampNeg : Int) = 0 := by decide
  have hb129 := hR_m.si (hsi8.tr hsi35)
  obtain ⟨f130, hb131⟩ := hb129.ia_96
  obtain ⟨f132, hb133⟩ := hb129.ia_97
  obtain ⟨f134, hb135⟩ := hb129.ia_98
  obtain ⟨f136, hb137⟩ := hb129.ia_99
  exact (hL41 _ w35 0 (0) (r32) (f130) (f132) (f134) (f136) zSI.rf (fun _ _ => rfl) (by first | assumption | omega | decide) (by first | assumption | omega | decide) hc35 hb131 hb133 hb135 hb137 (by
        exact ⟨⟨hr32.1, hN0⟩, zQs_0 _ _ _⟩) (by
        have hl9 : (0 : Int32).toInt = 0 := by decide
        omega) (Nat.lt_succ_self _)).more (zfa1 rfl (zfa1 rfl (zfa1 rfl (zfa1 rfl (zfa1 rfl (zfa1 rfl (zfa1 rfl (zfa1 rfl (zfa0)))))))))
