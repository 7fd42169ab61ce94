theorem zx_X16_numberZ_0 {m t : Nat} (h0 : (m + 83 ≤ t ∧ t + 9 ≤ m + 92) ∨ (m + 6316 ≤ t ∧ t + 9 ≤ m + 7594)) : t < m ∨ m + 1 ≤ t := by omega
theorem zx_X16_numberZ_1 {G3_0 m t : Nat} (h0 : (m + 83 ≤ t ∧ t + 9 ≤ m + 92) ∨ (m + 6316 ≤ t ∧ t + 9 ≤ m + 7594)) (h1 : G3_0 + 2 ≤ 44) : t < m + 596 + 130 * G3_0 ∨ m + 596 + 130 * G3_0 + 130 ≤ t := by omega
theorem zx_X16_numberZ_2 {G3_0 G3_1 m t : Nat} (h0 : (m + 83 ≤ t ∧ t + 9 ≤ m + 92) ∨ (m + 6316 ≤ t ∧ t + 9 ≤ m + 7594)) (h1 : G3_1 = G3_0 + 1) (h2 : G3_0 + 2 ≤ 44) : t < m + 596 + 130 * G3_1 ∨ m + 596 + 130 * G3_1 + 130 ≤ t := by omega
theorem zx_X16_numberZ_3 {G3_0 m x : Nat} (h0 : m + 596 + 130 * G3_0 ≤ x) (h1 : x < m + 596 + 130 * G3_0 + 130) (h2 : G3_0 + 2 ≤ 44) : x < m ∨ m + 1 ≤ x := by omega
theorem zx_X16_numberZ_4 {G3_0 G3_1 m x : Nat} (h0 : m + 596 + 130 * G3_0 ≤ x) (h1 : x < m + 596 + 130 * G3_0 + 130) (h2 : G3_1 = G3_0 + 1) (h3 : G3_0 + 2 ≤ 44) : x < m + 596 + 130 * G3_1 ∨ m + 596 + 130 * G3_1 + 130 ≤ x := by omega
theorem zx_X16_numberZ_5 {G3_0 m t x : Nat} (h0 : m + 596 + 130 * G3_0 ≤ x) (h1 : x < m + 596 + 130 * G3_0 + 130) (h2 : (m + 83 ≤ t ∧ t + 9 ≤ m + 92) ∨ (m + 6316 ≤ t ∧ t + 9 ≤ m + 7594)) (h3 : G3_0 + 2 ≤ 44) : x < t ∨ t + 1 ≤ x := by omega
theorem zx_X16_numberZ_6 {G3_0 G3_1 m t x : Nat} (h0 : m + 596 + 130 * G3_1 ≤ x) (h1 : x < m + 596 + 130 * G3_1 + 130) (h2 : (m + 83 ≤ t ∧ t + 9 ≤ m + 92) ∨ (m + 6316 ≤ t ∧ t + 9 ≤ m + 7594)) (h3 : G3_1 = G3_0 + 1) (h4 : G3_0 + 2 ≤ 44) : x < t ∨ t + 1 ≤ x := by omega
theorem zx_X16_numberZ_7 {G3_0 G3_1 m x : Nat} (h0 : m + 596 + 130 * G3_1 ≤ x) (h1 : x < m + 596 + 130 * G3_1 + 130) (h2 : G3_1 = G3_0 + 1) (h3 : G3_0 + 2 ≤ 44) : x < m + 596 + 130 * G3_0 ∨ m + 596 + 130 * G3_0 + 130 ≤ x := by omega
theorem zx_X16_numberZ_8 {m t : Nat} (h0 : (m + 83 ≤ t ∧ t + 9 ≤ m + 92) ∨ (m + 6316 ≤ t ∧ t + 9 ≤ m + 7594)) : (t + 1) < m ∨ m + 1 ≤ (t + 1) := by omega
theorem zx_X16_numberZ_9 {G3_0 m t : Nat} (h0 : (m + 83 ≤ t ∧ t + 9 ≤ m + 92) ∨ (m + 6316 ≤ t ∧ t + 9 ≤ m + 7594)) (h1 : G3_0 + 2 ≤ 44) : (t + 1) < m + 596 + 130 * G3_0 ∨ m + 596 + 130 * G3_0 + 130 ≤ (t + 1) := by omega
theorem zx_X16_numberZ_10 {G3_0 G3_1 m t : Nat} (h0 : (m + 83 ≤ t ∧ t + 9 ≤ m + 92) ∨ (m + 6316 ≤ t ∧ t + 9 ≤ m + 7594)) (h1 : G3_1 = G3_0 + 1) (h2 : G3_0 + 2 ≤ 44) : (t + 1) < m + 596 + 130 * G3_1 ∨ m + 596 + 130 * G3_1 + 130 ≤ (t + 1) := by omega
theorem zx_X16_numberZ_11 {m t : Nat} (h0 : (m + 83 ≤ t ∧ t + 9 ≤ m + 92) ∨ (m + 6316 ≤ t ∧ t + 9 ≤ m + 7594)) : (t + 1) < t ∨ t + 1 ≤ (t + 1) := by omega
theorem zx_X16_numberZ_12 {m t : Nat} (h0 : (m + 83 ≤ t ∧ t + 9 ≤ m + 92) ∨ (m + 6316 ≤ t ∧ t + 9 ≤ m + 7594)) : (t + 2) < m ∨ m + 1 ≤ (t + 2) := by omega
theorem zx_X16_numberZ_13 {G3_0 m t : Nat} (h0 : (m + 83 ≤ t ∧ t + 9 ≤ m + 92) ∨ (m + 6316 ≤ t ∧ t + 9 ≤ m + 7594)) (h1 : G3_0 + 2 ≤ 44) : (t + 2) < m + 596 + 130 * G3_0 ∨ m + 596 + 130 * G3_0 + 130 ≤ (t + 2) := by omega
theorem zx_X16_numberZ_14 {G3_0 G3_1 m t : Nat} (h0 : (m + 83 ≤ t ∧ t + 9 ≤ m + 92) ∨ (m + 6316 ≤ t ∧ t + 9 ≤ m + 7594)) (h1 : G3_1 = G3_0 + 1) (h2 : G3_0 + 2 ≤ 44) : (t + 2) < m + 596 + 130 * G3_1 ∨ m + 596 + 130 * G3_1 + 130 ≤ (t + 2) := by omega
theorem zx_X16_numberZ_15 {m t : Nat} (h0 : (m + 83 ≤ t ∧ t + 9 ≤ m + 92) ∨ (m + 6316 ≤ t ∧ t + 9 ≤ m + 7594)) : (t + 2) < t ∨ t + 1 ≤ (t + 2) := by omega
theorem zx_X16_numberZ_16 {m t : Nat} (h0 : (m + 83 ≤ t ∧ t + 9 ≤ m + 92) ∨ (m + 6316 ≤ t ∧ t + 9 ≤ m + 7594)) : t < t + 1 ∨ t + 1 + 2 ≤ t := by omega
theorem zx_X16_numberZ_17 {m t : Nat} (h0 : (m + 83 ≤ t ∧ t + 9 ≤ m + 92) ∨ (m + 6316 ≤ t ∧ t + 9 ≤ m + 7594)) : (t + 3) < m ∨ m + 1 ≤ (t + 3) := by omega
theorem zx_X16_numberZ_18 {G3_0 m t : Nat} (h0 : (m + 83 ≤ t ∧ t + 9 ≤ m + 92) ∨ (m + 6316 ≤ t ∧ t + 9 ≤ m + 7594)) (h1 : G3_0 + 2 ≤ 44) : (t + 3) < m + 596 + 130 * G3_0 ∨ m + 596 + 130 * G3_0 + 130 ≤ (t + 3) := by omega
theorem zx_X16_numberZ_19 {G3_0 G3_1 m t : Nat} (h0 : (m + 83 ≤ t ∧ t + 9 ≤ m + 92) ∨ (m + 6316 ≤ t ∧ t + 9 ≤ m + 7594)) (h1 : G3_1 = G3_0 + 1) (h2 : G3_0 + 2 ≤ 44) : (t + 3) < m + 596 + 130 * G3_1 ∨ m + 596 + 130 * G3_1 + 130 ≤ (t + 3) := by omega
theorem zx_X16_numberZ_20 {m t : Nat} (h0 : (m + 83 ≤ t ∧ t + 9 ≤ m + 92) ∨ (m + 6316 ≤ t ∧ t + 9 ≤ m + 7594)) : (t + 3) < t ∨ t + 1 ≤ (t + 3) := by omega
theorem zx_X16_numberZ_21 {m t : Nat} (h0 : (m + 83 ≤ t ∧ t + 9 ≤ m + 92) ∨ (m + 6316 ≤ t ∧ t + 9 ≤ m + 7594)) : (t + 3) < t + 1 ∨ t + 1 + 2 ≤ (t + 3) := by omega
theorem zx_X16_numberZ_22 {m t : Nat} (h0 : (m + 83 ≤ t ∧ t + 9 ≤ m + 92) ∨ (m + 6316 ≤ t ∧ t + 9 ≤ m + 7594)) : (t + 4) < m ∨ m + 1 ≤ (t + 4) := by omega
theorem zx_X16_numberZ_23 {G3_0 m t : Nat} (h0 : (m + 83 ≤ t ∧ t + 9 ≤ m + 92) ∨ (m + 6316 ≤ t ∧ t + 9 ≤ m + 7594)) (h1 : G3_0 + 2 ≤ 44) : (t + 4) < m + 596 + 130 * G3_0 ∨ m + 596 + 130 * G3_0 + 130 ≤ (t + 4) := by omega
theorem zx_X16_numberZ_24 {G3_0 G3_1 m t : Nat} (h0 : (m + 83 ≤ t ∧ t + 9 ≤ m + 92) ∨ (m + 6316 ≤ t ∧ t + 9 ≤ m + 7594)) (h1 : G3_1 = G3_0 + 1) (h2 : G3_0 + 2 ≤ 44) : (t + 4) < m + 596 + 130 * G3_1 ∨ m + 596 + 130 * G3_1 + 130 ≤ (t + 4) := by omega
theorem zx_X16_numberZ_25 {m t : Nat} (h0 : (m + 83 ≤ t ∧ t + 9 ≤ m + 92) ∨ (m + 6316 ≤ t ∧ t + 9 ≤ m + 7594)) : (t + 4) < t ∨ t + 1 ≤ (t + 4) := by omega
theorem zx_X16_numberZ_26 {m t : Nat} (h0 : (m + 83 ≤ t ∧ t + 9 ≤ m + 92) ∨ (m + 6316 ≤ t ∧ t + 9 ≤ m + 7594)) : (t + 4) < t + 1 ∨ t + 1 + 2 ≤ (t + 4) := by omega
theorem zx_X16_numberZ_27 {m t : Nat} (h0 : (m + 83 ≤ t ∧ t + 9 ≤ m + 92) ∨ (m + 6316 ≤ t ∧ t + 9 ≤ m + 7594)) : (t + 5) < m ∨ m + 1 ≤ (t + 5) := by omega
theorem zx_X16_numberZ_28 {G3_0 m t : Nat} (h0 : (m + 83 ≤ t ∧ t + 9 ≤ m + 92) ∨ (m + 6316 ≤ t ∧ t + 9 ≤ m + 7594)) (h1 : G3_0 + 2 ≤ 44) : (t + 5) < m + 596 + 130 * G3_0 ∨ m + 596 + 130 * G3_0 + 130 ≤ (t + 5) := by omega
theorem zx_X16_numberZ_29 {G3_0 G3_1 m t : Nat} (h0 : (m + 83 ≤ t ∧ t + 9 ≤ m + 92) ∨ (m + 6316 ≤ t ∧ t + 9 ≤ m + 7594)) (h1 : G3_1 = G3_0 + 1) (h2 : G3_0 + 2 ≤ 44) : (t + 5) < m + 596 + 130 * G3_1 ∨ m + 596 + 130 * G3_1 + 130 ≤ (t + 5) := by omega
theorem zx_X16_numberZ_30 {m t : Nat} (h0 : (m + 83 ≤ t ∧ t + 9 ≤ m + 92) ∨ (m + 6316 ≤ t ∧ t + 9 ≤ m + 7594)) : (t + 5) < t ∨ t + 1 ≤ (t + 5) := by omega
theorem zx_X16_numberZ_31 {m t : Nat} (h0 : (m + 83 ≤ t ∧ t + 9 ≤ m + 92) ∨ (m + 6316 ≤ t ∧ t + 9 ≤ m + 7594)) : (t + 5) < t + 1 ∨ t + 1 + 2 ≤ (t + 5) := by omega
theorem zx_X16_numberZ_32 {m t : Nat} (h0 : (m + 83 ≤ t ∧ t + 9 ≤ m + 92) ∨ (m + 6316 ≤ t ∧ t + 9 ≤ m + 7594)) : (t + 6) < m ∨ m + 1 ≤ (t + 6) := by omega
theorem zx_X16_numberZ_33 {G3_0 m t : Nat} (h0 : (m + 83 ≤ t ∧ t + 9 ≤ m + 92) ∨ (m + 6316 ≤ t ∧ t + 9 ≤ m + 7594)) (h1 : G3_0 + 2 ≤ 44) : (t + 6) < m + 596 + 130 * G3_0 ∨ m + 596 + 130 * G3_0 + 130 ≤ (t + 6) := by omega
theorem zx_X16_numberZ_34 {G3_0 G3_1 m t : Nat} (h0 : (m + 83 ≤ t ∧ t + 9 ≤ m + 92) ∨ (m + 6316 ≤ t ∧ t + 9 ≤ m + 7594)) (h1 : G3_1 = G3_0 + 1) (h2 : G3_0 + 2 ≤ 44) : (t + 6) < m + 596 + 130 * G3_1 ∨ m + 596 + 130 * G3_1 + 130 ≤ (t + 6) := by omega
theorem zx_X16_numberZ_35 {m t : Nat} (h0 : (m + 83 ≤ t ∧ t + 9 ≤ m + 92) ∨ (m + 6316 ≤ t ∧ t + 9 ≤ m + 7594)) : (t + 6) < t ∨ t + 1 ≤ (t + 6) := by omega
theorem zx_X16_numberZ_36 {m t : Nat} (h0 : (m + 83 ≤ t ∧ t + 9 ≤ m + 92) ∨ (m + 6316 ≤ t ∧ t + 9 ≤ m + 7594)) : (t + 6) < t + 1 ∨ t + 1 + 2 ≤ (t + 6) := by omega
theorem zx_X16_numberZ_37 {m t : Nat} (h0 : (m + 83 ≤ t ∧ t + 9 ≤ m + 92) ∨ (m + 6316 ≤ t ∧ t + 9 ≤ m + 7594)) : (t + 7) < m ∨ m + 1 ≤ (t + 7) := by omega
theorem zx_X16_numberZ_38 {G3_0 m t : Nat} (h0 : (m + 83 ≤ t ∧ t + 9 ≤ m + 92) ∨ (m + 6316 ≤ t ∧ t + 9 ≤ m + 7594)) (h1 : G3_0 + 2 ≤ 44) : (t + 7) < m + 596 + 130 * G3_0 ∨ m + 596 + 130 * G3_0 + 130 ≤ (t + 7) := by omega
theorem zx_X16_numberZ_39 {G3_0 G3_1 m t : Nat} (h0 : (m + 83 ≤ t ∧ t + 9 ≤ m + 92) ∨ (m + 6316 ≤ t ∧ t + 9 ≤ m + 7594)) (h1 : G3_1 = G3_0 + 1) (h2 : G3_0 + 2 ≤ 44) : (t + 7) < m + 596 + 130 * G3_1 ∨ m + 596 + 130 * G3_1 + 130 ≤ (t + 7) := by omega
theorem zx_X16_numberZ_40 {m t : Nat} (h0 : (m + 83 ≤ t ∧ t + 9 ≤ m + 92) ∨ (m + 6316 ≤ t ∧ t + 9 ≤ m + 7594)) : (t + 7) < t ∨ t + 1 ≤ (t + 7) := by omega
theorem zx_X16_numberZ_41 {m t : Nat} (h0 : (m + 83 ≤ t ∧ t + 9 ≤ m + 92) ∨ (m + 6316 ≤ t ∧ t + 9 ≤ m + 7594)) : (t + 7) < t + 1 ∨ t + 1 + 2 ≤ (t + 7) := by omega
theorem zx_X16_numberZ_42 {m t : Nat} (h0 : (m + 83 ≤ t ∧ t + 9 ≤ m + 92) ∨ (m + 6316 ≤ t ∧ t + 9 ≤ m + 7594)) : (t + 8) < m ∨ m + 1 ≤ (t + 8) := by omega
theorem zx_X16_numberZ_43 {G3_0 m t : Nat} (h0 : (m + 83 ≤ t ∧ t + 9 ≤ m + 92) ∨ (m + 6316 ≤ t ∧ t + 9 ≤ m + 7594)) (h1 : G3_0 + 2 ≤ 44) : (t + 8) < m + 596 + 130 * G3_0 ∨ m + 596 + 130 * G3_0 + 130 ≤ (t + 8) := by omega
theorem zx_X16_numberZ_44 {G3_0 G3_1 m t : Nat} (h0 : (m + 83 ≤ t ∧ t + 9 ≤ m + 92) ∨ (m + 6316 ≤ t ∧ t + 9 ≤ m + 7594)) (h1 : G3_1 = G3_0 + 1) (h2 : G3_0 + 2 ≤ 44) : (t + 8) < m + 596 + 130 * G3_1 ∨ m + 596 + 130 * G3_1 + 130 ≤ (t + 8) := by omega
theorem zx_X16_numberZ_45 {m t : Nat} (h0 : (m + 83 ≤ t ∧ t + 9 ≤ m + 92) ∨ (m + 6316 ≤ t ∧ t + 9 ≤ m + 7594)) : (t + 8) < t ∨ t + 1 ≤ (t + 8) := by omega
theorem zx_X16_numberZ_46 {m t : Nat} (h0 : (m + 83 ≤ t ∧ t + 9 ≤ m + 92) ∨ (m + 6316 ≤ t ∧ t + 9 ≤ m + 7594)) : (t + 8) < t + 1 ∨ t + 1 + 2 ≤ (t + 8) := by omega
theorem zx_X16_numberZ_47 {m t : Nat} (h0 : (m + 83 ≤ t ∧ t + 9 ≤ m + 92) ∨ (m + 6316 ≤ t ∧ t + 9 ≤ m + 7594)) : m < t ∨ t + 1 ≤ m := by omega
theorem zx_X16_numberZ_48 {G3_0 m : Nat} (h0 : G3_0 + 2 ≤ 44) : m < m + 596 + 130 * G3_0 ∨ m + 596 + 130 * G3_0 + 130 ≤ m := by omega
theorem zx_X16_numberZ_49 {G3_0 G3_1 m : Nat} (h0 : G3_1 = G3_0 + 1) (h1 : G3_0 + 2 ≤ 44) : m < m + 596 + 130 * G3_1 ∨ m + 596 + 130 * G3_1 + 130 ≤ m := by omega
theorem zx_X16_numberZ_50 {m t : Nat} (h0 : (m + 83 ≤ t ∧ t + 9 ≤ m + 92) ∨ (m + 6316 ≤ t ∧ t + 9 ≤ m + 7594)) : m < t + 1 ∨ t + 1 + 2 ≤ m := by omega
theorem zx_X16_numberZ_51 {m x : Nat} (h0 : x ≠ m) : x < m ∨ m + 1 ≤ x := by omega
theorem zx_X16_numberZ_52 {G3_0 m x : Nat} (h0 : x < m + 596 + 130 * G3_0 ∨ m + 596 + 130 * G3_0 + (5720 - 130 * G3_0) ≤ x) (h1 : G3_0 + 2 ≤ 44) : x < m + 596 + 130 * G3_0 ∨ m + 596 + 130 * G3_0 + 130 ≤ x := by omega
theorem zx_X16_numberZ_53 {G3_0 G3_1 m x : Nat} (h0 : x < m + 596 + 130 * G3_0 ∨ m + 596 + 130 * G3_0 + (5720 - 130 * G3_0) ≤ x) (h1 : G3_1 = G3_0 + 1) (h2 : G3_0 + 2 ≤ 44) : x < m + 596 + 130 * G3_1 ∨ m + 596 + 130 * G3_1 + 130 ≤ x := by omega
theorem zx_X16_numberZ_54 {m t x : Nat} (h0 : x < t ∨ t + 9 ≤ x) (h1 : (m + 83 ≤ t ∧ t + 9 ≤ m + 92) ∨ (m + 6316 ≤ t ∧ t + 9 ≤ m + 7594)) : x < t ∨ t + 1 ≤ x := by omega
theorem zx_X16_numberZ_55 {m t x : Nat} (h0 : x < t ∨ t + 9 ≤ x) (h1 : (m + 83 ≤ t ∧ t + 9 ≤ m + 92) ∨ (m + 6316 ≤ t ∧ t + 9 ≤ m + 7594)) : x < t + 1 ∨ t + 1 + 2 ≤ x := by omega
theorem zx_X16_numberZ_56 {m t x : Nat} (h0 : t ≤ x) (h1 : x < t + 9) (h2 : (m + 83 ≤ t ∧ t + 9 ≤ m + 92) ∨ (m + 6316 ≤ t ∧ t + 9 ≤ m + 7594)) : x ≠ m := by omega
theorem zx_X16_numberZ_57 {m t : Nat} (h0 : (m + 83 ≤ t ∧ t + 9 ≤ m + 92) ∨ (m + 6316 ≤ t ∧ t + 9 ≤ m + 7594)) : (t + 1) ≠ m := by omega
set_option maxHeartbeats 8000000 in
set_option maxRecDepth 100000 in
theorem c_X16_numberZ {w : zM} {g : Nat → Int32} {r : Nat → Value} {k9 : Int32} {g3 : Int32} (m : Nat) (t : Nat) (v : Int32) (hm : w m = some (.inl (15, zMo m g r))) (hR_m : zR m w) (hTi_t : zTi w t k9) (hbt : 0 ≤ g3.toInt ∧ g3.toInt + 2 ≤ 44) (h_v : zr1 v) (hmt : (m + 83 ≤ t ∧ t + 9 ≤ m + 92) ∨ (m + 6316 ≤ t ∧ t + 9 ≤ m + 7594)) (hg3 : g 3 = g3) : zCon 4 zq_X16_number [.ref m, .ref t, .int v] w (fun v9 w9' => zSI w w9' ∧ (∀ x, (x < t ∨ t + 9 ≤ x) ∧ (x < m + 596 + 130 * g3.toNatClampNeg ∨ m + 596 + 130 * g3.toNatClampNeg + (5720 - 130 * g3.toNatClampNeg) ≤ x) → w9' x = w x) ∧ zTi w9' t 1 ∧ (v ≠ 0 → zNz w9' t) ∧ v9 = none) := by
  subst hg3
  intro d sz hd
  obtain ⟨d, rfl⟩ : ∃ d9, d = d9 + 1 := ⟨d - 1, by omega⟩
  generalize hPost : (fun (r9' : Option (Option Value)) (w9' : zM) (z9 : Nat) => z9 = sz ∧ ∃ v9, r9' = some v9 ∧ (zSI w w9' ∧ (∀ x, (x < t ∨ t + 9 ≤ x) ∧ (x < m + 596 + 130 * (g 3).toNatClampNeg ∨ m + 596 + 130 * (g 3).toNatClampNeg + (5720 - 130 * (g 3).toNatClampNeg) ≤ x) → w9' x = w x) ∧ zTi w9' t 1 ∧ (v ≠ 0 → zNz w9' t) ∧ v9 = none)) = Post
  show zP (d + 1) zq_X16_number 0 [(0, .ref m), (1, .ref t), (2, .int v)] [] w sz 0 0 Post
  have k1 := zrng v
  have k2 := zrng (g 3)
  have hz3 : ((g 3).toNatClampNeg : Int) = (g 3).toInt := znat (by first | omega | decide)
  have hgb3 : (g 3).toNatClampNeg + 2 ≤ 44 := by omega
  obtain ⟨g1, fn1, fd1, fa1, fb1, fc1, fe1, fr1, fu1, hT1, hAn1, hAd1, hAa1, hAb1, hAc1, hAe1, hAr1, hAu1, hK1⟩ := id hTi_t
  obtain ⟨hK10, hKn1, hKd1, hKx1, hKm1, hKl1, hKr1, hKu1, hKk1⟩ := id hK1
  refine zp_seg (pc' := 1) (lv' := [(0, .ref m), (1, .ref t), (2, .int v)]) (st' := [.ref m]) [(0, .aload_n 0)] (by decide +kernel) rfl ?_
  refine zr_get (idx := 90) (k := 3) (v := .int (g 3)) (by decide +kernel) (by decide +kernel) hm rfl ?_
  refine zp_seg (pc' := 6) (lv' := [(3, .int (g 3)), (0, .ref m), (1, .ref t), (2, .int v)]) (st' := [.ref m]) [(4, .istore_n 3), (5, .aload_n 0)] (by decide +kernel) rfl ?_
  refine zr_callV (idx := 140) (j := 274) (by decide +kernel) (by decide +kernel) (show zMe 274 = some zq_X16_newB from rfl) rfl rfl (Nat.le_of_ble_eq_true rfl) rfl rfl hm (Nat.le_of_ble_eq_true rfl) (Nat.le_of_ble_eq_true rfl) (c_X16_newB (w := w) (g3 := (g 3)) m hm hR_m (by first | omega | decide | assumption | exact zr1_1 | exact zr1_0 | fail "num") rfl) (by omega) (fun v6 w6 hp6 => ?_)
  obtain ⟨hsi6, heq6, hp6_0, hp6_1, rfl⟩ := hp6
  have hM6 : w6 m = some (.inl (15, zMo m (zs g 3 (g 3 + 1)) r)) := hp6_0
  show zP _ _ _ _ [.ref (m + 596 + 130 * (g 3).toNatClampNeg)] _ _ _ _ _
  refine zp_seg (pc' := 12) (lv' := [(4, .ref (m + 596 + 130 * (g 3).toNatClampNeg)), (3, .int (g 3)), (0, .ref m), (1, .ref t), (2, .int v)]) (st' := [.ref m]) [(9, .astore 4), (11, .aload_n 0)] (by decide +kernel) rfl ?_
  have k5 := zaddC (g 3) 1 (n := 1) (by decide) (by omega) (by omega)
  have hz6 : ((g 3 + 1).toNatClampNeg : Int) = (g 3 + 1).toInt := znat (by first | omega | decide)
  have hgn3_1 : (g 3 + 1).toNatClampNeg = (g 3).toNatClampNeg + 1 := by omega
  have hb7 := hR_m.si hsi6
  refine zr_callV (idx := 140) (j := 274) (by decide +kernel) (by decide +kernel) (show zMe 274 = some zq_X16_newB from rfl) rfl rfl (Nat.le_of_ble_eq_true rfl) rfl rfl hM6 (Nat.le_of_ble_eq_true rfl) (Nat.le_of_ble_eq_true rfl) (c_X16_newB (w := w6) (g3 := (g 3 + 1)) m hM6 hb7 (by first | omega | decide | assumption | exact zr1_1 | exact zr1_0 | fail "num") rfl) (by omega) (fun v12 w12 hp12 => ?_)
  obtain ⟨hsi12, heq12, hp12_0, hp12_1, rfl⟩ := hp12
  have hM12 : w12 m = some (.inl (15, zMo m (zs g 3 (g 3 + 1 + 1)) r)) := hp12_0
  show zP _ _ _ _ [.ref (m + 596 + 130 * (g 3 + 1).toNatClampNeg)] _ _ _ _ _
  refine zp_seg (pc' := 18) (lv' := [(5, .ref (m + 596 + 130 * (g 3 + 1).toNatClampNeg)), (4, .ref (m + 596 + 130 * (g 3).toNatClampNeg)), (3, .int (g 3)), (0, .ref m), (1, .ref t), (2, .int v)]) (st' := [.ref t]) [(15, .astore 5), (17, .aload_n 1)] (by decide +kernel) rfl ?_
  have hb8 : w12 t = some (.inl (13, zTo t g1)) := ((heq12 t ⟨(zx_X16_numberZ_0 hmt), (zx_X16_numberZ_2 hmt hgn3_1 hgb3)⟩).trans (heq6 t ⟨(zx_X16_numberZ_0 hmt), (zx_X16_numberZ_1 hmt hgb3)⟩)).trans hT1
  refine zr_callS (idx := 257) (j := 304) (by decide +kernel) (by decide +kernel) (by decide) (show zMe 304 = some zq_X16_plain from rfl) rfl rfl (Nat.le_of_ble_eq_true rfl) rfl rfl (Nat.le_of_ble_eq_true rfl) (Nat.le_of_ble_eq_true rfl) (c_X16_plain (w := w12) t hb8) (by omega) (fun v18 w18 hp18 => ?_)
  obtain ⟨hsi18, heq18, hp18_0, rfl⟩ := hp18
  have hT18 : w18 t = some (.inl (13, zTo t (zs (zs (zs (zs g1 0 1) 3 1) 4 1) 5 0))) := hp18_0
  show zP _ _ _ _ [] _ _ _ _ _
  refine zp_seg (pc' := 24) (lv' := [(5, .ref (m + 596 + 130 * (g 3 + 1).toNatClampNeg)), (4, .ref (m + 596 + 130 * (g 3).toNatClampNeg)), (3, .int (g 3)), (0, .ref m), (1, .ref t), (2, .int v)]) (st' := [.int v, .ref (m + 596 + 130 * (g 3).toNatClampNeg)]) [(21, .aload 4), (23, .iload_n 2)] (by decide +kernel) rfl ?_
  have hb9 : zB w18 (m + 596 + 130 * (g 3).toNatClampNeg) zbZ := hp6_1.ag (fun x hx1 hx2 => ((heq18 x (zx_X16_numberZ_5 hx1 hx2 hmt hgb3)).trans (heq12 x ⟨(zx_X16_numberZ_3 hx1 hx2 hgb3), (zx_X16_numberZ_4 hx1 hx2 hgn3_1 hgb3)⟩)))
  have ho24_b := zB.o hb9
  obtain ⟨n10, hb11, hb12, hb13, hb14, -⟩ := id hb9
  have kn10 := zrng n10
  refine zr_callV (idx := 158) (j := 245) (by decide +kernel) (by decide +kernel) (show zMe 245 = some zq_X12_number from rfl) rfl rfl (Nat.le_of_ble_eq_true rfl) rfl rfl hb11 (Nat.le_of_ble_eq_true rfl) (Nat.le_of_ble_eq_true rfl) (c_X12_number (w := w18) (m + 596 + 130 * (g 3).toNatClampNeg) v ho24_b (by first | omega | decide | assumption | exact zr1_1 | exact zr1_0 | fail "num")) (by omega) (fun v24 w24 hp24 => ?_)
  obtain ⟨hsi24, heq24, hp24_0, rfl⟩ := hp24
  show zP _ _ _ _ [] _ _ _ _ _
  refine zp_seg (pc' := 30) (lv' := [(5, .ref (m + 596 + 130 * (g 3 + 1).toNatClampNeg)), (4, .ref (m + 596 + 130 * (g 3).toNatClampNeg)), (3, .int (g 3)), (0, .ref m), (1, .ref t), (2, .int v)]) (st' := [.int 1, .ref (m + 596 + 130 * (g 3 + 1).toNatClampNeg)]) [(27, .aload 5), (29, .iconst 1)] (by decide +kernel) rfl ?_
  have hb15 : zB w24 (m + 596 + 130 * (g 3 + 1).toNatClampNeg) zbZ := hp12_1.ag (fun x hx1 hx2 => ((heq24 x (zx_X16_numberZ_7 hx1 hx2 hgn3_1 hgb3)).trans (heq18 x (zx_X16_numberZ_6 hx1 hx2 hmt hgn3_1 hgb3))))
  have ho30_b := zB.o hb15
  obtain ⟨n16, hb17, hb18, hb19, hb20, -⟩ := id hb15
  have kn16 := zrng n16
  refine zr_callV (idx := 158) (j := 245) (by decide +kernel) (by decide +kernel) (show zMe 245 = some zq_X12_number from rfl) rfl rfl (Nat.le_of_ble_eq_true rfl) rfl rfl hb17 (Nat.le_of_ble_eq_true rfl) (Nat.le_of_ble_eq_true rfl) (c_X12_number (w := w24) (m + 596 + 130 * (g 3 + 1).toNatClampNeg) 1 ho30_b (by first | omega | decide | assumption | exact zr1_1 | exact zr1_0 | fail "num")) (by omega) (fun v30 w30 hp30 => ?_)
  obtain ⟨hsi30, heq30, hp30_0, rfl⟩ := hp30
  show zP _ _ _ _ [] _ _ _ _ _
  refine zp_seg (pc' := 38) (lv' := [(5, .ref (m + 596 + 130 * (g 3 + 1).toNatClampNeg)), (4, .ref (m + 596 + 130 * (g 3).toNatClampNeg)), (3, .int (g 3)), (0, .ref m), (1, .ref t), (2, .int v)]) (st' := [.ref (m + 596 + 130 * (g 3 + 1).toNatClampNeg), .ref (m + 596 + 130 * (g 3).toNatClampNeg), .ref t]) [(33, .aload_n 1), (34, .aload 4), (36, .aload 5)] (by decide +kernel) rfl ?_
  have hb21 : w30 t = some (.inl (13, zTo t (zs (zs (zs (zs g1 0 1) 3 1) 4 1) 5 0))) := ((heq30 t (zx_X16_numberZ_2 hmt hgn3_1 hgb3)).trans (heq24 t (zx_X16_numberZ_1 hmt hgb3))).trans hT18
  have hb22 : w30 (t + 1) = some (.inr (0, 325, .inl fn1)) := ((heq30 (t + 1) (zx_X16_numberZ_10 hmt hgn3_1 hgb3)).trans ((heq24 (t + 1) (zx_X16_numberZ_9 hmt hgb3)).trans ((heq18 (t + 1) (zx_X16_numberZ_11 hmt)).trans ((heq12 (t + 1) ⟨(zx_X16_numberZ_8 hmt), (zx_X16_numberZ_10 hmt hgn3_1 hgb3)⟩).trans (heq6 (t + 1) ⟨(zx_X16_numberZ_8 hmt), (zx_X16_numberZ_9 hmt hgb3)⟩))))).trans hAn1
  have hb23 : w30 (t + 2) = some (.inr (0, 325, .inl fd1)) := ((heq30 (t + 2) (zx_X16_numberZ_14 hmt hgn3_1 hgb3)).trans ((heq24 (t + 2) (zx_X16_numberZ_13 hmt hgb3)).trans ((heq18 (t + 2) (zx_X16_numberZ_15 hmt)).trans ((heq12 (t + 2) ⟨(zx_X16_numberZ_12 hmt), (zx_X16_numberZ_14 hmt hgn3_1 hgb3)⟩).trans (heq6 (t + 2) ⟨(zx_X16_numberZ_12 hmt), (zx_X16_numberZ_13 hmt hgb3)⟩))))).trans hAd1
  have hb24 : zB w30 (m + 596 + 130 * (g 3).toNatClampNeg) (zbC (zaC (zf v))) := hp24_0.ag (fun x hx1 hx2 => (heq30 x (zx_X16_numberZ_4 hx1 hx2 hgn3_1 hgb3)))
  refine zr_callS (idx := 261) (j := 303) (by decide +kernel) (by decide +kernel) (by decide) (show zMe 303 = some zq_X16_put from rfl) rfl rfl (Nat.le_of_ble_eq_true rfl) rfl rfl (Nat.le_of_ble_eq_true rfl) (Nat.le_of_ble_eq_true rfl) (c_X16_put (w := w30) t (m + 596 + 130 * (g 3).toNatClampNeg) (m + 596 + 130 * (g 3 + 1).toNatClampNeg) hb21 hb22 hb23 hb24 hp30_0 (by first | omega | decide | assumption | exact zr1_1 | exact zr1_0 | fail "num") (by first | omega | decide | assumption | exact zr1_1 | exact zr1_0 | fail "num")) (by omega) (fun v38 w38 hp38 => ?_)
  obtain ⟨Fn_38, Fd_38, hsi38, heq38, hp38_0, hp38_1, r38, rfl, hrb38, hr38⟩ := hp38
  have kr38 := zrng r38
  show zP _ _ _ _ [.int r38] _ _ _ _ _
  refine zp_seg (pc' := 43) (lv' := [(6, .int r38), (5, .ref (m + 596 + 130 * (g 3 + 1).toNatClampNeg)), (4, .ref (m + 596 + 130 * (g 3).toNatClampNeg)), (3, .int (g 3)), (0, .ref m), (1, .ref t), (2, .int v)]) (st' := []) [(41, .istore 6)] (by decide +kernel) rfl ?_
  have hrr9 := hr38.2.1 (hr38.2.2 ⟨⟨zrw_1le _, zdn_1le _⟩, ⟨zrw_1le _, zdn_1le _⟩⟩)
  have hb25 : w38 t = some (.inl (13, zTo t (zs (zs (zs (zs g1 0 1) 3 1) 4 1) 5 0))) := (heq38 t (zx_X16_numberZ_16 hmt)).trans hb21
  have hb26 : w38 (t + 3) = some (.inr (0, 13, .inl fa1)) := ((heq38 (t + 3) (zx_X16_numberZ_21 hmt)).trans ((heq30 (t + 3) (zx_X16_numberZ_19 hmt hgn3_1 hgb3)).trans ((heq24 (t + 3) (zx_X16_numberZ_18 hmt hgb3)).trans ((heq18 (t + 3) (zx_X16_numberZ_20 hmt)).trans ((heq12 (t + 3) ⟨(zx_X16_numberZ_17 hmt), (zx_X16_numberZ_19 hmt hgn3_1 hgb3)⟩).trans (heq6 (t + 3) ⟨(zx_X16_numberZ_17 hmt), (zx_X16_numberZ_18 hmt hgb3)⟩)))))).trans hAa1
  have hb27 : w38 (t + 4) = some (.inr (0, 13, .inl fb1)) := ((heq38 (t + 4) (zx_X16_numberZ_26 hmt)).trans ((heq30 (t + 4) (zx_X16_numberZ_24 hmt hgn3_1 hgb3)).trans ((heq24 (t + 4) (zx_X16_numberZ_23 hmt hgb3)).trans ((heq18 (t + 4) (zx_X16_numberZ_25 hmt)).trans ((heq12 (t + 4) ⟨(zx_X16_numberZ_22 hmt), (zx_X16_numberZ_24 hmt hgn3_1 hgb3)⟩).trans (heq6 (t + 4) ⟨(zx_X16_numberZ_22 hmt), (zx_X16_numberZ_23 hmt hgb3)⟩)))))).trans hAb1
  have hb28 : w38 (t + 5) = some (.inr (0, 13, .inl fc1)) := ((heq38 (t + 5) (zx_X16_numberZ_31 hmt)).trans ((heq30 (t + 5) (zx_X16_numberZ_29 hmt hgn3_1 hgb3)).trans ((heq24 (t + 5) (zx_X16_numberZ_28 hmt hgb3)).trans ((heq18 (t + 5) (zx_X16_numberZ_30 hmt)).trans ((heq12 (t + 5) ⟨(zx_X16_numberZ_27 hmt), (zx_X16_numberZ_29 hmt hgn3_1 hgb3)⟩).trans (heq6 (t + 5) ⟨(zx_X16_numberZ_27 hmt), (zx_X16_numberZ_28 hmt hgb3)⟩)))))).trans hAc1
  have hb29 : w38 (t + 6) = some (.inr (0, 13, .inl fe1)) := ((heq38 (t + 6) (zx_X16_numberZ_36 hmt)).trans ((heq30 (t + 6) (zx_X16_numberZ_34 hmt hgn3_1 hgb3)).trans ((heq24 (t + 6) (zx_X16_numberZ_33 hmt hgb3)).trans ((heq18 (t + 6) (zx_X16_numberZ_35 hmt)).trans ((heq12 (t + 6) ⟨(zx_X16_numberZ_32 hmt), (zx_X16_numberZ_34 hmt hgn3_1 hgb3)⟩).trans (heq6 (t + 6) ⟨(zx_X16_numberZ_32 hmt), (zx_X16_numberZ_33 hmt hgb3)⟩)))))).trans hAe1
  have hb30 : w38 (t + 7) = some (.inr (0, 175, .inl fr1)) := ((heq38 (t + 7) (zx_X16_numberZ_41 hmt)).trans ((heq30 (t + 7) (zx_X16_numberZ_39 hmt hgn3_1 hgb3)).trans ((heq24 (t + 7) (zx_X16_numberZ_38 hmt hgb3)).trans ((heq18 (t + 7) (zx_X16_numberZ_40 hmt)).trans ((heq12 (t + 7) ⟨(zx_X16_numberZ_37 hmt), (zx_X16_numberZ_39 hmt hgn3_1 hgb3)⟩).trans (heq6 (t + 7) ⟨(zx_X16_numberZ_37 hmt), (zx_X16_numberZ_38 hmt hgb3)⟩)))))).trans hAr1
  have hb31 : w38 (t + 8) = some (.inr (0, 361, .inl fu1)) := ((heq38 (t + 8) (zx_X16_numberZ_46 hmt)).trans ((heq30 (t + 8) (zx_X16_numberZ_44 hmt hgn3_1 hgb3)).trans ((heq24 (t + 8) (zx_X16_numberZ_43 hmt hgb3)).trans ((heq18 (t + 8) (zx_X16_numberZ_45 hmt)).trans ((heq12 (t + 8) ⟨(zx_X16_numberZ_42 hmt), (zx_X16_numberZ_44 hmt hgn3_1 hgb3)⟩).trans (heq6 (t + 8) ⟨(zx_X16_numberZ_42 hmt), (zx_X16_numberZ_43 hmt hgb3)⟩)))))).trans hAu1
  have hTi9 : zTi w38 (t) 1 := ⟨_, _, _, _, _, _, _, _, _, hb25, hp38_0, hp38_1, hb26, hb27, hb28, hb29, hb30, hb31, ⟨rfl, hrr9.1, hrr9.2.1, ⟨zr1_1, zr1_1⟩, ⟨show 0 ≤ (0 : Int32).toInt by decide, show (0 : Int32).toInt ≤ 13 by decide⟩, fun i hi => absurd hi (Nat.not_lt_zero _), hKr1, hKu1, zKk_12 (Or.inl rfl) (by rw [hrr9.2.2.2, zf_1, zC1_rw]; omega) (fun e => absurd e (by decide)) ⟨show (1 : Int32) ≠ 0 by decide, show (1 : Int32) ≠ 0 by decide⟩⟩⟩
  refine zp_seg (pc' := 45) (lv' := [(6, .int r38), (5, .ref (m + 596 + 130 * (g 3 + 1).toNatClampNeg)), (4, .ref (m + 596 + 130 * (g 3).toNatClampNeg)), (3, .int (g 3)), (0, .ref m), (1, .ref t), (2, .int v)]) (st' := [.int (g 3), .ref m]) [(43, .aload_n 0), (44, .iload_n 3)] (by decide +kernel) rfl ?_
  have hb32 : w38 m = some (.inl (15, zMo m (zs g 3 (g 3 + 1 + 1)) r)) := ((heq38 m (zx_X16_numberZ_50 hmt)).trans ((heq30 m (zx_X16_numberZ_49 hgn3_1 hgb3)).trans ((heq24 m (zx_X16_numberZ_48 hgb3)).trans (heq18 m (zx_X16_numberZ_47 hmt))))).trans hM12
  refine zr_put2 (idx := 90) (k := 3) (fs2 := zMo m g r) (by decide +kernel) (by decide +kernel) hb32 (Nat.le_of_ble_eq_true rfl) rfl rfl rfl ?_
  show zP (d + 1) zq_X16_number 48 [(6, .int r38), (5, .ref (m + 596 + 130 * (g 3 + 1).toNatClampNeg)), (4, .ref (m + 596 + 130 * (g 3).toNatClampNeg)), (3, .int (g 3)), (0, .ref m), (1, .ref t), (2, .int v)] [] (zup w38 m (.inl (15, zMo m g r))) sz 0 0 Post
  obtain ⟨w45, ew45⟩ : ∃ wz9, wz9 = zup w38 m (.inl (15, zMo m g r)) := ⟨_, rfl⟩
  have hsi45 : zSI w38 w45 := by rw [ew45]; exact zSI.setG hb32 _ _
  have heq45 : ∀ x, x ≠ m → w45 x = w38 x := fun x hx => by rw [ew45]; exact zup_n hx
  have hc45 : w45 m = some (.inl (15, zMo m g r)) := by rw [ew45]; exact zup_s
  rw [← ew45]
  clear ew45
  have hmend : w45 m = w m := by rw [hc45, hm]
  have hoffend : ∀ x, (x < t ∨ t + 9 ≤ x) ∧ (x < m + 596 + 130 * (g 3).toNatClampNeg ∨ m + 596 + 130 * (g 3).toNatClampNeg + (5720 - 130 * (g 3).toNatClampNeg) ≤ x) → w45 x = w x := fun x hx => by
      by_cases ex : x = m
      · rw [ex]; exact hmend
      · exact ((heq45 x ex).trans ((heq38 x (zx_X16_numberZ_55 hx.1 hmt)).trans ((heq30 x (zx_X16_numberZ_53 hx.2 hgn3_1 hgb3)).trans ((heq24 x (zx_X16_numberZ_52 hx.2 hgb3)).trans ((heq18 x (zx_X16_numberZ_54 hx.1 hmt)).trans ((heq12 x ⟨(zx_X16_numberZ_51 ex), (zx_X16_numberZ_53 hx.2 hgn3_1 hgb3)⟩).trans (heq6 x ⟨(zx_X16_numberZ_51 ex), (zx_X16_numberZ_52 hx.2 hgb3)⟩)))))))
  have hb33 : zTi w45 t 1 := hTi9.ag (fun x hx1 hx2 => (heq45 x (zx_X16_numberZ_56 hx1 hx2 hmt)))
  have hb34 : w45 (t + 1) = some (.inr (0, 325, .inl Fn_38)) := (heq45 (t + 1) (zx_X16_numberZ_57 hmt)).trans hp38_0
  refine zr_retV (by decide +kernel) rfl ?_
  rw [← hPost]; exact ⟨rfl, _, rfl, ((((((hsi6.tr hsi12).tr hsi18).tr hsi24).tr hsi30).tr hsi38).tr hsi45), hoffend, hb33, (by
        exact fun h9 => ⟨_, hb34, by rw [hrr9.2.2.1, zrw_C (zCn (zf_nz h_v h9))]; decide⟩), rfl⟩

theorem zx_X16_factorial_0 {t : Nat}  : (t + 1) < t ∨ t + 1 ≤ (t + 1) := by omega
theorem zx_X16_factorial_1 {t : Nat}  : (t + 1) < t + 3 ∨ t + 3 + 4 ≤ (t + 1) := by omega
theorem zx_X16_factorial_2 {t : Nat}  : (t + 2) < t ∨ t + 1 ≤ (t + 2) := by omega
theorem zx_X16_factorial_3 {t : Nat}  : (t + 2) < t + 3 ∨ t + 3 + 4 ≤ (t + 2) := by omega
theorem zx_X16_factorial_4 {t : Nat}  : (t + 7) < t ∨ t + 1 ≤ (t + 7) := by omega
theorem zx_X16_factorial_5 {t : Nat}  : (t + 7) < t + 3 ∨ t + 3 + 4 ≤ (t + 7) := by omega
theorem zx_X16_factorial_6 {t : Nat}  : (t + 8) < t ∨ t + 1 ≤ (t + 8) := by omega
theorem zx_X16_factorial_7 {t : Nat}  : (t + 8) < t + 3 ∨ t + 3 + 4 ≤ (t + 8) := by omega
theorem zx_X16_factorial_8 {t x : Nat} (h0 : x < t ∨ t + 9 ≤ x) : x < t ∨ t + 1 ≤ x := by omega
theorem zx_X16_factorial_9 {t x : Nat} (h0 : x < t ∨ t + 9 ≤ x) : x < t + 3 ∨ t + 3 + 4 ≤ x := by omega
theorem zx_X16_factorial_10 {t : Nat}  : t < t + 1 ∨ t + 1 + 1 ≤ t := by omega
theorem zx_X16_factorial_11 {t : Nat}  : (t + 2) < t + 1 ∨ t + 1 + 1 ≤ (t + 2) := by omega
theorem zx_X16_factorial_12 {t : Nat}  : (t + 3) < t + 1 ∨ t + 1 + 1 ≤ (t + 3) := by omega
theorem zx_X16_factorial_13 {t : Nat}  : (t + 4) < t + 1 ∨ t + 1 + 1 ≤ (t + 4) := by omega
theorem zx_X16_factorial_14 {t : Nat}  : (t + 5) < t + 1 ∨ t + 1 + 1 ≤ (t + 5) := by omega
theorem zx_X16_factorial_15 {t : Nat}  : (t + 6) < t + 1 ∨ t + 1 + 1 ≤ (t + 6) := by omega
theorem zx_X16_factorial_16 {t : Nat}  : (t + 7) < t + 1 ∨ t + 1 + 1 ≤ (t + 7) := by omega
theorem zx_X16_factorial_17 {t : Nat}  : (t + 8) < t + 1 ∨ t + 1 + 1 ≤ (t + 8) := by omega
theorem zx_X16_factorial_18 {t x : Nat} (h0 : x < t ∨ t + 9 ≤ x) : x < t + 1 ∨ t + 1 + 1 ≤ x := by omega
theorem zx_X16_factorial_19 {t x : Nat} (h0 : x < t + 1 ∨ t + 1 + 1 ≤ x) : x ≠ t + 1 := by omega
set_option maxHeartbeats 8000000 in
set_option maxRecDepth 100000 in
theorem c_X16_factorial {w : zM}  (m : Nat) (t : Nat) (a : Int32) (b : Int32) (c : Int32) (e : Int32) (hTi_t : zTi w t 1) (hnz : zNz w t) (ha3 : -3 ≤ a.toInt ∧ a.toInt ≤ 3) (hb3 : -3 ≤ b.toInt ∧ b.toInt ≤ 3) (hc5 : -50 ≤ c.toInt ∧ c.toInt ≤ 50) : zCon 3 zq_X16_factorial [.ref m, .ref t, .int a, .int b, .int c, .int e] w (fun v9 w9' => zSI w w9' ∧ (∀ x, (x < t ∨ t + 9 ≤ x) → w9' x = w x) ∧ zTi w9' t 1 ∧ zNz w9' t ∧ v9 = none) := by
  intro d sz hd
  obtain ⟨d, rfl⟩ : ∃ d9, d = d9 + 1 := ⟨d - 1, by omega⟩
  generalize hPost : (fun (r9' : Option (Option Value)) (w9' : zM) (z9 : Nat) => z9 = sz ∧ ∃ v9, r9' = some v9 ∧ (zSI w w9' ∧ (∀ x, (x < t ∨ t + 9 ≤ x) → w9' x = w x) ∧ zTi w9' t 1 ∧ zNz w9' t ∧ v9 = none)) = Post
  show zP (d + 1) zq_X16_factorial 0 [(0, .ref m), (1, .ref t), (2, .int a), (3, .int b), (4, .int c), (5, .int e)] [] w sz 0 0 Post
  have k1 := zrng a
  have k2 := zrng b
  have k3 := zrng c
  have k4 := zrng e
  obtain ⟨g1, fn1, fd1, fa1, fb1, fc1, fe1, fr1, fu1, hT1, hAn1, hAd1, hAa1, hAb1, hAc1, hAe1, hAr1, hAu1, hK1⟩ := id hTi_t
  obtain ⟨hK10, hKn1, hKd1, hKx1, hKm1, hKl1, hKr1, hKu1, hKk1⟩ := id hK1
  have hn1 := zNz_of hnz hAn1
  have k5 := zrng (g1 5)
  have hz6 : ((g1 5).toNatClampNeg : Int) = (g1 5).toInt := znat (by first | omega | decide)
  refine zp_seg (pc' := 1) (lv' := [(0, .ref m), (1, .ref t), (2, .int a), (3, .int b), (4, .int c), (5, .int e)]) (st' := [.int a]) [(0, .iload_n 2)] (by decide +kernel) rfl ?_
  refine zp_if (i := .ifCond .ne 7) (c := ¬ a = 0) (t := 8) (e := 4) (lv' := [(0, .ref m), (1, .ref t), (2, .int a), (3, .int b), (4, .int c), (5, .int e)]) (st' := []) (by decide +kernel) rfl (fun cc1 => ?_) (fun cc1 => ?_)
  ·
    have f8 := zneI cc1
    rw [show (0 : Int32).toInt = 0 from by decide] at f8
    have hab9 : a ≠ 0 ∨ b ≠ 0 := by
      first
      | exact Or.inl cc1
      | exact Or.inr cc5
    refine zp_seg (pc' := 15) (lv' := [(0, .ref m), (1, .ref t), (2, .int a), (3, .int b), (4, .int c), (5, .int e)]) (st' := [.int e, .int c, .int b, .int a, .ref t]) [(8, .aload_n 1), (9, .iload_n 2), (10, .iload_n 3), (11, .iload 4), (13, .iload 5)] (by decide +kernel) rfl ?_
    refine zr_callS (idx := 284) (j := 309) (by decide +kernel) (by decide +kernel) (by decide) (show zMe 309 = some zq_X16_factor from rfl) rfl rfl (Nat.le_of_ble_eq_true rfl) rfl rfl (Nat.le_of_ble_eq_true rfl) (Nat.le_of_ble_eq_true rfl) (c_X16_factor (w := w) t a b c e hT1 hAa1 hAb1 hAc1 hAe1 (by exact hKm1) (by exact hKl1) (by first | omega | decide | assumption | exact zr1_1 | exact zr1_0 | fail "num") (by first | omega | decide | assumption | exact zr1_1 | exact zr1_0 | fail "num") (by first | omega | decide | assumption | exact zr1_1 | exact zr1_0 | fail "num") (by first | omega | decide | assumption | exact zr1_1 | exact zr1_0 | fail "num")) (by omega) (fun v15 w15 hp15 => ?_)
    obtain ⟨M9_15, Fa_15, Fb_15, Fc_15, Fe_15, hsi15, heq15, hp15_0, hp15_1, hp15_2, hp15_3, hp15_4, hp15_5, rfl⟩ := hp15
    have hT15 : w15 t = some (.inl (13, zTo t (zs g1 5 M9_15))) := hp15_0
    show zP _ _ _ _ [] _ _ _ _ _
    have hb9 : w15 (t + 1) = some (.inr (0, 325, .inl fn1)) := (heq15 (t + 1) ⟨(zx_X16_factorial_0), (zx_X16_factorial_1)⟩).trans hAn1
    have hb10 : w15 (t + 2) = some (.inr (0, 325, .inl fd1)) := (heq15 (t + 2) ⟨(zx_X16_factorial_2), (zx_X16_factorial_3)⟩).trans hAd1
    have hb11 : w15 (t + 7) = some (.inr (0, 175, .inl fr1)) := (heq15 (t + 7) ⟨(zx_X16_factorial_4), (zx_X16_factorial_5)⟩).trans hAr1
    have hb12 : w15 (t + 8) = some (.inr (0, 361, .inl fu1)) := (heq15 (t + 8) ⟨(zx_X16_factorial_6), (zx_X16_factorial_7)⟩).trans hAu1
    have hTi9 : zTi w15 (t) 1 := ⟨_, _, _, _, _, _, _, _, _, hT15, hb9, hb10, hp15_1, hp15_2, hp15_3, hp15_4, hb11, hb12, ⟨hK10, hKn1, hKd1, hKx1, hp15_5.1, hp15_5.2, hKr1, hKu1, hKk1⟩⟩
    have hoffend : ∀ x, (x < t ∨ t + 9 ≤ x) → w15 x = w x := fun x hx => (heq15 x ⟨(zx_X16_factorial_8 hx), (zx_X16_factorial_9 hx)⟩)
    refine zr_retV (by decide +kernel) rfl ?_
    rw [← hPost]; exact ⟨rfl, _, rfl, hsi15, hoffend, hTi9, (by
          first | exact ⟨_, hb9, hn1⟩ | exact ⟨_, hb9, hnz9⟩), rfl⟩
  ·
    replace cc1 := Classical.not_not.mp cc1
    have f14 := zeqI cc1
    rw [show (0 : Int32).toInt = 0 from by decide] at f14
    refine zp_seg (pc' := 5) (lv' := [(0, .ref m), (1, .ref t), (2, .int a), (3, .int b), (4, .int c), (5, .int e)]) (st' := [.int b]) [(4, .iload_n 3)] (by decide +kernel) rfl ?_
    refine zp_if (i := .ifCond .eq 14) (c := b = 0) (t := 19) (e := 8) (lv' := [(0, .ref m), (1, .ref t), (2, .int a), (3, .int b), (4, .int c), (5, .int e)]) (st' := []) (by decide +kernel) rfl (fun cc5 => ?_) (fun cc5 => ?_)
    ·
      have f15 := zeqI cc5
      rw [show (0 : Int32).toInt = 0 from by decide] at f15
      refine zp_seg (pc' := 25) (lv' := [(7, .int 2), (6, .int 1), (0, .ref m), (1, .ref t), (2, .int a), (3, .int b), (4, .int c), (5, .int e)]) (st' := []) [(19, .iconst 1), (20, .istore 6), (22, .iconst 2), (23, .istore 7)] (by decide +kernel) rfl ?_
      have hL25 : ∀ (mm25 : Nat) (y6_25 : Int32) (y7_25 : Int32), (2 ≤ y7_25.toInt) → (y7_25.toInt ≤ 60) → (zr1 y6_25 ∧ y6_25 ≠ 0) → (100 - y7_25.toInt).toNat < mm25 → zP (d + 1) zq_X16_factorial 25 [(1, .ref t), (4, .int c), (5, .int e), (6, .int y6_25), (7, .int y7_25)] [] w sz 0 0 Post := by
        intro mm25
        induction mm25 with
        | zero => intros; omega
        | succ mm25 ih25 =>
        intro y6_25 y7_25 hi25_0 hi25_1 hV6 hmu25
        have ky6_25 := zrng y6_25
        have ky7_25 := zrng y7_25
        refine zp_seg (pc' := 29) (lv' := [(1, .ref t), (4, .int c), (5, .int e), (6, .int y6_25), (7, .int y7_25)]) (st' := [.int c, .int y7_25]) [(25, .iload 7), (27, .iload 4)] (by decide +kernel) rfl ?_
        refine zp_if (i := .if_icmp .gt 18) (c := c < y7_25) (t := 47) (e := 32) (lv' := [(1, .ref t), (4, .int c), (5, .int e), (6, .int y6_25), (7, .int y7_25)]) (st' := []) (by decide +kernel) rfl (fun cc29 => ?_) (fun cc29 => ?_)
        ·
          have f16 := zltI cc29
          refine zp_seg (pc' := 49) (lv' := [(1, .ref t), (4, .int c), (5, .int e), (6, .int y6_25), (7, .int y7_25)]) (st' := [.int e]) [(47, .iload 5)] (by decide +kernel) rfl ?_
          have hJ62 : ∀ (z0_62 : Int32), (zr1 z0_62 ∧ z0_62 ≠ 0) → zP (d + 1) zq_X16_factorial 62 [(1, .ref t)] [.int z0_62] w sz 0 0 Post := by
            intro z0_62 hv9
            have kz0_62 := zrng z0_62
            refine zp_seg (pc' := 67) (lv' := [(7, .int 0), (6, .int z0_62), (1, .ref t)]) (st' := []) [(62, .istore 6), (64, .iconst 0), (65, .istore 7)] (by decide +kernel) rfl ?_
            have hL67 : ∀ (mm67 : Nat) (wL67 : zM) (y7_67 : Int32) (pf : Nat → Int32), (zSI w wL67) → (∀ x, (x < t + 1 ∨ t + 1 + 1 ≤ x) → wL67 x = w x) → (0 ≤ y7_67.toInt) → (y7_67.toInt ≤ 325) → (wL67 (t + 1) = some (.inr (0, 325, .inl pf))) → (zCr pf ∧ (∀ i, i < y7_67.toNatClampNeg → zf (pf i) = zf (fn1 i) * zf z0_62) ∧ ∀ i, y7_67.toNatClampNeg ≤ i → pf i = fn1 i) → (400 - y7_67.toInt).toNat < mm67 → zP (d + 1) zq_X16_factorial 67 [(1, .ref t), (6, .int z0_62), (7, .int y7_67)] [] wL67 sz 0 0 Post := by
              intro mm67
              induction mm67 with
              | zero => intros; omega
              | succ mm67 ih67 =>
              intro wL67 y7_67 pf hsiL67 heqL67 hi67_0 hi67_1 hAp hP hmu67
              have ky7_67 := zrng y7_67
              have hz17 : (y7_67.toNatClampNeg : Int) = y7_67.toInt := znat (by first | omega | decide)
              refine zp_seg (pc' := 72) (lv' := [(1, .ref t), (6, .int z0_62), (7, .int y7_67)]) (st' := [.int 325, .int y7_67]) [(67, .iload 7), (69, .sipush 325)] (by decide +kernel) rfl ?_
              refine zp_if (i := .if_icmp .ge 28) (c := 325 ≤ y7_67) (t := 100) (e := 75) (lv' := [(1, .ref t), (6, .int z0_62), (7, .int y7_67)]) (st' := []) (by decide +kernel) rfl (fun cc72 => ?_) (fun cc72 => ?_)
              ·
                have f19 := zleI cc72
                rw [show (325 : Int32).toInt = 325 from by decide] at f19
                obtain ⟨j9, hj9, hj8⟩ := zbT_ex hn1
                have hnz9 : 0 < zrw (zbT pf) := zbT_nz hP.1 ⟨j9, hj9, fun e => by
                  have h9 := hP.2.1 j9 (by omega)
                  rw [e, zf_0] at h9
                  exact (zF_mul0 h9.symm).elim (fun k => zf_nz (hKn1 j9 hj9) hj8 k) (fun k => zf_nz hv9.1 hv9.2 k)⟩
                have hb20 : wL67 t = some (.inl (13, zTo t g1)) := (heqL67 t (zx_X16_factorial_10)).trans hT1
                have hb21 : wL67 (t + 2) = some (.inr (0, 325, .inl fd1)) := (heqL67 (t + 2) (zx_X16_factorial_11)).trans hAd1
                have hb22 : wL67 (t + 3) = some (.inr (0, 13, .inl fa1)) := (heqL67 (t + 3) (zx_X16_factorial_12)).trans hAa1
                have hb23 : wL67 (t + 4) = some (.inr (0, 13, .inl fb1)) := (heqL67 (t + 4) (zx_X16_factorial_13)).trans hAb1
                have hb24 : wL67 (t + 5) = some (.inr (0, 13, .inl fc1)) := (heqL67 (t + 5) (zx_X16_factorial_14)).trans hAc1
                have hb25 : wL67 (t + 6) = some (.inr (0, 13, .inl fe1)) := (heqL67 (t + 6) (zx_X16_factorial_15)).trans hAe1
                have hb26 : wL67 (t + 7) = some (.inr (0, 175, .inl fr1)) := (heqL67 (t + 7) (zx_X16_factorial_16)).trans hAr1
                have hb27 : wL67 (t + 8) = some (.inr (0, 361, .inl fu1)) := (heqL67 (t + 8) (zx_X16_factorial_17)).trans hAu1
                have hTi9 : zTi wL67 (t) 1 := ⟨_, _, _, _, _, _, _, _, _, hb20, hAp, hb21, hb22, hb23, hb24, hb25, hb26, hb27, ⟨hK10, hP.1, hKd1, hKx1, hKm1, hKl1, hKr1, hKu1, zKk_12 (Or.inl rfl) (hKk1.2.1 (Or.inl rfl)) (fun e => absurd e (by decide)) (hKk1.2.2.2.1 (Or.inl rfl))⟩⟩
                have hoffend : ∀ x, (x < t ∨ t + 9 ≤ x) → wL67 x = w x := fun x hx => (heqL67 x (zx_X16_factorial_18 hx))
                refine zr_retV (by decide +kernel) rfl ?_
                rw [← hPost]; exact ⟨rfl, _, rfl, hsiL67, hoffend, hTi9, (by
                      first | exact ⟨_, hAp, hn1⟩ | exact ⟨_, hAp, hnz9⟩), rfl⟩
              ·
                have f29 := znleI cc72
                rw [show (325 : Int32).toInt = 325 from by decide] at f29
                refine zp_seg (pc' := 76) (lv' := [(1, .ref t), (6, .int z0_62), (7, .int y7_67)]) (st' := [.ref t]) [(75, .aload_n 1)] (by decide +kernel) rfl ?_
                have hb30 : wL67 t = some (.inl (13, zTo t g1)) := (heqL67 t (zx_X16_factorial_10)).trans hT1
                refine zr_get (idx := 207) (k := 1) (v := .ref (t + 1)) (by decide +kernel) (by decide +kernel) hb30 rfl ?_
                refine zp_seg (pc' := 82) (lv' := [(1, .ref t), (6, .int z0_62), (7, .int y7_67)]) (st' := [.ref t, .int y7_67, .ref (t + 1)]) [(79, .iload 7), (81, .aload_n 1)] (by decide +kernel) rfl ?_
                refine zr_get (idx := 207) (k := 1) (v := .ref (t + 1)) (by decide +kernel) (by decide +kernel) hb30 rfl ?_
                refine zp_seg (pc' := 87) (lv' := [(1, .ref t), (6, .int z0_62), (7, .int y7_67)]) (st' := [.int y7_67, .ref (t + 1), .int y7_67, .ref (t + 1)]) [(85, .iload 7)] (by decide +kernel) rfl ?_
                refine zr_iald (by decide +kernel) hAp (zin (by first | omega | decide) (by first | omega | decide)) ?_
                obtain ⟨x87, ex87⟩ : ∃ x9, x9 = pf (y7_67.toNatClampNeg) := ⟨_, rfl⟩
                rw [← ex87]
                have kx87 := zrng x87
                refine zp_seg (pc' := 90) (lv' := [(1, .ref t), (6, .int z0_62), (7, .int y7_67)]) (st' := [.int z0_62, .int x87, .int y7_67, .ref (t + 1)]) [(88, .iload 6)] (by decide +kernel) rfl ?_
                refine zr_callS (idx := 56) (j := 257) (by decide +kernel) (by decide +kernel) (by decide) (show zMe 257 = some zq_X16_mul from rfl) rfl rfl (Nat.le_of_ble_eq_true rfl) rfl rfl (Nat.le_of_ble_eq_true rfl) (Nat.le_of_ble_eq_true rfl) (c_X16_mul (w := wL67) x87 z0_62 (by rw [ex87]; exact hP.1 _ (by omega)) (by exact hv9.1)) (by omega) (fun v90 w90 hp90 => ?_)
                obtain ⟨hpw90, r90, rfl, hr90⟩ := hp90
                replace hpw90 := hpw90.symm
                subst hpw90
                have kr90 := zrng r90
                show zP _ _ _ _ [.int r90, .int y7_67, .ref (t + 1)] _ _ _ _ _
                refine zr_iast (by decide +kernel) hAp (zin (by first | omega | decide) (by first | omega | decide)) ?_
                show zP (d + 1) zq_X16_factorial 94 [(1, .ref t), (6, .int z0_62), (7, .int y7_67)] [] (zup wL67 (t + 1) (.inr (0, 325, .inl (upd pf (y7_67.toNatClampNeg) r90)))) sz 0 0 Post
                obtain ⟨w93, ew93⟩ : ∃ wz9, wz9 = zup wL67 (t + 1) (.inr (0, 325, .inl (upd pf (y7_67.toNatClampNeg) r90))) := ⟨_, rfl⟩
                have hsi93 : zSI wL67 w93 := by rw [ew93]; exact zSI.arr _ hAp
                have heq93 : ∀ x, x ≠ t + 1 → w93 x = wL67 x := fun x hx => by rw [ew93]; exact zup_n hx
                have hc93 : w93 (t + 1) = some (.inr (0, 325, .inl (upd pf (y7_67.toNatClampNeg) r90))) := by rw [ew93]; exact zup_s
                rw [← ew93]
                clear ew93
                refine zp_seg (pc' := 97) (lv' := [(7, .int (y7_67 + 1)), (1, .ref t), (6, .int z0_62)]) (st' := []) [(94, .iinc 7 1)] (by decide +kernel) rfl ?_
                have k31 := zaddC y7_67 1 (n := 1) (by decide) (by omega) (by omega)
                generalize ev97 : (y7_67 + 1 : Int32) = v97 at k31 ⊢
                have kv97 := zrng v97
                refine zp_seg (pc' := 67) (lv' := [(7, .int v97), (1, .ref t), (6, .int z0_62)]) (st' := []) [(97, .goto (-30))] (by decide +kernel) rfl ?_
                have hz32 : (v97.toNatClampNeg : Int) = v97.toInt := znat (by first | omega | decide)
                exact (ih67 w93 v97 ((upd pf (y7_67.toNatClampNeg) r90)) (hsiL67.tr hsi93) (fun x hx => ((heq93 x (zx_X16_factorial_19 hx)).trans (heqL67 x hx))) (by first | assumption | omega | decide) (by first | assumption | omega | decide) hc93 (by
                      refine ⟨zCr_up hP.1 _ hr90.1, fun i hi => ?_, fun i hi => ?_⟩
                      · by_cases e : i = y7_67.toNatClampNeg
                        · rw [e, zupd_s, hr90.2, ex87, hP.2.2 _ (Nat.le_refl _)]
                        · rw [zupd_n _ _ e]; exact hP.2.1 i (by omega)
                      · rw [zupd_n _ _ (by omega)]; exact hP.2.2 i (by omega)) (by omega)).more (zfa1 rfl (zfa1 rfl (zfa1 rfl (zfa0))))
            have hl33 : (0 : Int32).toInt = 0 := by decide
            have hz34 : ((0 : Int32).toNatClampNeg : Int) = 0 := by decide
            exact (hL67 _ w 0 (fn1) zSI.rf (fun _ _ => rfl) (by first | assumption | omega | decide) (by first | assumption | omega | decide) hAn1 (by
                  exact ⟨hKn1, fun i hi => absurd hi (by omega), fun _ _ => rfl⟩) (Nat.lt_succ_self _)).more (zfa1 rfl (zfa1 rfl (zfa1 rfl (zfa0))))
          refine zp_if (i := .ifCond .ge 11) (c := 0 ≤ e) (t := 60) (e := 52) (lv' := [(1, .ref t), (4, .int c), (5, .int e), (6, .int y6_25), (7, .int y7_25)]) (st' := []) (by decide +kernel) rfl (fun cc49 => ?_) (fun cc49 => ?_)
          ·
            have f35 := zleI cc49
            rw [show (0 : Int32).toInt = 0 from by decide] at f35
            refine zp_seg (pc' := 62) (lv' := [(1, .ref t), (4, .int c), (5, .int e), (6, .int y6_25), (7, .int y7_25)]) (st' := [.int y6_25]) [(60, .iload 6)] (by decide +kernel) rfl ?_
            exact (hJ62 y6_25 (by
                  first | exact hV6 | exact ⟨hr54.1, fun e => zinvF_ne (zf_nz hV6.1 hV6.2) (by rw [← hr54.2, e, zf_0])⟩)).more (zfa1 rfl (zfa0))
          ·
            have f36 := znleI cc49
            rw [show (0 : Int32).toInt = 0 from by decide] at f36
            refine zp_seg (pc' := 54) (lv' := [(1, .ref t), (4, .int c), (5, .int e), (6, .int y6_25), (7, .int y7_25)]) (st' := [.int y6_25]) [(52, .iload 6)] (by decide +kernel) rfl ?_
            refine zr_callS (idx := 13) (j := 259) (by decide +kernel) (by decide +kernel) (by decide) (show zMe 259 = some zq_X16_inv from rfl) rfl rfl (Nat.le_of_ble_eq_true rfl) rfl rfl (Nat.le_of_ble_eq_true rfl) (Nat.le_of_ble_eq_true rfl) (c_X16_inv (w := w) y6_25 (by exact hV6.1)) (by omega) (fun v54 w54 hp54 => ?_)
            obtain ⟨hpw54, r54, rfl, hr54⟩ := hp54
            replace hpw54 := hpw54.symm
            subst hpw54
            have kr54 := zrng r54
            show zP _ _ _ _ [.int r54] _ _ _ _ _
            refine zp_seg (pc' := 62) (lv' := [(1, .ref t), (4, .int c), (5, .int e), (6, .int y6_25), (7, .int y7_25)]) (st' := [.int r54]) [(57, .goto 5)] (by decide +kernel) rfl ?_
            exact (hJ62 r54 (by
                  first | exact hV6 | exact ⟨hr54.1, fun e => zinvF_ne (zf_nz hV6.1 hV6.2) (by rw [← hr54.2, e, zf_0])⟩)).more (zfa1 rfl (zfa0))
        ·
          have f37 := znltI cc29
          refine zp_seg (pc' := 36) (lv' := [(1, .ref t), (4, .int c), (5, .int e), (6, .int y6_25), (7, .int y7_25)]) (st' := [.int y7_25, .int y6_25]) [(32, .iload 6), (34, .iload 7)] (by decide +kernel) rfl ?_
          refine zr_callS (idx := 56) (j := 257) (by decide +kernel) (by decide +kernel) (by decide) (show zMe 257 = some zq_X16_mul from rfl) rfl rfl (Nat.le_of_ble_eq_true rfl) rfl rfl (Nat.le_of_ble_eq_true rfl) (Nat.le_of_ble_eq_true rfl) (c_X16_mul (w := w) y6_25 y7_25 (by exact hV6.1) (by exact ⟨by omega, by omega⟩)) (by omega) (fun v36 w36 hp36 => ?_)
          obtain ⟨hpw36, r36, rfl, hr36⟩ := hp36
          replace hpw36 := hpw36.symm
          subst hpw36
          have kr36 := zrng r36
          show zP _ _ _ _ [.int r36] _ _ _ _ _
          refine zp_seg (pc' := 44) (lv' := [(7, .int (y7_25 + 1)), (6, .int r36), (1, .ref t), (4, .int c), (5, .int e)]) (st' := []) [(39, .istore 6), (41, .iinc 7 1)] (by decide +kernel) rfl ?_
          have k38 := zaddC y7_25 1 (n := 1) (by decide) (by omega) (by omega)
          generalize ev44 : (y7_25 + 1 : Int32) = v44 at k38 ⊢
          have kv44 := zrng v44
          refine zp_seg (pc' := 25) (lv' := [(7, .int v44), (6, .int r36), (1, .ref t), (4, .int c), (5, .int e)]) (st' := []) [(44, .goto (-19))] (by decide +kernel) rfl ?_
          exact (ih25 r36 v44 (by first | assumption | omega | decide) (by first | assumption | omega | decide) (by
                exact ⟨hr36.1, zmul_nz hV6.1 ⟨by omega, by omega⟩ hr36.2 hV6.2 (fun e => by rw [e] at hi25_0; exact absurd hi25_0 (by decide))⟩) (by omega)).more (zfa1 rfl (zfa1 rfl (zfa1 rfl (zfa1 rfl (zfa1 rfl (zfa0))))))
      have hl39 : (1 : Int32).toInt = 1 := by decide
      have hl40 : (2 : Int32).toInt = 2 := by decide
      exact (hL25 _ 1 2 (by first | assumption | omega | decide) (by first | assumption | omega | decide) (by
            exact ⟨zr1_1, by decide⟩) (Nat.lt_succ_self _)).more (zfa1 rfl (zfa1 rfl (zfa1 rfl (zfa1 rfl (zfa1 rfl (zfa0))))))
    ·
      have f41 := zneI cc5
      rw [show (0 : Int32).toInt = 0 from by decide] at f41
      have hab9 : a ≠ 0 ∨ b ≠ 0 := by
        first
        | exact Or.inl cc1
        | exact Or.inr cc5
      refine zp_seg (pc' := 15) (lv' := [(0, .ref m), (1, .ref t), (2, .int a), (3, .int b), (4, .int c), (5, .int e)]) (st' := [.int e, .int c, .int b, .int a, .ref t]) [(8, .aload_n 1), (9, .iload_n 2), (10, .iload_n 3), (11, .iload 4), (13, .iload 5)] (by decide +kernel) rfl ?_
      refine zr_callS (idx := 284) (j := 309) (by decide +kernel) (by decide +kernel) (by decide) (show zMe 309 = some zq_X16_factor from rfl) rfl rfl (Nat.le_of_ble_eq_true rfl) rfl rfl (Nat.le_of_ble_eq_true rfl) (Nat.le_of_ble_eq_true rfl) (c_X16_factor (w := w) t a b c e hT1 hAa1 hAb1 hAc1 hAe1 (by exact hKm1) (by exact hKl1) (by first | omega | decide | assumption | exact zr1_1 | exact zr1_0 | fail "num") (by first | omega | decide | assumption | exact zr1_1 | exact zr1_0 | fail "num") (by first | omega | decide | assumption | exact zr1_1 | exact zr1_0 | fail "num") (by first | omega | decide | assumption | exact zr1_1 | exact zr1_0 | fail "num")) (by omega) (fun v15 w15 hp15 => ?_)
      obtain ⟨M9_15, Fa_15, Fb_15, Fc_15, Fe_15, hsi15, heq15, hp15_0, hp15_1, hp15_2, hp15_3, hp15_4, hp15_5, rfl⟩ := hp15
      have hT15 : w15 t = some (.inl (13, zTo t (zs g1 5 M9_15))) := hp15_0
      show zP _ _ _ _ [] _ _ _ _ _
      have hb42 : w15 (t + 1) = some (.inr (0, 325, .inl fn1)) := (heq15 (t + 1) ⟨(zx_X16_factorial_0), (zx_X16_factorial_1)⟩).trans hAn1
      have hb43 : w15 (t + 2) = some (.inr (0, 325, .inl fd1)) := (heq15 (t + 2) ⟨(zx_X16_factorial_2), (zx_X16_factorial_3)⟩).trans hAd1
      have hb44 : w15 (t + 7) = some (.inr (0, 175, .inl fr1)) := (heq15 (t + 7) ⟨(zx_X16_factorial_4), (zx_X16_factorial_5)⟩).trans hAr1
      have hb45 : w15 (t + 8) = some (.inr (0, 361, .inl fu1)) := (heq15 (t + 8) ⟨(zx_X16_factorial_6), (zx_X16_factorial_7)⟩).trans hAu1
      have hTi9 : zTi w15 (t) 1 := ⟨_, _, _, _, _, _, _, _, _, hT15, hb42, hb43, hp15_1, hp15_2, hp15_3, hp15_4, hb44, hb45, ⟨hK10, hKn1, hKd1, hKx1, hp15_5.1, hp15_5.2, hKr1, hKu1, hKk1⟩⟩
      have hoffend : ∀ x, (x < t ∨ t + 9 ≤ x) → w15 x = w x := fun x hx => (heq15 x ⟨(zx_X16_factorial_8 hx), (zx_X16_factorial_9 hx)⟩)
      refine zr_retV (by decide +kernel) rfl ?_
      rw [← hPost]; exact ⟨rfl, _, rfl, hsi15, hoffend, hTi9, (by
            first | exact ⟨_, hb42, hn1⟩ | exact ⟨_, hb42, hnz9⟩), rfl⟩
