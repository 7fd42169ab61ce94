theorem zx_X16_makeRecord_0 {G1_0 m sz : Nat} (h0 : m + 8322 ≤ sz) (h1 : sz + 1 ≤ m + 8322 + 1000000000000) (h2 : G1_0 + 28 ≤ 160) : (m + 276 + 2 * G1_0) ≠ sz := by omega
theorem zx_X16_makeRecord_1 {G1_0 m sz : Nat} (h0 : m + 8322 ≤ sz) (h1 : sz + 1 ≤ m + 8322 + 1000000000000) (h2 : G1_0 + 28 ≤ 160) : (m + 276 + 2 * G1_0 + 1) ≠ sz := by omega
theorem zx_X16_makeRecord_2 {G1_0 m : Nat} (h0 : G1_0 + 28 ≤ 160) : (m + 276 + 2 * G1_0 + 1) ≠ m + 276 + 2 * G1_0 := by omega
theorem zx_X16_makeRecord_3 {m sz : Nat} (h0 : m + 8322 ≤ sz) (h1 : sz + 1 ≤ m + 8322 + 1000000000000) : m ≠ sz := by omega
theorem zx_X16_makeRecord_4 {G1_0 m : Nat} (h0 : G1_0 + 28 ≤ 160) : m ≠ m + 276 + 2 * G1_0 := by omega
theorem zx_X16_makeRecord_5 {m x : Nat} (h0 : m + 83 ≤ x) (h1 : x < m + 83 + 9) : x < m ∨ m + 1 ≤ x := by omega
theorem zx_X16_makeRecord_6 {G1_0 m x : Nat} (h0 : m + 83 ≤ x) (h1 : x < m + 83 + 9) (h2 : G1_0 + 28 ≤ 160) : x < m + 276 + 2 * G1_0 ∨ m + 276 + 2 * G1_0 + 2 ≤ x := by omega
theorem zx_X16_makeRecord_7 {m sz x : Nat} (h0 : m + 83 ≤ x) (h1 : x < m + 83 + 9) (h2 : m + 8322 ≤ sz) (h3 : sz + 1 ≤ m + 8322 + 1000000000000) : x ≠ sz := by omega
theorem zx_X16_makeRecord_8 {G1_0 m x : Nat} (h0 : m + 83 ≤ x) (h1 : x < m + 83 + 9) (h2 : G1_0 + 28 ≤ 160) : x ≠ m + 276 + 2 * G1_0 := by omega
theorem zx_X16_makeRecord_9 {m sz x : Nat} (h0 : m + 83 ≤ x) (h1 : x < m + 83 + 9) (h2 : m + 8322 ≤ sz) (h3 : sz + 1 ≤ m + 8322 + 1000000000000) : x < sz ∨ sz + 1 ≤ x := by omega
theorem zx_X16_makeRecord_10 {G1_0 m x : Nat} (h0 : m + 83 ≤ x) (h1 : x < m + 83 + 9) (h2 : G1_0 + 28 ≤ 160) : x < m + 276 + 2 * G1_0 ∨ m + 276 + 2 * G1_0 + (320 - 2 * G1_0) ≤ x := by omega
theorem zx_X16_makeRecord_11 {m x : Nat} (h0 : m + 83 ≤ x) (h1 : x < m + 83 + 9) : x ≠ m := by omega
theorem zx_X16_makeRecord_12 {m : Nat}  : m < m + 83 ∨ m + 83 + 1 ≤ m := by omega
theorem zx_X16_makeRecord_13 {m : Nat}  : m ≠ m + 83 := by omega
theorem zx_X16_makeRecord_14 {m sz : Nat} (h0 : m + 8322 ≤ sz) (h1 : sz + 1 ≤ m + 8322 + 1000000000000) : sz < m + 83 ∨ m + 83 + 1 ≤ sz := by omega
theorem zx_X16_makeRecord_15 {m sz : Nat} (h0 : m + 8322 ≤ sz) (h1 : sz + 1 ≤ m + 8322 + 1000000000000) : sz ≠ m + 83 := by omega
theorem zx_X16_makeRecord_16 {m sz : Nat} (h0 : m + 8322 ≤ sz) (h1 : sz + 1 ≤ m + 8322 + 1000000000000) : sz < m + 83 + 7 ∨ m + 83 + 7 + 1 ≤ sz := by omega
theorem zx_X16_makeRecord_17 {m sz : Nat} (h0 : m + 8322 ≤ sz) (h1 : sz + 1 ≤ m + 8322 + 1000000000000) : sz ≠ m := by omega
theorem zx_X16_makeRecord_18 {G1_0 m x : Nat} (h0 : m + 276 + 2 * G1_0 ≤ x) (h1 : x < m + 276 + 2 * G1_0 + 2) (h2 : G1_0 + 28 ≤ 160) : x < m + 83 ∨ m + 83 + 1 ≤ x := by omega
theorem zx_X16_makeRecord_19 {G1_0 m x : Nat} (h0 : m + 276 + 2 * G1_0 ≤ x) (h1 : x < m + 276 + 2 * G1_0 + 2) (h2 : G1_0 + 28 ≤ 160) : x ≠ m + 83 := by omega
theorem zx_X16_makeRecord_20 {G1_0 m x : Nat} (h0 : m + 276 + 2 * G1_0 ≤ x) (h1 : x < m + 276 + 2 * G1_0 + 2) (h2 : G1_0 + 28 ≤ 160) : x < m + 83 + 7 ∨ m + 83 + 7 + 1 ≤ x := by omega
theorem zx_X16_makeRecord_21 {G1_0 m x : Nat} (h0 : m + 276 + 2 * G1_0 ≤ x) (h1 : x < m + 276 + 2 * G1_0 + 2) (h2 : G1_0 + 28 ≤ 160) : x ≠ m := by omega
theorem zx_X16_makeRecord_22 {G1_0 G1_1 m x : Nat} (h0 : m + 276 + 2 * G1_0 ≤ x) (h1 : x < m + 276 + 2 * G1_0 + 2) (h2 : G1_1 = G1_0 + 1) (h3 : G1_0 + 28 ≤ 160) : x < m + 276 + 2 * G1_1 ∨ m + 276 + 2 * G1_1 + (320 - 2 * G1_1) ≤ x := by omega
theorem zx_X16_makeRecord_23 {G1_0 m : Nat} (h0 : G1_0 + 28 ≤ 160) : m < m + 276 + 2 * G1_0 ∨ m + 276 + 2 * G1_0 + 2 ≤ m := by omega
theorem zx_X16_makeRecord_24 {G3_0 m q x : Nat} (h0 : q ≤ x) (h1 : x < q + 130) (h2 : m + 596 ≤ q ∧ q + 130 ≤ m + 596 + 130 * G3_0) (h3 : G3_0 + 11 ≤ 44) : x < m ∨ m + 1 ≤ x := by omega
theorem zx_X16_makeRecord_25 {G1_0 G3_0 m q x : Nat} (h0 : q ≤ x) (h1 : x < q + 130) (h2 : m + 596 ≤ q ∧ q + 130 ≤ m + 596 + 130 * G3_0) (h3 : G1_0 + 28 ≤ 160) (h4 : G3_0 + 11 ≤ 44) : x < m + 276 + 2 * G1_0 ∨ m + 276 + 2 * G1_0 + 2 ≤ x := by omega
theorem zx_X16_makeRecord_26 {G3_0 m q sz x : Nat} (h0 : q ≤ x) (h1 : x < q + 130) (h2 : m + 596 ≤ q ∧ q + 130 ≤ m + 596 + 130 * G3_0) (h3 : m + 8322 ≤ sz) (h4 : sz + 1 ≤ m + 8322 + 1000000000000) (h5 : G3_0 + 11 ≤ 44) : x ≠ sz := by omega
theorem zx_X16_makeRecord_27 {G1_0 G3_0 m q x : Nat} (h0 : q ≤ x) (h1 : x < q + 130) (h2 : m + 596 ≤ q ∧ q + 130 ≤ m + 596 + 130 * G3_0) (h3 : G1_0 + 28 ≤ 160) (h4 : G3_0 + 11 ≤ 44) : x ≠ m + 276 + 2 * G1_0 := by omega
theorem zx_X16_makeRecord_28 {G3_0 m q sz x : Nat} (h0 : q ≤ x) (h1 : x < q + 130) (h2 : m + 596 ≤ q ∧ q + 130 ≤ m + 596 + 130 * G3_0) (h3 : m + 8322 ≤ sz) (h4 : sz + 1 ≤ m + 8322 + 1000000000000) (h5 : G3_0 + 11 ≤ 44) : x < sz ∨ sz + 1 ≤ x := by omega
theorem zx_X16_makeRecord_29 {G1_0 G3_0 m q x : Nat} (h0 : q ≤ x) (h1 : x < q + 130) (h2 : m + 596 ≤ q ∧ q + 130 ≤ m + 596 + 130 * G3_0) (h3 : G1_0 + 28 ≤ 160) (h4 : G3_0 + 11 ≤ 44) : x < m + 276 + 2 * G1_0 ∨ m + 276 + 2 * G1_0 + (320 - 2 * G1_0) ≤ x := by omega
theorem zx_X16_makeRecord_30 {G3_0 m q x : Nat} (h0 : q ≤ x) (h1 : x < q + 130) (h2 : m + 596 ≤ q ∧ q + 130 ≤ m + 596 + 130 * G3_0) (h3 : G3_0 + 11 ≤ 44) : x ≠ m := by omega
theorem zx_X16_makeRecord_31 {G3_0 m q x : Nat} (h0 : q ≤ x) (h1 : x < q + 130) (h2 : m + 596 ≤ q ∧ q + 130 ≤ m + 596 + 130 * G3_0) (h3 : G3_0 + 11 ≤ 44) : x < m + 83 ∨ m + 83 + 1 ≤ x := by omega
theorem zx_X16_makeRecord_32 {G3_0 m q x : Nat} (h0 : q ≤ x) (h1 : x < q + 130) (h2 : m + 596 ≤ q ∧ q + 130 ≤ m + 596 + 130 * G3_0) (h3 : G3_0 + 11 ≤ 44) : x ≠ m + 83 := by omega
theorem zx_X16_makeRecord_33 {G3_0 m q x : Nat} (h0 : q ≤ x) (h1 : x < q + 130) (h2 : m + 596 ≤ q ∧ q + 130 ≤ m + 596 + 130 * G3_0) (h3 : G3_0 + 11 ≤ 44) : x < m + 83 + 7 ∨ m + 83 + 7 + 1 ≤ x := by omega
theorem zx_X16_makeRecord_34 {G1_0 G1_1 G3_0 m q x : Nat} (h0 : q ≤ x) (h1 : x < q + 130) (h2 : m + 596 ≤ q ∧ q + 130 ≤ m + 596 + 130 * G3_0) (h3 : G1_1 = G1_0 + 1) (h4 : G1_0 + 28 ≤ 160) (h5 : G3_0 + 11 ≤ 44) : x < m + 276 + 2 * G1_1 ∨ m + 276 + 2 * G1_1 + (320 - 2 * G1_1) ≤ x := by omega
theorem zx_X16_makeRecord_35 {G1_0 aD m x : Nat} (h0 : aD ≤ x) (h1 : x < aD + 2) (h2 : m + 276 ≤ aD ∧ aD + 2 ≤ m + 276 + 2 * G1_0) (h3 : G1_0 + 28 ≤ 160) : x < m ∨ m + 1 ≤ x := by omega
theorem zx_X16_makeRecord_36 {G1_0 aD m x : Nat} (h0 : aD ≤ x) (h1 : x < aD + 2) (h2 : m + 276 ≤ aD ∧ aD + 2 ≤ m + 276 + 2 * G1_0) (h3 : G1_0 + 28 ≤ 160) : x < m + 276 + 2 * G1_0 ∨ m + 276 + 2 * G1_0 + 2 ≤ x := by omega
theorem zx_X16_makeRecord_37 {G1_0 aD m sz x : Nat} (h0 : aD ≤ x) (h1 : x < aD + 2) (h2 : m + 276 ≤ aD ∧ aD + 2 ≤ m + 276 + 2 * G1_0) (h3 : m + 8322 ≤ sz) (h4 : sz + 1 ≤ m + 8322 + 1000000000000) (h5 : G1_0 + 28 ≤ 160) : x ≠ sz := by omega
theorem zx_X16_makeRecord_38 {G1_0 aD m x : Nat} (h0 : aD ≤ x) (h1 : x < aD + 2) (h2 : m + 276 ≤ aD ∧ aD + 2 ≤ m + 276 + 2 * G1_0) (h3 : G1_0 + 28 ≤ 160) : x ≠ m + 276 + 2 * G1_0 := by omega
theorem zx_X16_makeRecord_39 {G1_0 aD m sz x : Nat} (h0 : aD ≤ x) (h1 : x < aD + 2) (h2 : m + 276 ≤ aD ∧ aD + 2 ≤ m + 276 + 2 * G1_0) (h3 : m + 8322 ≤ sz) (h4 : sz + 1 ≤ m + 8322 + 1000000000000) (h5 : G1_0 + 28 ≤ 160) : x < sz ∨ sz + 1 ≤ x := by omega
theorem zx_X16_makeRecord_40 {G1_0 aD m x : Nat} (h0 : aD ≤ x) (h1 : x < aD + 2) (h2 : m + 276 ≤ aD ∧ aD + 2 ≤ m + 276 + 2 * G1_0) (h3 : G1_0 + 28 ≤ 160) : x < m + 276 + 2 * G1_0 ∨ m + 276 + 2 * G1_0 + (320 - 2 * G1_0) ≤ x := by omega
theorem zx_X16_makeRecord_41 {G1_0 aD m x : Nat} (h0 : aD ≤ x) (h1 : x < aD + 2) (h2 : m + 276 ≤ aD ∧ aD + 2 ≤ m + 276 + 2 * G1_0) (h3 : G1_0 + 28 ≤ 160) : x ≠ m := by omega
theorem zx_X16_makeRecord_42 {G1_0 aD m x : Nat} (h0 : aD ≤ x) (h1 : x < aD + 2) (h2 : m + 276 ≤ aD ∧ aD + 2 ≤ m + 276 + 2 * G1_0) (h3 : G1_0 + 28 ≤ 160) : x < m + 83 ∨ m + 83 + 1 ≤ x := by omega
theorem zx_X16_makeRecord_43 {G1_0 aD m x : Nat} (h0 : aD ≤ x) (h1 : x < aD + 2) (h2 : m + 276 ≤ aD ∧ aD + 2 ≤ m + 276 + 2 * G1_0) (h3 : G1_0 + 28 ≤ 160) : x ≠ m + 83 := by omega
theorem zx_X16_makeRecord_44 {G1_0 aD m x : Nat} (h0 : aD ≤ x) (h1 : x < aD + 2) (h2 : m + 276 ≤ aD ∧ aD + 2 ≤ m + 276 + 2 * G1_0) (h3 : G1_0 + 28 ≤ 160) : x < m + 83 + 7 ∨ m + 83 + 7 + 1 ≤ x := by omega
theorem zx_X16_makeRecord_45 {G1_0 G1_1 aD m x : Nat} (h0 : aD ≤ x) (h1 : x < aD + 2) (h2 : m + 276 ≤ aD ∧ aD + 2 ≤ m + 276 + 2 * G1_0) (h3 : G1_1 = G1_0 + 1) (h4 : G1_0 + 28 ≤ 160) : x < m + 276 + 2 * G1_1 ∨ m + 276 + 2 * G1_1 + (320 - 2 * G1_1) ≤ x := by omega
theorem zx_X16_makeRecord_46 {m : Nat}  : (m + 83) < m + 83 + 7 ∨ m + 83 + 7 + 1 ≤ (m + 83) := by omega
theorem zx_X16_makeRecord_47 {m : Nat}  : (m + 83) ≠ m := by omega
theorem zx_X16_makeRecord_48 {G1_0 G1_1 m : Nat} (h0 : G1_1 = G1_0 + 1) (h1 : G1_0 + 28 ≤ 160) : (m + 83) < m + 276 + 2 * G1_1 ∨ m + 276 + 2 * G1_1 + (320 - 2 * G1_1) ≤ (m + 83) := by omega
theorem zx_X16_makeRecord_49 {G1_0 m : Nat} (h0 : G1_0 + 28 ≤ 160) : (m + 83) < m + 276 + 2 * G1_0 ∨ m + 276 + 2 * G1_0 + 2 ≤ (m + 83) := by omega
theorem zx_X16_makeRecord_50 {m : Nat}  : (m + 83) < m ∨ m + 1 ≤ (m + 83) := by omega
theorem zx_X16_makeRecord_51 {G3_0 m : Nat} (h0 : G3_0 + 11 ≤ 44) : (m + 83) < m + 596 + 130 * G3_0 ∨ m + 596 + 130 * G3_0 + 130 ≤ (m + 83) := by omega
theorem zx_X16_makeRecord_52 {G3_0 G3_1 m : Nat} (h0 : G3_1 = G3_0 + 1) (h1 : G3_0 + 11 ≤ 44) : (m + 83) < m + 596 + 130 * G3_1 ∨ m + 596 + 130 * G3_1 + 130 ≤ (m + 83) := by omega
theorem zx_X16_makeRecord_53 {m : Nat}  : (m + 83 + 1) < m + 83 ∨ m + 83 + 1 ≤ (m + 83 + 1) := by omega
theorem zx_X16_makeRecord_54 {m : Nat}  : (m + 83 + 1) ≠ m + 83 := by omega
theorem zx_X16_makeRecord_55 {m : Nat}  : (m + 83 + 1) < m + 83 + 7 ∨ m + 83 + 7 + 1 ≤ (m + 83 + 1) := by omega
theorem zx_X16_makeRecord_56 {m : Nat}  : (m + 83 + 1) ≠ m := by omega
theorem zx_X16_makeRecord_57 {G1_0 G1_1 m : Nat} (h0 : G1_1 = G1_0 + 1) (h1 : G1_0 + 28 ≤ 160) : (m + 83 + 1) < m + 276 + 2 * G1_1 ∨ m + 276 + 2 * G1_1 + (320 - 2 * G1_1) ≤ (m + 83 + 1) := by omega
theorem zx_X16_makeRecord_58 {G1_0 m : Nat} (h0 : G1_0 + 28 ≤ 160) : (m + 83 + 1) < m + 276 + 2 * G1_0 ∨ m + 276 + 2 * G1_0 + 2 ≤ (m + 83 + 1) := by omega
theorem zx_X16_makeRecord_59 {m : Nat}  : (m + 83 + 1) < m ∨ m + 1 ≤ (m + 83 + 1) := by omega
theorem zx_X16_makeRecord_60 {G3_0 m : Nat} (h0 : G3_0 + 11 ≤ 44) : (m + 83 + 1) < m + 596 + 130 * G3_0 ∨ m + 596 + 130 * G3_0 + 130 ≤ (m + 83 + 1) := by omega
theorem zx_X16_makeRecord_61 {G3_0 G3_1 m : Nat} (h0 : G3_1 = G3_0 + 1) (h1 : G3_0 + 11 ≤ 44) : (m + 83 + 1) < m + 596 + 130 * G3_1 ∨ m + 596 + 130 * G3_1 + 130 ≤ (m + 83 + 1) := by omega
theorem zx_X16_makeRecord_62 {m : Nat}  : (m + 83 + 2) < m + 83 ∨ m + 83 + 1 ≤ (m + 83 + 2) := by omega
theorem zx_X16_makeRecord_63 {m : Nat}  : (m + 83 + 2) ≠ m + 83 := by omega
theorem zx_X16_makeRecord_64 {m : Nat}  : (m + 83 + 2) < m + 83 + 7 ∨ m + 83 + 7 + 1 ≤ (m + 83 + 2) := by omega
theorem zx_X16_makeRecord_65 {m : Nat}  : (m + 83 + 2) ≠ m := by omega
theorem zx_X16_makeRecord_66 {G1_0 G1_1 m : Nat} (h0 : G1_1 = G1_0 + 1) (h1 : G1_0 + 28 ≤ 160) : (m + 83 + 2) < m + 276 + 2 * G1_1 ∨ m + 276 + 2 * G1_1 + (320 - 2 * G1_1) ≤ (m + 83 + 2) := by omega
theorem zx_X16_makeRecord_67 {G1_0 m : Nat} (h0 : G1_0 + 28 ≤ 160) : (m + 83 + 2) < m + 276 + 2 * G1_0 ∨ m + 276 + 2 * G1_0 + 2 ≤ (m + 83 + 2) := by omega
theorem zx_X16_makeRecord_68 {m : Nat}  : (m + 83 + 2) < m ∨ m + 1 ≤ (m + 83 + 2) := by omega
theorem zx_X16_makeRecord_69 {G3_0 m : Nat} (h0 : G3_0 + 11 ≤ 44) : (m + 83 + 2) < m + 596 + 130 * G3_0 ∨ m + 596 + 130 * G3_0 + 130 ≤ (m + 83 + 2) := by omega
theorem zx_X16_makeRecord_70 {G3_0 G3_1 m : Nat} (h0 : G3_1 = G3_0 + 1) (h1 : G3_0 + 11 ≤ 44) : (m + 83 + 2) < m + 596 + 130 * G3_1 ∨ m + 596 + 130 * G3_1 + 130 ≤ (m + 83 + 2) := by omega
theorem zx_X16_makeRecord_71 {m : Nat}  : (m + 83 + 3) < m + 83 ∨ m + 83 + 1 ≤ (m + 83 + 3) := by omega
theorem zx_X16_makeRecord_72 {m : Nat}  : (m + 83 + 3) ≠ m + 83 := by omega
theorem zx_X16_makeRecord_73 {m : Nat}  : (m + 83 + 3) < m + 83 + 7 ∨ m + 83 + 7 + 1 ≤ (m + 83 + 3) := by omega
theorem zx_X16_makeRecord_74 {m : Nat}  : (m + 83 + 3) ≠ m := by omega
theorem zx_X16_makeRecord_75 {G1_0 G1_1 m : Nat} (h0 : G1_1 = G1_0 + 1) (h1 : G1_0 + 28 ≤ 160) : (m + 83 + 3) < m + 276 + 2 * G1_1 ∨ m + 276 + 2 * G1_1 + (320 - 2 * G1_1) ≤ (m + 83 + 3) := by omega
theorem zx_X16_makeRecord_76 {G1_0 m : Nat} (h0 : G1_0 + 28 ≤ 160) : (m + 83 + 3) < m + 276 + 2 * G1_0 ∨ m + 276 + 2 * G1_0 + 2 ≤ (m + 83 + 3) := by omega
theorem zx_X16_makeRecord_77 {m : Nat}  : (m + 83 + 3) < m ∨ m + 1 ≤ (m + 83 + 3) := by omega
theorem zx_X16_makeRecord_78 {G3_0 m : Nat} (h0 : G3_0 + 11 ≤ 44) : (m + 83 + 3) < m + 596 + 130 * G3_0 ∨ m + 596 + 130 * G3_0 + 130 ≤ (m + 83 + 3) := by omega
theorem zx_X16_makeRecord_79 {G3_0 G3_1 m : Nat} (h0 : G3_1 = G3_0 + 1) (h1 : G3_0 + 11 ≤ 44) : (m + 83 + 3) < m + 596 + 130 * G3_1 ∨ m + 596 + 130 * G3_1 + 130 ≤ (m + 83 + 3) := by omega
theorem zx_X16_makeRecord_80 {m : Nat}  : (m + 83 + 4) < m + 83 ∨ m + 83 + 1 ≤ (m + 83 + 4) := by omega
theorem zx_X16_makeRecord_81 {m : Nat}  : (m + 83 + 4) ≠ m + 83 := by omega
theorem zx_X16_makeRecord_82 {m : Nat}  : (m + 83 + 4) < m + 83 + 7 ∨ m + 83 + 7 + 1 ≤ (m + 83 + 4) := by omega
theorem zx_X16_makeRecord_83 {m : Nat}  : (m + 83 + 4) ≠ m := by omega
theorem zx_X16_makeRecord_84 {G1_0 G1_1 m : Nat} (h0 : G1_1 = G1_0 + 1) (h1 : G1_0 + 28 ≤ 160) : (m + 83 + 4) < m + 276 + 2 * G1_1 ∨ m + 276 + 2 * G1_1 + (320 - 2 * G1_1) ≤ (m + 83 + 4) := by omega
theorem zx_X16_makeRecord_85 {G1_0 m : Nat} (h0 : G1_0 + 28 ≤ 160) : (m + 83 + 4) < m + 276 + 2 * G1_0 ∨ m + 276 + 2 * G1_0 + 2 ≤ (m + 83 + 4) := by omega
theorem zx_X16_makeRecord_86 {m : Nat}  : (m + 83 + 4) < m ∨ m + 1 ≤ (m + 83 + 4) := by omega
theorem zx_X16_makeRecord_87 {G3_0 m : Nat} (h0 : G3_0 + 11 ≤ 44) : (m + 83 + 4) < m + 596 + 130 * G3_0 ∨ m + 596 + 130 * G3_0 + 130 ≤ (m + 83 + 4) := by omega
theorem zx_X16_makeRecord_88 {G3_0 G3_1 m : Nat} (h0 : G3_1 = G3_0 + 1) (h1 : G3_0 + 11 ≤ 44) : (m + 83 + 4) < m + 596 + 130 * G3_1 ∨ m + 596 + 130 * G3_1 + 130 ≤ (m + 83 + 4) := by omega
theorem zx_X16_makeRecord_89 {m : Nat}  : (m + 83 + 5) < m + 83 ∨ m + 83 + 1 ≤ (m + 83 + 5) := by omega
theorem zx_X16_makeRecord_90 {m : Nat}  : (m + 83 + 5) ≠ m + 83 := by omega
theorem zx_X16_makeRecord_91 {m : Nat}  : (m + 83 + 5) < m + 83 + 7 ∨ m + 83 + 7 + 1 ≤ (m + 83 + 5) := by omega
theorem zx_X16_makeRecord_92 {m : Nat}  : (m + 83 + 5) ≠ m := by omega
theorem zx_X16_makeRecord_93 {G1_0 G1_1 m : Nat} (h0 : G1_1 = G1_0 + 1) (h1 : G1_0 + 28 ≤ 160) : (m + 83 + 5) < m + 276 + 2 * G1_1 ∨ m + 276 + 2 * G1_1 + (320 - 2 * G1_1) ≤ (m + 83 + 5) := by omega
theorem zx_X16_makeRecord_94 {G1_0 m : Nat} (h0 : G1_0 + 28 ≤ 160) : (m + 83 + 5) < m + 276 + 2 * G1_0 ∨ m + 276 + 2 * G1_0 + 2 ≤ (m + 83 + 5) := by omega
theorem zx_X16_makeRecord_95 {m : Nat}  : (m + 83 + 5) < m ∨ m + 1 ≤ (m + 83 + 5) := by omega
theorem zx_X16_makeRecord_96 {G3_0 m : Nat} (h0 : G3_0 + 11 ≤ 44) : (m + 83 + 5) < m + 596 + 130 * G3_0 ∨ m + 596 + 130 * G3_0 + 130 ≤ (m + 83 + 5) := by omega
theorem zx_X16_makeRecord_97 {G3_0 G3_1 m : Nat} (h0 : G3_1 = G3_0 + 1) (h1 : G3_0 + 11 ≤ 44) : (m + 83 + 5) < m + 596 + 130 * G3_1 ∨ m + 596 + 130 * G3_1 + 130 ≤ (m + 83 + 5) := by omega
theorem zx_X16_makeRecord_98 {m : Nat}  : (m + 83 + 6) < m + 83 ∨ m + 83 + 1 ≤ (m + 83 + 6) := by omega
theorem zx_X16_makeRecord_99 {m : Nat}  : (m + 83 + 6) ≠ m + 83 := by omega
theorem zx_X16_makeRecord_100 {m : Nat}  : (m + 83 + 6) < m + 83 + 7 ∨ m + 83 + 7 + 1 ≤ (m + 83 + 6) := by omega
theorem zx_X16_makeRecord_101 {m : Nat}  : (m + 83 + 6) ≠ m := by omega
theorem zx_X16_makeRecord_102 {G1_0 G1_1 m : Nat} (h0 : G1_1 = G1_0 + 1) (h1 : G1_0 + 28 ≤ 160) : (m + 83 + 6) < m + 276 + 2 * G1_1 ∨ m + 276 + 2 * G1_1 + (320 - 2 * G1_1) ≤ (m + 83 + 6) := by omega
theorem zx_X16_makeRecord_103 {G1_0 m : Nat} (h0 : G1_0 + 28 ≤ 160) : (m + 83 + 6) < m + 276 + 2 * G1_0 ∨ m + 276 + 2 * G1_0 + 2 ≤ (m + 83 + 6) := by omega
theorem zx_X16_makeRecord_104 {m : Nat}  : (m + 83 + 6) < m ∨ m + 1 ≤ (m + 83 + 6) := by omega
theorem zx_X16_makeRecord_105 {G3_0 m : Nat} (h0 : G3_0 + 11 ≤ 44) : (m + 83 + 6) < m + 596 + 130 * G3_0 ∨ m + 596 + 130 * G3_0 + 130 ≤ (m + 83 + 6) := by omega
theorem zx_X16_makeRecord_106 {G3_0 G3_1 m : Nat} (h0 : G3_1 = G3_0 + 1) (h1 : G3_0 + 11 ≤ 44) : (m + 83 + 6) < m + 596 + 130 * G3_1 ∨ m + 596 + 130 * G3_1 + 130 ≤ (m + 83 + 6) := by omega
theorem zx_X16_makeRecord_107 {G1_0 m : Nat} (h0 : G1_0 + 28 ≤ 160) : (m + 83 + 7) < m + 276 + 2 * G1_0 ∨ m + 276 + 2 * G1_0 + 2 ≤ (m + 83 + 7) := by omega
theorem zx_X16_makeRecord_108 {m : Nat}  : (m + 83 + 7) < m ∨ m + 1 ≤ (m + 83 + 7) := by omega
theorem zx_X16_makeRecord_109 {G3_0 m : Nat} (h0 : G3_0 + 11 ≤ 44) : (m + 83 + 7) < m + 596 + 130 * G3_0 ∨ m + 596 + 130 * G3_0 + 130 ≤ (m + 83 + 7) := by omega
theorem zx_X16_makeRecord_110 {G3_0 G3_1 m : Nat} (h0 : G3_1 = G3_0 + 1) (h1 : G3_0 + 11 ≤ 44) : (m + 83 + 7) < m + 596 + 130 * G3_1 ∨ m + 596 + 130 * G3_1 + 130 ≤ (m + 83 + 7) := by omega
theorem zx_X16_makeRecord_111 {m : Nat}  : (m + 83 + 8) < m + 83 ∨ m + 83 + 1 ≤ (m + 83 + 8) := by omega
theorem zx_X16_makeRecord_112 {m : Nat}  : (m + 83 + 8) ≠ m + 83 := by omega
theorem zx_X16_makeRecord_113 {m : Nat}  : (m + 83 + 8) < m + 83 + 7 ∨ m + 83 + 7 + 1 ≤ (m + 83 + 8) := by omega
theorem zx_X16_makeRecord_114 {m : Nat}  : (m + 83 + 8) ≠ m := by omega
theorem zx_X16_makeRecord_115 {G1_0 G1_1 m : Nat} (h0 : G1_1 = G1_0 + 1) (h1 : G1_0 + 28 ≤ 160) : (m + 83 + 8) < m + 276 + 2 * G1_1 ∨ m + 276 + 2 * G1_1 + (320 - 2 * G1_1) ≤ (m + 83 + 8) := by omega
theorem zx_X16_makeRecord_116 {G1_0 m : Nat} (h0 : G1_0 + 28 ≤ 160) : (m + 83 + 8) < m + 276 + 2 * G1_0 ∨ m + 276 + 2 * G1_0 + 2 ≤ (m + 83 + 8) := by omega
theorem zx_X16_makeRecord_117 {m : Nat}  : (m + 83 + 8) < m ∨ m + 1 ≤ (m + 83 + 8) := by omega
theorem zx_X16_makeRecord_118 {G3_0 m : Nat} (h0 : G3_0 + 11 ≤ 44) : (m + 83 + 8) < m + 596 + 130 * G3_0 ∨ m + 596 + 130 * G3_0 + 130 ≤ (m + 83 + 8) := by omega
theorem zx_X16_makeRecord_119 {G3_0 G3_1 m : Nat} (h0 : G3_1 = G3_0 + 1) (h1 : G3_0 + 11 ≤ 44) : (m + 83 + 8) < m + 596 + 130 * G3_1 ∨ m + 596 + 130 * G3_1 + 130 ≤ (m + 83 + 8) := by omega
theorem zx_X16_makeRecord_120 {G1_0 m x : Nat} (h0 : x < m + 276 + 2 * G1_0 ∨ m + 276 + 2 * G1_0 + (320 - 2 * G1_0) ≤ x) (h1 : G1_0 + 28 ≤ 160) : x < m + 276 + 2 * G1_0 ∨ m + 276 + 2 * G1_0 + 2 ≤ x := by omega
theorem zx_X16_makeRecord_121 {m sz x : Nat} (h0 : x < m + 8322 ∨ m + 8322 + 1000000000000 ≤ x) (h1 : m + 8322 ≤ sz) (h2 : sz + 1 ≤ m + 8322 + 1000000000000) : x ≠ sz := by omega
theorem zx_X16_makeRecord_122 {G1_0 m x : Nat} (h0 : x < m + 276 + 2 * G1_0 ∨ m + 276 + 2 * G1_0 + (320 - 2 * G1_0) ≤ x) (h1 : G1_0 + 28 ≤ 160) : x ≠ m + 276 + 2 * G1_0 := by omega
theorem zx_X16_makeRecord_123 {m sz x : Nat} (h0 : x < m + 8322 ∨ m + 8322 + 1000000000000 ≤ x) (h1 : m + 8322 ≤ sz) (h2 : sz + 1 ≤ m + 8322 + 1000000000000) : x < sz ∨ sz + 1 ≤ x := by omega
theorem zx_X16_makeRecord_124 {m x : Nat} (h0 : x < m ∨ m + 1 ≤ x) : x ≠ m := by omega
theorem zx_X16_makeRecord_125 {m x : Nat} (h0 : x < m + 83 ∨ m + 83 + 9 ≤ x) : x < m + 83 ∨ m + 83 + 1 ≤ x := by omega
theorem zx_X16_makeRecord_126 {m x : Nat} (h0 : x < m + 83 ∨ m + 83 + 9 ≤ x) : x ≠ m + 83 := by omega
theorem zx_X16_makeRecord_127 {m x : Nat} (h0 : x < m + 83 ∨ m + 83 + 9 ≤ x) : x < m + 83 + 7 ∨ m + 83 + 7 + 1 ≤ x := by omega
theorem zx_X16_makeRecord_128 {G1_0 G1_1 m x : Nat} (h0 : x < m + 276 + 2 * G1_0 ∨ m + 276 + 2 * G1_0 + (320 - 2 * G1_0) ≤ x) (h1 : G1_1 = G1_0 + 1) (h2 : G1_0 + 28 ≤ 160) : x < m + 276 + 2 * G1_1 ∨ m + 276 + 2 * G1_1 + (320 - 2 * G1_1) ≤ x := by omega
theorem zx_X16_makeRecord_129 {G3_0 m x : Nat} (h0 : x < m + 596 + 130 * G3_0 ∨ m + 596 + 130 * G3_0 + (5720 - 130 * G3_0) ≤ x) (h1 : G3_0 + 11 ≤ 44) : x < m + 596 + 130 * G3_0 ∨ m + 596 + 130 * G3_0 + 130 ≤ x := by omega
theorem zx_X16_makeRecord_130 {G3_0 G3_1 m x : Nat} (h0 : x < m + 596 + 130 * G3_0 ∨ m + 596 + 130 * G3_0 + (5720 - 130 * G3_0) ≤ x) (h1 : G3_1 = G3_0 + 1) (h2 : G3_0 + 11 ≤ 44) : x < m + 596 + 130 * G3_1 ∨ m + 596 + 130 * G3_1 + 130 ≤ x := by omega
theorem zx_X16_makeRecord_131 {G3_0 m x : Nat} (h0 : m + 596 + 130 * G3_0 ≤ x) (h1 : x < m + 596 + 130 * G3_0 + 130) (h2 : G3_0 + 11 ≤ 44) : x < m ∨ m + 1 ≤ x := by omega
theorem zx_X16_makeRecord_132 {G3_0 G3_1 m x : Nat} (h0 : m + 596 + 130 * G3_0 ≤ x) (h1 : x < m + 596 + 130 * G3_0 + 130) (h2 : G3_1 = G3_0 + 1) (h3 : G3_0 + 11 ≤ 44) : x < m + 596 + 130 * G3_1 ∨ m + 596 + 130 * G3_1 + 130 ≤ x := by omega
theorem zx_X16_makeRecord_133 {G3_0 fB m x : Nat} (h0 : fB ≤ x) (h1 : x < fB + 130) (h2 : m + 596 ≤ fB ∧ fB + 130 ≤ m + 596 + 130 * G3_0) (h3 : G3_0 + 11 ≤ 44) : x < m ∨ m + 1 ≤ x := by omega
theorem zx_X16_makeRecord_134 {G1_0 G3_0 fB m x : Nat} (h0 : fB ≤ x) (h1 : x < fB + 130) (h2 : m + 596 ≤ fB ∧ fB + 130 ≤ m + 596 + 130 * G3_0) (h3 : G1_0 + 28 ≤ 160) (h4 : G3_0 + 11 ≤ 44) : x < m + 276 + 2 * G1_0 ∨ m + 276 + 2 * G1_0 + 2 ≤ x := by omega
theorem zx_X16_makeRecord_135 {G3_0 fB m sz x : Nat} (h0 : fB ≤ x) (h1 : x < fB + 130) (h2 : m + 596 ≤ fB ∧ fB + 130 ≤ m + 596 + 130 * G3_0) (h3 : m + 8322 ≤ sz) (h4 : sz + 1 ≤ m + 8322 + 1000000000000) (h5 : G3_0 + 11 ≤ 44) : x ≠ sz := by omega
theorem zx_X16_makeRecord_136 {G1_0 G3_0 fB m x : Nat} (h0 : fB ≤ x) (h1 : x < fB + 130) (h2 : m + 596 ≤ fB ∧ fB + 130 ≤ m + 596 + 130 * G3_0) (h3 : G1_0 + 28 ≤ 160) (h4 : G3_0 + 11 ≤ 44) : x ≠ m + 276 + 2 * G1_0 := by omega
theorem zx_X16_makeRecord_137 {G3_0 fB m sz x : Nat} (h0 : fB ≤ x) (h1 : x < fB + 130) (h2 : m + 596 ≤ fB ∧ fB + 130 ≤ m + 596 + 130 * G3_0) (h3 : m + 8322 ≤ sz) (h4 : sz + 1 ≤ m + 8322 + 1000000000000) (h5 : G3_0 + 11 ≤ 44) : x < sz ∨ sz + 1 ≤ x := by omega
theorem zx_X16_makeRecord_138 {G1_0 G3_0 fB m x : Nat} (h0 : fB ≤ x) (h1 : x < fB + 130) (h2 : m + 596 ≤ fB ∧ fB + 130 ≤ m + 596 + 130 * G3_0) (h3 : G1_0 + 28 ≤ 160) (h4 : G3_0 + 11 ≤ 44) : x < m + 276 + 2 * G1_0 ∨ m + 276 + 2 * G1_0 + (320 - 2 * G1_0) ≤ x := by omega
theorem zx_X16_makeRecord_139 {G3_0 fB m x : Nat} (h0 : fB ≤ x) (h1 : x < fB + 130) (h2 : m + 596 ≤ fB ∧ fB + 130 ≤ m + 596 + 130 * G3_0) (h3 : G3_0 + 11 ≤ 44) : x ≠ m := by omega
theorem zx_X16_makeRecord_140 {G3_0 fB m x : Nat} (h0 : fB ≤ x) (h1 : x < fB + 130) (h2 : m + 596 ≤ fB ∧ fB + 130 ≤ m + 596 + 130 * G3_0) (h3 : G3_0 + 11 ≤ 44) : x < m + 83 ∨ m + 83 + 1 ≤ x := by omega
theorem zx_X16_makeRecord_141 {G3_0 fB m x : Nat} (h0 : fB ≤ x) (h1 : x < fB + 130) (h2 : m + 596 ≤ fB ∧ fB + 130 ≤ m + 596 + 130 * G3_0) (h3 : G3_0 + 11 ≤ 44) : x ≠ m + 83 := by omega
theorem zx_X16_makeRecord_142 {G3_0 fB m x : Nat} (h0 : fB ≤ x) (h1 : x < fB + 130) (h2 : m + 596 ≤ fB ∧ fB + 130 ≤ m + 596 + 130 * G3_0) (h3 : G3_0 + 11 ≤ 44) : x < m + 83 + 7 ∨ m + 83 + 7 + 1 ≤ x := by omega
theorem zx_X16_makeRecord_143 {G1_0 G1_1 G3_0 fB m x : Nat} (h0 : fB ≤ x) (h1 : x < fB + 130) (h2 : m + 596 ≤ fB ∧ fB + 130 ≤ m + 596 + 130 * G3_0) (h3 : G1_1 = G1_0 + 1) (h4 : G1_0 + 28 ≤ 160) (h5 : G3_0 + 11 ≤ 44) : x < m + 276 + 2 * G1_1 ∨ m + 276 + 2 * G1_1 + (320 - 2 * G1_1) ≤ x := by omega
theorem zx_X16_makeRecord_144 {G3_0 fB m x : Nat} (h0 : fB ≤ x) (h1 : x < fB + 130) (h2 : m + 596 ≤ fB ∧ fB + 130 ≤ m + 596 + 130 * G3_0) (h3 : G3_0 + 11 ≤ 44) : x < m + 596 + 130 * G3_0 ∨ m + 596 + 130 * G3_0 + 130 ≤ x := by omega
theorem zx_X16_makeRecord_145 {G3_0 G3_1 fB m x : Nat} (h0 : fB ≤ x) (h1 : x < fB + 130) (h2 : m + 596 ≤ fB ∧ fB + 130 ≤ m + 596 + 130 * G3_0) (h3 : G3_1 = G3_0 + 1) (h4 : G3_0 + 11 ≤ 44) : x < m + 596 + 130 * G3_1 ∨ m + 596 + 130 * G3_1 + 130 ≤ x := by omega
theorem zx_X16_makeRecord_146 {G3_0 fC m x : Nat} (h0 : fC ≤ x) (h1 : x < fC + 130) (h2 : m + 596 ≤ fC ∧ fC + 130 ≤ m + 596 + 130 * G3_0) (h3 : G3_0 + 11 ≤ 44) : x < m ∨ m + 1 ≤ x := by omega
theorem zx_X16_makeRecord_147 {G1_0 G3_0 fC m x : Nat} (h0 : fC ≤ x) (h1 : x < fC + 130) (h2 : m + 596 ≤ fC ∧ fC + 130 ≤ m + 596 + 130 * G3_0) (h3 : G1_0 + 28 ≤ 160) (h4 : G3_0 + 11 ≤ 44) : x < m + 276 + 2 * G1_0 ∨ m + 276 + 2 * G1_0 + 2 ≤ x := by omega
theorem zx_X16_makeRecord_148 {G3_0 fC m sz x : Nat} (h0 : fC ≤ x) (h1 : x < fC + 130) (h2 : m + 596 ≤ fC ∧ fC + 130 ≤ m + 596 + 130 * G3_0) (h3 : m + 8322 ≤ sz) (h4 : sz + 1 ≤ m + 8322 + 1000000000000) (h5 : G3_0 + 11 ≤ 44) : x ≠ sz := by omega
theorem zx_X16_makeRecord_149 {G1_0 G3_0 fC m x : Nat} (h0 : fC ≤ x) (h1 : x < fC + 130) (h2 : m + 596 ≤ fC ∧ fC + 130 ≤ m + 596 + 130 * G3_0) (h3 : G1_0 + 28 ≤ 160) (h4 : G3_0 + 11 ≤ 44) : x ≠ m + 276 + 2 * G1_0 := by omega
theorem zx_X16_makeRecord_150 {G3_0 fC m sz x : Nat} (h0 : fC ≤ x) (h1 : x < fC + 130) (h2 : m + 596 ≤ fC ∧ fC + 130 ≤ m + 596 + 130 * G3_0) (h3 : m + 8322 ≤ sz) (h4 : sz + 1 ≤ m + 8322 + 1000000000000) (h5 : G3_0 + 11 ≤ 44) : x < sz ∨ sz + 1 ≤ x := by omega
theorem zx_X16_makeRecord_151 {G1_0 G3_0 fC m x : Nat} (h0 : fC ≤ x) (h1 : x < fC + 130) (h2 : m + 596 ≤ fC ∧ fC + 130 ≤ m + 596 + 130 * G3_0) (h3 : G1_0 + 28 ≤ 160) (h4 : G3_0 + 11 ≤ 44) : x < m + 276 + 2 * G1_0 ∨ m + 276 + 2 * G1_0 + (320 - 2 * G1_0) ≤ x := by omega
theorem zx_X16_makeRecord_152 {G3_0 fC m x : Nat} (h0 : fC ≤ x) (h1 : x < fC + 130) (h2 : m + 596 ≤ fC ∧ fC + 130 ≤ m + 596 + 130 * G3_0) (h3 : G3_0 + 11 ≤ 44) : x ≠ m := by omega
theorem zx_X16_makeRecord_153 {G3_0 fC m x : Nat} (h0 : fC ≤ x) (h1 : x < fC + 130) (h2 : m + 596 ≤ fC ∧ fC + 130 ≤ m + 596 + 130 * G3_0) (h3 : G3_0 + 11 ≤ 44) : x < m + 83 ∨ m + 83 + 1 ≤ x := by omega
theorem zx_X16_makeRecord_154 {G3_0 fC m x : Nat} (h0 : fC ≤ x) (h1 : x < fC + 130) (h2 : m + 596 ≤ fC ∧ fC + 130 ≤ m + 596 + 130 * G3_0) (h3 : G3_0 + 11 ≤ 44) : x ≠ m + 83 := by omega
theorem zx_X16_makeRecord_155 {G3_0 fC m x : Nat} (h0 : fC ≤ x) (h1 : x < fC + 130) (h2 : m + 596 ≤ fC ∧ fC + 130 ≤ m + 596 + 130 * G3_0) (h3 : G3_0 + 11 ≤ 44) : x < m + 83 + 7 ∨ m + 83 + 7 + 1 ≤ x := by omega
theorem zx_X16_makeRecord_156 {G1_0 G1_1 G3_0 fC m x : Nat} (h0 : fC ≤ x) (h1 : x < fC + 130) (h2 : m + 596 ≤ fC ∧ fC + 130 ≤ m + 596 + 130 * G3_0) (h3 : G1_1 = G1_0 + 1) (h4 : G1_0 + 28 ≤ 160) (h5 : G3_0 + 11 ≤ 44) : x < m + 276 + 2 * G1_1 ∨ m + 276 + 2 * G1_1 + (320 - 2 * G1_1) ≤ x := by omega
theorem zx_X16_makeRecord_157 {G3_0 fC m x : Nat} (h0 : fC ≤ x) (h1 : x < fC + 130) (h2 : m + 596 ≤ fC ∧ fC + 130 ≤ m + 596 + 130 * G3_0) (h3 : G3_0 + 11 ≤ 44) : x < m + 596 + 130 * G3_0 ∨ m + 596 + 130 * G3_0 + 130 ≤ x := by omega
theorem zx_X16_makeRecord_158 {G3_0 G3_1 fC m x : Nat} (h0 : fC ≤ x) (h1 : x < fC + 130) (h2 : m + 596 ≤ fC ∧ fC + 130 ≤ m + 596 + 130 * G3_0) (h3 : G3_1 = G3_0 + 1) (h4 : G3_0 + 11 ≤ 44) : x < m + 596 + 130 * G3_1 ∨ m + 596 + 130 * G3_1 + 130 ≤ x := by omega
theorem zx_X16_makeRecord_159 {G3_0 m q x : Nat} (h0 : q ≤ x) (h1 : x < q + 130) (h2 : m + 596 ≤ q ∧ q + 130 ≤ m + 596 + 130 * G3_0) (h3 : G3_0 + 11 ≤ 44) : x < m + 596 + 130 * G3_0 ∨ m + 596 + 130 * G3_0 + 130 ≤ x := by omega
theorem zx_X16_makeRecord_160 {G3_0 G3_1 m q x : Nat} (h0 : q ≤ x) (h1 : x < q + 130) (h2 : m + 596 ≤ q ∧ q + 130 ≤ m + 596 + 130 * G3_0) (h3 : G3_1 = G3_0 + 1) (h4 : G3_0 + 11 ≤ 44) : x < m + 596 + 130 * G3_1 ∨ m + 596 + 130 * G3_1 + 130 ≤ x := by omega
theorem zx_X16_makeRecord_161 {G1_0 m x : Nat} (h0 : m + 276 + 2 * G1_0 ≤ x) (h1 : x < m + 276 + 2 * G1_0 + 2) (h2 : G1_0 + 28 ≤ 160) : x < m ∨ m + 1 ≤ x := by omega
theorem zx_X16_makeRecord_162 {G1_0 G3_0 m x : Nat} (h0 : m + 276 + 2 * G1_0 ≤ x) (h1 : x < m + 276 + 2 * G1_0 + 2) (h2 : G1_0 + 28 ≤ 160) (h3 : G3_0 + 11 ≤ 44) : x < m + 596 + 130 * G3_0 ∨ m + 596 + 130 * G3_0 + 130 ≤ x := by omega
theorem zx_X16_makeRecord_163 {G1_0 G3_0 G3_1 m x : Nat} (h0 : m + 276 + 2 * G1_0 ≤ x) (h1 : x < m + 276 + 2 * G1_0 + 2) (h2 : G3_1 = G3_0 + 1) (h3 : G1_0 + 28 ≤ 160) (h4 : G3_0 + 11 ≤ 44) : x < m + 596 + 130 * G3_1 ∨ m + 596 + 130 * G3_1 + 130 ≤ x := by omega
theorem zx_X16_makeRecord_164 {m : Nat}  : (m + 176) < m ∨ m + 1 ≤ (m + 176) := by omega
theorem zx_X16_makeRecord_165 {G1_0 m : Nat} (h0 : G1_0 + 28 ≤ 160) : (m + 176) < m + 276 + 2 * G1_0 ∨ m + 276 + 2 * G1_0 + 2 ≤ (m + 176) := by omega
theorem zx_X16_makeRecord_166 {m sz : Nat} (h0 : m + 8322 ≤ sz) (h1 : sz + 1 ≤ m + 8322 + 1000000000000) : (m + 176) ≠ sz := by omega
theorem zx_X16_makeRecord_167 {G1_0 m : Nat} (h0 : G1_0 + 28 ≤ 160) : (m + 176) ≠ m + 276 + 2 * G1_0 := by omega
theorem zx_X16_makeRecord_168 {m sz : Nat} (h0 : m + 8322 ≤ sz) (h1 : sz + 1 ≤ m + 8322 + 1000000000000) : (m + 176) < sz ∨ sz + 1 ≤ (m + 176) := by omega
theorem zx_X16_makeRecord_169 {G1_0 m : Nat} (h0 : G1_0 + 28 ≤ 160) : (m + 176) < m + 276 + 2 * G1_0 ∨ m + 276 + 2 * G1_0 + (320 - 2 * G1_0) ≤ (m + 176) := by omega
theorem zx_X16_makeRecord_170 {m : Nat}  : (m + 176) ≠ m := by omega
theorem zx_X16_makeRecord_171 {m : Nat}  : (m + 176) < m + 83 ∨ m + 83 + 1 ≤ (m + 176) := by omega
theorem zx_X16_makeRecord_172 {m : Nat}  : (m + 176) ≠ m + 83 := by omega
theorem zx_X16_makeRecord_173 {m : Nat}  : (m + 176) < m + 83 + 7 ∨ m + 83 + 7 + 1 ≤ (m + 176) := by omega
theorem zx_X16_makeRecord_174 {G1_0 G1_1 m : Nat} (h0 : G1_1 = G1_0 + 1) (h1 : G1_0 + 28 ≤ 160) : (m + 176) < m + 276 + 2 * G1_1 ∨ m + 276 + 2 * G1_1 + (320 - 2 * G1_1) ≤ (m + 176) := by omega
theorem zx_X16_makeRecord_175 {G3_0 m : Nat} (h0 : G3_0 + 11 ≤ 44) : (m + 176) < m + 596 + 130 * G3_0 ∨ m + 596 + 130 * G3_0 + 130 ≤ (m + 176) := by omega
theorem zx_X16_makeRecord_176 {G3_0 G3_1 m : Nat} (h0 : G3_1 = G3_0 + 1) (h1 : G3_0 + 11 ≤ 44) : (m + 176) < m + 596 + 130 * G3_1 ∨ m + 596 + 130 * G3_1 + 130 ≤ (m + 176) := by omega
theorem zx_X16_makeRecord_177 {m : Nat}  : (m + 83) < m + 83 + 1 ∨ m + 83 + 1 + 2 ≤ (m + 83) := by omega
theorem zx_X16_makeRecord_178 {m : Nat}  : (m + 83 + 3) < m + 83 + 1 ∨ m + 83 + 1 + 2 ≤ (m + 83 + 3) := by omega
theorem zx_X16_makeRecord_179 {m : Nat}  : (m + 83 + 4) < m + 83 + 1 ∨ m + 83 + 1 + 2 ≤ (m + 83 + 4) := by omega
theorem zx_X16_makeRecord_180 {m : Nat}  : (m + 83 + 5) < m + 83 + 1 ∨ m + 83 + 1 + 2 ≤ (m + 83 + 5) := by omega
theorem zx_X16_makeRecord_181 {m : Nat}  : (m + 83 + 6) < m + 83 + 1 ∨ m + 83 + 1 + 2 ≤ (m + 83 + 6) := by omega
theorem zx_X16_makeRecord_182 {m : Nat}  : (m + 83 + 7) < m + 83 + 1 ∨ m + 83 + 1 + 2 ≤ (m + 83 + 7) := by omega
theorem zx_X16_makeRecord_183 {m : Nat}  : (m + 83 + 8) < m + 83 + 1 ∨ m + 83 + 1 + 2 ≤ (m + 83 + 8) := by omega
theorem zx_X16_makeRecord_184 {m : Nat}  : m < m + 83 + 1 ∨ m + 83 + 1 + 2 ≤ m := by omega
theorem zx_X16_makeRecord_185 {m x : Nat} (h0 : x < m + 83 ∨ m + 83 + 9 ≤ x) : x < m + 83 + 1 ∨ m + 83 + 1 + 2 ≤ x := by omega
theorem zx_X16_makeRecord_186 {G1_0 G1_1 m sz : Nat} (h0 : m + 8322 ≤ sz) (h1 : sz + 1 ≤ m + 8322 + 1000000000000) (h2 : G1_1 = G1_0 + 1) (h3 : G1_0 + 28 ≤ 160) : sz < m + 276 + 2 * G1_1 ∨ m + 276 + 2 * G1_1 + (320 - 2 * G1_1) ≤ sz := by omega
theorem zx_X16_makeRecord_187 {m : Nat}  : m < m + 83 + 7 ∨ m + 83 + 7 + 1 ≤ m := by omega
theorem zx_X16_makeRecord_188 {m x : Nat} (h0 : x < m + 83 + 7 ∨ m + 83 + 7 + 1 ≤ x) : x ≠ m + 83 + 7 := by omega
theorem zx_X16_makeRecord_189 {m : Nat}  : m ≠ m + 83 + 7 := by omega
theorem zx_X16_makeRecord_190 {m : Nat}  : (m + 83 + 7) < m + 83 ∨ m + 83 + 1 ≤ (m + 83 + 7) := by omega
theorem zx_X16_makeRecord_191 {m : Nat}  : (m + 83 + 7) ≠ m + 83 := by omega
theorem zx_X16_makeRecord_192 {m sz : Nat} (h0 : m + 8322 ≤ sz) (h1 : sz + 1 ≤ m + 8322 + 1000000000000) : sz < m ∨ m + 1 ≤ sz := by omega
theorem zx_X16_makeRecord_193 {m : Nat}  : (m + 180) < m ∨ m + 1 ≤ (m + 180) := by omega
theorem zx_X16_makeRecord_194 {G1_0 m : Nat} (h0 : G1_0 + 28 ≤ 160) : (m + 180) < m + 276 + 2 * G1_0 ∨ m + 276 + 2 * G1_0 + 2 ≤ (m + 180) := by omega
theorem zx_X16_makeRecord_195 {m sz : Nat} (h0 : m + 8322 ≤ sz) (h1 : sz + 1 ≤ m + 8322 + 1000000000000) : (m + 180) ≠ sz := by omega
theorem zx_X16_makeRecord_196 {G1_0 m : Nat} (h0 : G1_0 + 28 ≤ 160) : (m + 180) ≠ m + 276 + 2 * G1_0 := by omega
theorem zx_X16_makeRecord_197 {m sz : Nat} (h0 : m + 8322 ≤ sz) (h1 : sz + 1 ≤ m + 8322 + 1000000000000) : (m + 180) < sz ∨ sz + 1 ≤ (m + 180) := by omega
theorem zx_X16_makeRecord_198 {G1_0 m : Nat} (h0 : G1_0 + 28 ≤ 160) : (m + 180) < m + 276 + 2 * G1_0 ∨ m + 276 + 2 * G1_0 + (320 - 2 * G1_0) ≤ (m + 180) := by omega
theorem zx_X16_makeRecord_199 {m : Nat}  : (m + 180) ≠ m := by omega
theorem zx_X16_makeRecord_200 {G1_0 m sz x : Nat} (h0 : m + 276 + 2 * G1_0 ≤ x) (h1 : x < m + 276 + 2 * G1_0 + 2) (h2 : m + 8322 ≤ sz) (h3 : sz + 1 ≤ m + 8322 + 1000000000000) (h4 : G1_0 + 28 ≤ 160) : x ≠ sz := by omega
theorem zx_X16_makeRecord_201 {m sz x : Nat} (h0 : x < sz ∨ sz + 1 ≤ x) (h1 : m + 8322 ≤ sz) (h2 : sz + 1 ≤ m + 8322 + 1000000000000) : x ≠ sz := by omega
theorem zx_X16_makeRecord_202 {G1_0 m sz : Nat} (h0 : m + 8322 ≤ sz) (h1 : sz + 1 ≤ m + 8322 + 1000000000000) (h2 : G1_0 + 28 ≤ 160) : sz < m + 276 + 2 * G1_0 ∨ m + 276 + 2 * G1_0 + 2 ≤ sz := by omega
theorem zx_X16_makeRecord_203 {G1_0 m sz : Nat} (h0 : m + 8322 ≤ sz) (h1 : sz + 1 ≤ m + 8322 + 1000000000000) (h2 : G1_0 + 28 ≤ 160) : sz ≠ m + 276 + 2 * G1_0 := by omega
set_option maxHeartbeats 8000000 in
set_option maxRecDepth 100000 in
theorem c_X16_makeRecord {w : zM} {g : Nat → Int32} {r : Nat → Value} {fB fC aD : Nat} {PB0 PC0 Pq : zA2} {Pd : zA1} {fw fd : Nat → Option Nat} {g1 : Int32} {g3 : Int32} (m : Nat) (from9 : Int32) (last9 : Int32) (q : Nat) (SA : Nat) (DA : Nat) (Pg : Nat → zA1) (Dn : Nat → zA1) (hm : w m = some (.inl (15, zMo m g r))) (hR_m : zR m w) (hrB : r 40 = .ref fB) (hrC : r 41 = .ref fC) (hrD : r 43 = .ref aD) (hTm_m_83 : zTm w (m + 83)) (hB_fB : zB w fB PB0) (hB_fC : zB w fC PC0) (hB_q : zB w q Pq) (hU_aD : zU w aD 1000 Pd) (hV_m_176 : w (m + 176) = some (.inr (4, 14, .inr fw))) (hV_m_180 : w (m + 180) = some (.inr (4, 4, .inr fd))) (hut : 0 ≤ g1.toInt ∧ g1.toInt + 28 ≤ 160) (hbt : 0 ≤ g3.toInt ∧ g3.toInt + 11 ≤ 44) (hmfB : m + 596 ≤ fB ∧ fB + 130 ≤ m + 596 + 130 * g3.toNatClampNeg) (hmfC : m + 596 ≤ fC ∧ fC + 130 ≤ m + 596 + 130 * g3.toNatClampNeg) (hmq : m + 596 ≤ q ∧ q + 130 ≤ m + 596 + 130 * g3.toNatClampNeg) (hmaD : m + 276 ≤ aD ∧ aD + 2 ≤ m + 276 + 2 * g1.toNatClampNeg) (hfl : 0 ≤ from9.toInt ∧ from9.toInt ≤ 9 ∧ 0 ≤ last9.toInt ∧ last9.toInt ≤ 3 ∧ from9.toInt + last9.toInt ≤ 13) (hSA : m + 276 ≤ SA ∧ SA + 2 * (from9.toNatClampNeg + last9.toNatClampNeg) + 2 ≤ m + 276 + 2 * g1.toNatClampNeg) (hDA : m + 276 ≤ DA ∧ DA + 2 * last9.toNatClampNeg + 2 ≤ m + 276 + 2 * g1.toNatClampNeg) (hsm : ∀ t, t ≤ from9.toNatClampNeg + last9.toNatClampNeg → fw t = some (SA + 2 * t) ∧ zU w (SA + 2 * t) 1000 (Pg t) ∧ zln (Pg t) ≤ 499) (hsl : 0 < zln (Pg (from9.toNatClampNeg + last9.toNatClampNeg))) (hdn : ∀ t, t ≤ last9.toNatClampNeg → fd t = some (DA + 2 * t) ∧ zU w (DA + 2 * t) 1000 (Dn t) ∧ 0 < zln (Dn t) ∧ zln (Dn t) ≤ 13) (hsz : (0 < zrw PB0 ∧ zrw PB0 ≤ 9 ∧ zdn PB0 ≤ 12) ∧ (0 < zrw PC0 ∧ zrw PC0 ≤ 9 ∧ zdn PC0 ≤ 12) ∧ (0 < zrw Pq ∧ zrw Pq ≤ 9 ∧ zdn Pq ≤ 12) ∧ 0 < zln Pd ∧ zln Pd ≤ 13) (hg1 : g 1 = g1) (hg3 : g 3 = g3) : zConN 11 (m + 8322) 1 4 zq_X16_makeRecord [.ref m, .int from9, .int last9, .ref q] w (fun v9 w9' => ∃ X9 : Int32, ∃ Y9 : Int32, zSI w w9' ∧ (∀ x, (x < m ∨ m + 1 ≤ x) ∧ (x < m + 83 ∨ m + 83 + 9 ≤ x) ∧ (x < m + 276 + 2 * g1.toNatClampNeg ∨ m + 276 + 2 * g1.toNatClampNeg + (320 - 2 * g1.toNatClampNeg) ≤ x) ∧ (x < m + 596 + 130 * g3.toNatClampNeg ∨ m + 596 + 130 * g3.toNatClampNeg + (5720 - 130 * g3.toNatClampNeg) ≤ x) ∧ (x < m + 3 ∨ m + 3 + 1 ≤ x) ∧ (x < m + 5 ∨ m + 5 + 64 ≤ x) ∧ (x < m + 8322 ∨ m + 8322 + 1000000000000 ≤ x) → w9' x = w x) ∧ w9' m = some (.inl (15, zMo m (zs (zs g 1 X9) 3 Y9) r)) ∧ zTm w9' (m + 83) ∧ ∃ r9 : Int32, v9 = some (.int r9) ∧ (r9 = 0 ∨ r9 = 1) ∧ (r9 = 1 → zTi w9' (m + 83) 3)) := by
  subst hg1
  subst hg3
  intro d sz hd hsz9 hsz8 hno9
  obtain ⟨d, rfl⟩ : ∃ d9, d = d9 + 1 := ⟨d - 1, by omega⟩
  generalize hPost : (fun (r9' : Option (Option Value)) (w9' : zM) (z9 : Nat) => (sz ≤ z9 ∧ z9 ≤ sz + 1) ∧ (∀ x, z9 ≤ x → w9' x = none) ∧ ∃ v9, r9' = some v9 ∧ (∃ X9 : Int32, ∃ Y9 : Int32, zSI w w9' ∧ (∀ x, (x < m ∨ m + 1 ≤ x) ∧ (x < m + 83 ∨ m + 83 + 9 ≤ x) ∧ (x < m + 276 + 2 * (g 1).toNatClampNeg ∨ m + 276 + 2 * (g 1).toNatClampNeg + (320 - 2 * (g 1).toNatClampNeg) ≤ x) ∧ (x < m + 596 + 130 * (g 3).toNatClampNeg ∨ m + 596 + 130 * (g 3).toNatClampNeg + (5720 - 130 * (g 3).toNatClampNeg) ≤ x) ∧ (x < m + 3 ∨ m + 3 + 1 ≤ x) ∧ (x < m + 5 ∨ m + 5 + 64 ≤ x) ∧ (x < m + 8322 ∨ m + 8322 + 1000000000000 ≤ x) → w9' x = w x) ∧ w9' m = some (.inl (15, zMo m (zs (zs g 1 X9) 3 Y9) r)) ∧ zTm w9' (m + 83) ∧ ∃ r9 : Int32, v9 = some (.int r9) ∧ (r9 = 0 ∨ r9 = 1) ∧ (r9 = 1 → zTi w9' (m + 83) 3))) = Post
  show zP (d + 1) zq_X16_makeRecord 0 [(0, .ref m), (1, .int from9), (2, .int last9), (3, .ref q)] [] w sz 1 4 Post
  have k1 := zrng from9
  have k2 := zrng last9
  have k3 := zrng (g 1)
  have hz4 : ((g 1).toNatClampNeg : Int) = (g 1).toInt := znat (by first | omega | decide)
  have hgb1 : (g 1).toNatClampNeg + 28 ≤ 160 := by omega
  have k5 := zrng (g 3)
  have hz6 : ((g 3).toNatClampNeg : Int) = (g 3).toInt := znat (by first | omega | decide)
  have hgb3 : (g 3).toNatClampNeg + 11 ≤ 44 := by omega
  have hz7 : (from9.toNatClampNeg : Int) = from9.toInt := znat (by first | omega | decide)
  have hz8 : (last9.toNatClampNeg : Int) = last9.toInt := znat (by first | omega | decide)
  have k10 := zaddC (g 1) 1 (n := 1) (by decide) (by omega) (by omega)
  have hz11 : ((g 1 + 1).toNatClampNeg : Int) = (g 1 + 1).toInt := znat (by first | omega | decide)
  have hgn1_1 : (g 1 + 1).toNatClampNeg = (g 1).toNatClampNeg + 1 := by omega
  refine zp_seg (pc' := 1) (lv' := [(0, .ref m), (1, .int from9), (2, .int last9), (3, .ref q)]) (st' := [.ref m]) [(0, .aload_n 0)] (by decide +kernel) rfl ?_
  refine zr_callV (idx := 74) (j := 263) (by decide +kernel) (by decide +kernel) (show zMe 263 = some zq_X16_newU from rfl) rfl rfl (Nat.le_of_ble_eq_true rfl) rfl rfl hm (Nat.le_of_ble_eq_true rfl) (Nat.le_of_ble_eq_true rfl) (c_X16_newU (w := w) (g1 := (g 1)) m hm hR_m (by first | omega | decide | assumption | exact zr1_1 | exact zr1_0 | fail "num") rfl) (by omega) (fun v1 w1 hp1 => ?_)
  obtain ⟨hsi1, heq1, hp1_0, hp1_1, rfl⟩ := hp1
  have hM1 : w1 m = some (.inl (15, zMo m (zs g 1 (g 1 + 1)) r)) := hp1_0
  show zP _ _ _ _ [.ref (m + 276 + 2 * (g 1).toNatClampNeg)] _ _ _ _ _
  refine zp_seg (pc' := 7) (lv' := [(4, .ref (m + 276 + 2 * (g 1).toNatClampNeg)), (0, .ref m), (1, .int from9), (2, .int last9), (3, .ref q)]) (st' := [.int 4]) [(4, .astore 4), (6, .iconst 4)] (by decide +kernel) rfl ?_
  refine zr_anew (idx := 26) (N := 4) (by decide +kernel) (by decide +kernel) (by decide) (by decide) (by decide) (by omega) (by omega) ?_
  have hno12 : w1 sz = none := (heq1 sz (by omega)).trans (hno9 sz (by omega))
  show zP (d + 1) zq_X16_makeRecord 10 [(4, .ref (m + 276 + 2 * (g 1).toNatClampNeg)), (0, .ref m), (1, .int from9), (2, .int last9), (3, .ref q)] [.ref sz] (zup w1 sz (.inr (4, 4, .inr ((fun _ => none))))) (sz + 1) (1 - 1) (4 - 4) Post
  obtain ⟨w7, ew7⟩ : ∃ wz9, wz9 = zup w1 sz (.inr (4, 4, .inr ((fun _ => none)))) := ⟨_, rfl⟩
  have hsi7 : zSI w1 w7 := by rw [ew7]; exact zSI.new hno12
  have heq7 : ∀ x, x ≠ sz → w7 x = w1 x := fun x hx => by rw [ew7]; exact zup_n hx
  have hc7 : w7 sz = some (.inr (4, 4, .inr ((fun _ => none)))) := by rw [ew7]; exact zup_s
  rw [← ew7]
  clear ew7
  refine zp_seg (pc' := 15) (lv' := [(5, .ref sz), (4, .ref (m + 276 + 2 * (g 1).toNatClampNeg)), (0, .ref m), (1, .int from9), (2, .int last9), (3, .ref q)]) (st' := [.int 0, .ref (m + 276 + 2 * (g 1).toNatClampNeg)]) [(10, .astore 5), (12, .aload 4), (14, .iconst 0)] (by decide +kernel) rfl ?_
  obtain ⟨n13, f14, hu15, hu16, hu17, hu18, hu19⟩ := id hp1_1
  have kn13 := zrng n13
  have hb20 : w7 (m + 276 + 2 * (g 1).toNatClampNeg) = some (.inl (14, [.ref (m + 276 + 2 * (g 1).toNatClampNeg + 1), .int n13])) := (heq7 (m + 276 + 2 * (g 1).toNatClampNeg) (zx_X16_makeRecord_0 hsz9 hsz8 hgb1)).trans hu15
  refine zr_put2 (idx := 25) (k := 1) (fs2 := [.ref (m + 276 + 2 * (g 1).toNatClampNeg + 1), .int 0]) (by decide +kernel) (by decide +kernel) hb20 (Nat.le_of_ble_eq_true rfl) rfl rfl rfl ?_
  show zP (d + 1) zq_X16_makeRecord 18 [(5, .ref sz), (4, .ref (m + 276 + 2 * (g 1).toNatClampNeg)), (0, .ref m), (1, .int from9), (2, .int last9), (3, .ref q)] [] (zup w7 (m + 276 + 2 * (g 1).toNatClampNeg) (.inl (14, [.ref (m + 276 + 2 * (g 1).toNatClampNeg + 1), .int 0]))) (sz + 1) (1 - 1) (4 - 4) Post
  obtain ⟨w15, ew15⟩ : ∃ wz9, wz9 = zup w7 (m + 276 + 2 * (g 1).toNatClampNeg) (.inl (14, [.ref (m + 276 + 2 * (g 1).toNatClampNeg + 1), .int 0])) := ⟨_, rfl⟩
  have hsi15 : zSI w7 w15 := by rw [ew15]; exact zSI.setU hb20
  have heq15 : ∀ x, x ≠ m + 276 + 2 * (g 1).toNatClampNeg → w15 x = w7 x := fun x hx => by rw [ew15]; exact zup_n hx
  have hc15 : w15 (m + 276 + 2 * (g 1).toNatClampNeg) = some (.inl (14, [.ref (m + 276 + 2 * (g 1).toNatClampNeg + 1), .int 0])) := by rw [ew15]; exact zup_s
  rw [← ew15]
  clear ew15
  have hb21 : w15 (m + 276 + 2 * (g 1).toNatClampNeg + 1) = some (.inr (0, 1000, .inl f14)) := ((heq15 (m + 276 + 2 * (g 1).toNatClampNeg + 1) (zx_X16_makeRecord_2 hgb1)).trans (heq7 (m + 276 + 2 * (g 1).toNatClampNeg + 1) (zx_X16_makeRecord_1 hsz9 hsz8 hgb1))).trans hu16
  have hUg0 := zU.mk0 hc15 hb21
  refine zp_seg (pc' := 21) (lv' := [(6, .int 0), (5, .ref sz), (4, .ref (m + 276 + 2 * (g 1).toNatClampNeg)), (0, .ref m), (1, .int from9), (2, .int last9), (3, .ref q)]) (st' := []) [(18, .iconst 0), (19, .istore 6)] (by decide +kernel) rfl ?_
  have hb22 : w15 m = some (.inl (15, zMo m (zs g 1 (g 1 + 1)) r)) := ((heq15 m (zx_X16_makeRecord_4 hgb1)).trans (heq7 m (zx_X16_makeRecord_3 hsz9 hsz8))).trans hM1
  have hL21 : ∀ (mm21 : Nat) (wL21 : zM) (y6_21 : Int32) (xT : Int32) (fa : Nat → Option Nat) (G9 : zA1), (zSI w15 wL21) → (∀ x, ((x < m ∨ m + 1 ≤ x) ∧ (x < sz ∨ sz + 1 ≤ x) ∧ (x < m + 276 + 2 * (g 1).toNatClampNeg ∨ m + 276 + 2 * (g 1).toNatClampNeg + (320 - 2 * (g 1).toNatClampNeg) ≤ x)) ∧ x ≠ m → wL21 x = w15 x) → (0 ≤ y6_21.toInt) → (y6_21.toInt ≤ last9.toInt + 1) → (wL21 m = some (.inl (15, zMo m (zs g 1 xT) r))) → (wL21 sz = some (.inr (4, 4, .inr fa))) → (zU wL21 (m + 276 + 2 * (g 1).toNatClampNeg) 1000 G9) → (xT.toInt = (g 1).toInt + 1 + y6_21.toInt) → (∀ t, t < y6_21.toNatClampNeg → fa t = some (m + 276 + 2 * (g 1 + 1).toNatClampNeg + 2 * t)) → (∀ t, t < y6_21.toNatClampNeg → zU wL21 (m + 276 + 2 * (g 1 + 1).toNatClampNeg + 2 * t) 1000 (zaM (Pg (from9.toNatClampNeg + t)) (Dn t))) → (zln G9 ≤ 511 ∧ (last9.toInt < y6_21.toInt → 0 < zln G9 ∧ zln G9 ≤ zln (zaM (Pg (from9.toNatClampNeg + last9.toNatClampNeg)) (Dn last9.toNatClampNeg)))) → (20 - y6_21.toInt).toNat < mm21 → zP (d + 1) zq_X16_makeRecord 21 [(0, .ref m), (1, .int from9), (2, .int last9), (3, .ref q), (4, .ref (m + 276 + 2 * (g 1).toNatClampNeg)), (5, .ref sz), (6, .int y6_21)] [] wL21 (sz + 1) (1 - 1) (4 - 4) Post := by
    intro mm21
    induction mm21 with
    | zero => intros; omega
    | succ mm21 ih21 =>
    intro wL21 y6_21 xT fa G9 hsiL21 heqL21 hi21_0 hi21_1 hxM hV9 hUG hxT hfa hPa hG9 hmu21
    have ky6_21 := zrng y6_21
    have hz23 : (y6_21.toNatClampNeg : Int) = y6_21.toInt := znat (by first | omega | decide)
    refine zp_seg (pc' := 24) (lv' := [(0, .ref m), (1, .int from9), (2, .int last9), (3, .ref q), (4, .ref (m + 276 + 2 * (g 1).toNatClampNeg)), (5, .ref sz), (6, .int y6_21)]) (st' := [.int last9, .int y6_21]) [(21, .iload 6), (23, .iload_n 2)] (by decide +kernel) rfl ?_
    refine zp_if (i := .if_icmp .gt 55) (c := last9 < y6_21) (t := 79) (e := 27) (lv' := [(0, .ref m), (1, .int from9), (2, .int last9), (3, .ref q), (4, .ref (m + 276 + 2 * (g 1).toNatClampNeg)), (5, .ref sz), (6, .int y6_21)]) (st' := []) (by decide +kernel) rfl (fun cc24 => ?_) (fun cc24 => ?_)
    ·
      have f24 := zltI cc24
      refine zp_seg (pc' := 82) (lv' := [(6, .int 1), (0, .ref m), (1, .int from9), (2, .int last9), (3, .ref q), (4, .ref (m + 276 + 2 * (g 1).toNatClampNeg)), (5, .ref sz)]) (st' := []) [(79, .iconst 1), (80, .istore 6)] (by decide +kernel) rfl ?_
      have hb25 : zTm wL21 (m + 83) := hTm_m_83.ag (fun x hx1 hx2 => ((heqL21 x ⟨⟨(zx_X16_makeRecord_5 hx1 hx2), (zx_X16_makeRecord_9 hx1 hx2 hsz9 hsz8), (zx_X16_makeRecord_10 hx1 hx2 hgb1)⟩, (zx_X16_makeRecord_11 hx1 hx2)⟩).trans ((heq15 x (zx_X16_makeRecord_8 hx1 hx2 hgb1)).trans ((heq7 x (zx_X16_makeRecord_7 hx1 hx2 hsz9 hsz8)).trans (heq1 x ⟨(zx_X16_makeRecord_5 hx1 hx2), (zx_X16_makeRecord_6 hx1 hx2 hgb1)⟩)))))
      obtain ⟨g1, fn1, fd1, fa1, fb1, fc1, fe1, fr1, fu1, hT1, hAn1, hAd1, hAa1, hAb1, hAc1, hAe1, hAr1, hAu1, hKn1, hKd1, hKr1, hKu1⟩ := id hb25
      refine zp_seg (pc' := 83) (lv' := [(6, .int 1), (0, .ref m), (1, .int from9), (2, .int last9), (3, .ref q), (4, .ref (m + 276 + 2 * (g 1).toNatClampNeg)), (5, .ref sz)]) (st' := [.ref m]) [(82, .aload_n 0)] (by decide +kernel) rfl ?_
      refine zr_get (idx := 453) (k := 21) (v := .ref (m + 83)) (by decide +kernel) (by decide +kernel) hxM rfl ?_
      refine zr_callS (idx := 257) (j := 304) (by decide +kernel) (by decide +kernel) (by decide) (show zMe 304 = some zq_X16_plain from rfl) rfl rfl (Nat.le_of_ble_eq_true rfl) rfl rfl (Nat.le_of_ble_eq_true rfl) (Nat.le_of_ble_eq_true rfl) (c_X16_plain (w := wL21) (m + 83) hT1) (by omega) (fun v86 w86 hp86 => ?_)
      obtain ⟨hsi86, heq86, hp86_0, rfl⟩ := hp86
      have hT86 : w86 (m + 83) = some (.inl (13, zTo (m + 83) (zs (zs (zs (zs g1 0 1) 3 1) 4 1) 5 0))) := hp86_0
      show zP _ _ _ _ [] _ _ _ _ _
      refine zp_seg (pc' := 90) (lv' := [(6, .int 1), (0, .ref m), (1, .int from9), (2, .int last9), (3, .ref q), (4, .ref (m + 276 + 2 * (g 1).toNatClampNeg)), (5, .ref sz)]) (st' := [.ref m]) [(89, .aload_n 0)] (by decide +kernel) rfl ?_
      have hb26 : w86 m = some (.inl (15, zMo m (zs g 1 xT) r)) := (heq86 m (zx_X16_makeRecord_12)).trans hxM
      refine zr_get (idx := 453) (k := 21) (v := .ref (m + 83)) (by decide +kernel) (by decide +kernel) hb26 rfl ?_
      refine zp_seg (pc' := 94) (lv' := [(6, .int 1), (0, .ref m), (1, .int from9), (2, .int last9), (3, .ref q), (4, .ref (m + 276 + 2 * (g 1).toNatClampNeg)), (5, .ref sz)]) (st' := [.int 3, .ref (m + 83)]) [(93, .iconst 3)] (by decide +kernel) rfl ?_
      refine zr_put2 (idx := 202) (k := 0) (fs2 := zTo (m + 83) (zs (zs (zs (zs g1 0 3) 3 1) 4 1) 5 0)) (by decide +kernel) (by decide +kernel) hT86 (Nat.le_of_ble_eq_true rfl) rfl rfl rfl ?_
      show zP (d + 1) zq_X16_makeRecord 97 [(6, .int 1), (0, .ref m), (1, .int from9), (2, .int last9), (3, .ref q), (4, .ref (m + 276 + 2 * (g 1).toNatClampNeg)), (5, .ref sz)] [] (zup w86 (m + 83) (.inl (13, zTo (m + 83) (zs (zs (zs (zs g1 0 3) 3 1) 4 1) 5 0)))) (sz + 1) (1 - 1) (4 - 4) Post
      obtain ⟨w94, ew94⟩ : ∃ wz9, wz9 = zup w86 (m + 83) (.inl (13, zTo (m + 83) (zs (zs (zs (zs g1 0 3) 3 1) 4 1) 5 0))) := ⟨_, rfl⟩
      have hsi94 : zSI w86 w94 := by rw [ew94]; exact zSI.setT hT86 _
      have heq94 : ∀ x, x ≠ m + 83 → w94 x = w86 x := fun x hx => by rw [ew94]; exact zup_n hx
      have hc94 : w94 (m + 83) = some (.inl (13, zTo (m + 83) (zs (zs (zs (zs g1 0 3) 3 1) 4 1) 5 0))) := by rw [ew94]; exact zup_s
      rw [← ew94]
      clear ew94
      refine zp_seg (pc' := 98) (lv' := [(6, .int 1), (0, .ref m), (1, .int from9), (2, .int last9), (3, .ref q), (4, .ref (m + 276 + 2 * (g 1).toNatClampNeg)), (5, .ref sz)]) (st' := [.ref m]) [(97, .aload_n 0)] (by decide +kernel) rfl ?_
      have hb27 : w94 m = some (.inl (15, zMo m (zs g 1 xT) r)) := (heq94 m (zx_X16_makeRecord_13)).trans hb26
      refine zr_get (idx := 453) (k := 21) (v := .ref (m + 83)) (by decide +kernel) (by decide +kernel) hb27 rfl ?_
      refine zp_seg (pc' := 102) (lv' := [(6, .int 1), (0, .ref m), (1, .int from9), (2, .int last9), (3, .ref q), (4, .ref (m + 276 + 2 * (g 1).toNatClampNeg)), (5, .ref sz)]) (st' := [.int last9, .ref (m + 83)]) [(101, .iload_n 2)] (by decide +kernel) rfl ?_
      refine zr_put2 (idx := 234) (k := 10) (fs2 := zTo (m + 83) (zs (zs (zs (zs (zs g1 0 3) 3 1) 4 1) 5 0) 10 last9)) (by decide +kernel) (by decide +kernel) hc94 (Nat.le_of_ble_eq_true rfl) rfl rfl rfl ?_
      show zP (d + 1) zq_X16_makeRecord 105 [(6, .int 1), (0, .ref m), (1, .int from9), (2, .int last9), (3, .ref q), (4, .ref (m + 276 + 2 * (g 1).toNatClampNeg)), (5, .ref sz)] [] (zup w94 (m + 83) (.inl (13, zTo (m + 83) (zs (zs (zs (zs (zs g1 0 3) 3 1) 4 1) 5 0) 10 last9)))) (sz + 1) (1 - 1) (4 - 4) Post
      obtain ⟨w102, ew102⟩ : ∃ wz9, wz9 = zup w94 (m + 83) (.inl (13, zTo (m + 83) (zs (zs (zs (zs (zs g1 0 3) 3 1) 4 1) 5 0) 10 last9))) := ⟨_, rfl⟩
      have hsi102 : zSI w94 w102 := by rw [ew102]; exact zSI.setT hc94 _
      have heq102 : ∀ x, x ≠ m + 83 → w102 x = w94 x := fun x hx => by rw [ew102]; exact zup_n hx
      have hc102 : w102 (m + 83) = some (.inl (13, zTo (m + 83) (zs (zs (zs (zs (zs g1 0 3) 3 1) 4 1) 5 0) 10 last9))) := by rw [ew102]; exact zup_s
      rw [← ew102]
      clear ew102
      refine zp_seg (pc' := 108) (lv' := [(7, .int 0), (6, .int 1), (0, .ref m), (1, .int from9), (2, .int last9), (3, .ref q), (4, .ref (m + 276 + 2 * (g 1).toNatClampNeg)), (5, .ref sz)]) (st' := []) [(105, .iconst 0), (106, .istore 7)] (by decide +kernel) rfl ?_
      have hb28 : w102 m = some (.inl (15, zMo m (zs g 1 xT) r)) := (heq102 m (zx_X16_makeRecord_13)).trans hb27
      have hL108 : ∀ (mm108 : Nat) (wL108 : zM) (y7_108 : Int32) (za : Nat → Int32), (zSI w102 wL108) → (∀ x, ((x < m + 83 + 7 ∨ m + 83 + 7 + 1 ≤ x)) ∧ x ≠ m → wL108 x = w102 x) → (0 ≤ y7_108.toInt) → (y7_108.toInt ≤ 175) → (wL108 (m + 83 + 7) = some (.inr (0, 175, .inl za))) → (wL108 m = some (.inl (15, zMo m (zs g 1 xT) r))) → (∀ i, i < 175 → zr1 (za i)) → (200 - y7_108.toInt).toNat < mm108 → zP (d + 1) zq_X16_makeRecord 108 [(0, .ref m), (1, .int from9), (2, .int last9), (3, .ref q), (4, .ref (m + 276 + 2 * (g 1).toNatClampNeg)), (5, .ref sz), (6, .int 1), (7, .int y7_108)] [] wL108 (sz + 1) (1 - 1) (4 - 4) Post := by
        intro mm108
        induction mm108 with
        | zero => intros; omega
        | succ mm108 ih108 =>
        intro wL108 y7_108 za hsiL108 heqL108 hi108_0 hi108_1 hAz hmL108 hz9 hmu108
        have ky7_108 := zrng y7_108
        have hz29 : (y7_108.toNatClampNeg : Int) = y7_108.toInt := znat (by first | omega | decide)
        refine zp_seg (pc' := 113) (lv' := [(0, .ref m), (1, .int from9), (2, .int last9), (3, .ref q), (4, .ref (m + 276 + 2 * (g 1).toNatClampNeg)), (5, .ref sz), (6, .int 1), (7, .int y7_108)]) (st' := [.int 175, .int y7_108]) [(108, .iload 7), (110, .sipush 175)] (by decide +kernel) rfl ?_
        refine zp_if (i := .if_icmp .ge 20) (c := 175 ≤ y7_108) (t := 133) (e := 116) (lv' := [(0, .ref m), (1, .int from9), (2, .int last9), (3, .ref q), (4, .ref (m + 276 + 2 * (g 1).toNatClampNeg)), (5, .ref sz), (6, .int 1), (7, .int y7_108)]) (st' := []) (by decide +kernel) rfl (fun cc113 => ?_) (fun cc113 => ?_)
        ·
          have f31 := zleI cc113
          rw [show (175 : Int32).toInt = 175 from by decide] at f31
          have hzT9 := znat (x := xT) (by omega)
          have hGz9 := (hG9.2 (by omega)).1
          have hGl9 := (hG9.2 (by omega)).2
          refine zp_seg (pc' := 137) (lv' := [(0, .ref m), (1, .int from9), (2, .int last9), (3, .ref q), (4, .ref (m + 276 + 2 * (g 1).toNatClampNeg)), (5, .ref sz), (6, .int 1), (7, .int y7_108)]) (st' := [.int last9, .ref sz, .ref m]) [(133, .aload_n 0), (134, .aload 5), (136, .iload_n 2)] (by decide +kernel) rfl ?_
          have hb32 : wL108 sz = some (.inr (4, 4, .inr fa)) := ((heqL108 sz ⟨(zx_X16_makeRecord_16 hsz9 hsz8), (zx_X16_makeRecord_17 hsz9 hsz8)⟩).trans ((heq102 sz (zx_X16_makeRecord_15 hsz9 hsz8)).trans ((heq94 sz (zx_X16_makeRecord_15 hsz9 hsz8)).trans (heq86 sz (zx_X16_makeRecord_14 hsz9 hsz8))))).trans hV9
          refine zr_aald (v := .ref (m + 276 + 2 * (g 1 + 1).toNatClampNeg + 2 * last9.toNatClampNeg)) (by decide +kernel) hb32 (by decide) (zin (by first | omega | decide) (by first | omega | decide)) (by rw [hfa _ (by omega)]; rfl) ?_
          refine zp_seg (pc' := 141) (lv' := [(0, .ref m), (1, .int from9), (2, .int last9), (3, .ref q), (4, .ref (m + 276 + 2 * (g 1).toNatClampNeg)), (5, .ref sz), (6, .int 1), (7, .int y7_108)]) (st' := [.int last9, .ref sz, .ref (m + 276 + 2 * (g 1 + 1).toNatClampNeg + 2 * last9.toNatClampNeg), .ref m]) [(138, .aload 5), (140, .iload_n 2)] (by decide +kernel) rfl ?_
          refine zr_aald (v := .ref (m + 276 + 2 * (g 1 + 1).toNatClampNeg + 2 * last9.toNatClampNeg)) (by decide +kernel) hb32 (by decide) (zin (by first | omega | decide) (by first | omega | decide)) (by rw [hfa _ (by omega)]; rfl) ?_
          have hUl9 := (hPa last9.toNatClampNeg (by omega)).ag (w' := wL108) (fun x g1 g2 => ((heqL108 x (by omega)).trans ((heq102 x (by omega)).trans ((heq94 x (by omega)).trans (heq86 x (by omega))))))
          have hcl9 := hUl9.cap
          have hql9 := zquo_ln (p := zaM (Pg (from9.toNatClampNeg + last9.toNatClampNeg)) (Dn last9.toNatClampNeg)) (d := G9) hGz9
          have hml9 := zln_Mle (Pg (from9.toNatClampNeg + last9.toNatClampNeg)) (Dn last9.toNatClampNeg)
          have hsL9 := (hsm (from9.toNatClampNeg + last9.toNatClampNeg) (by omega)).2.2
          have hdL9 := (hdn last9.toNatClampNeg (by omega)).2.2
          refine zp_seg (pc' := 144) (lv' := [(0, .ref m), (1, .int from9), (2, .int last9), (3, .ref q), (4, .ref (m + 276 + 2 * (g 1).toNatClampNeg)), (5, .ref sz), (6, .int 1), (7, .int y7_108)]) (st' := [.ref (m + 276 + 2 * (g 1).toNatClampNeg), .ref (m + 276 + 2 * (g 1 + 1).toNatClampNeg + 2 * last9.toNatClampNeg), .ref (m + 276 + 2 * (g 1 + 1).toNatClampNeg + 2 * last9.toNatClampNeg), .ref m]) [(142, .aload 4)] (by decide +kernel) rfl ?_
          have k33 := zrng xT
          have hz34 : (xT.toNatClampNeg : Int) = xT.toInt := znat (by first | omega | decide)
          have hb35 := hR_m.si (((((((hsi1.tr hsi7).tr hsi15).tr hsiL21).tr hsi86).tr hsi94).tr hsi102).tr hsiL108)
          have ho144_to := zU.o hUl9
          have hb36 : zU wL108 (m + 276 + 2 * (g 1).toNatClampNeg) 1000 G9 := hUG.ag (fun x hx1 hx2 => ((heqL108 x ⟨(zx_X16_makeRecord_20 hx1 hx2 hgb1), (zx_X16_makeRecord_21 hx1 hx2 hgb1)⟩).trans ((heq102 x (zx_X16_makeRecord_19 hx1 hx2 hgb1)).trans ((heq94 x (zx_X16_makeRecord_19 hx1 hx2 hgb1)).trans (heq86 x (zx_X16_makeRecord_18 hx1 hx2 hgb1))))))
          refine zr_callV (idx := 110) (j := 271) (by decide +kernel) (by decide +kernel) (show zMe 271 = some zq_X16_exact from rfl) rfl rfl (Nat.le_of_ble_eq_true rfl) rfl rfl hmL108 (Nat.le_of_ble_eq_true rfl) (Nat.le_of_ble_eq_true rfl) (c_X16_exact (w := wL108) (g1 := xT) m (m + 276 + 2 * (g 1 + 1).toNatClampNeg + 2 * last9.toNatClampNeg) (m + 276 + 2 * (g 1 + 1).toNatClampNeg + 2 * last9.toNatClampNeg) (m + 276 + 2 * (g 1).toNatClampNeg) hmL108 hb35 ho144_to hUl9 hb36 (by first | omega | decide | assumption | exact zr1_1 | exact zr1_0 | fail "num") (by first | omega | decide | assumption | exact zr1_1 | exact zr1_0 | fail "num") (by first | omega | decide | assumption | exact zr1_1 | exact zr1_0 | fail "num") (by first | omega | decide | assumption | exact zr1_1 | exact zr1_0 | fail "num") (by first | omega | decide | assumption | exact zr1_1 | exact zr1_0 | fail "num") (by first | omega | decide | assumption | exact zr1_1 | exact zr1_0 | fail "num") (by first | omega | decide | assumption | exact zr1_1 | exact zr1_0 | fail "num") (by first | omega | decide | assumption | exact zr1_1 | exact zr1_0 | fail "num") rfl) (by omega) (fun v144 w144 hp144 => ?_)
          obtain ⟨hsi144, heq144, hp144_0, rfl⟩ := hp144
          show zP _ _ _ _ [] _ _ _ _ _
          refine zp_seg (pc' := 150) (lv' := [(0, .ref m), (1, .int from9), (2, .int last9), (3, .ref q), (4, .ref (m + 276 + 2 * (g 1).toNatClampNeg)), (5, .ref sz), (6, .int 1), (7, .int y7_108)]) (st' := [.int last9, .ref sz]) [(147, .aload 5), (149, .iload_n 2)] (by decide +kernel) rfl ?_
          have hb37 : w144 sz = some (.inr (4, 4, .inr fa)) := (heq144 sz (by omega)).trans hb32
          refine zr_aald (v := .ref (m + 276 + 2 * (g 1 + 1).toNatClampNeg + 2 * last9.toNatClampNeg)) (by decide +kernel) hb37 (by decide) (zin (by first | omega | decide) (by first | omega | decide)) (by rw [hfa _ (by omega)]; rfl) ?_
          obtain ⟨n38, f39, hu40, hu41, hu42, hu43, hu44⟩ := id hp144_0
          have kn38 := zrng n38
          refine zr_callV (idx := 66) (j := 253) (by decide +kernel) (by decide +kernel) (show zMe 253 = some zq_X15_head from rfl) rfl rfl (Nat.le_of_ble_eq_true rfl) rfl rfl hu40 (Nat.le_of_ble_eq_true rfl) (Nat.le_of_ble_eq_true rfl) (c_X15_head (w := w144) (m + 276 + 2 * (g 1 + 1).toNatClampNeg + 2 * last9.toNatClampNeg) hp144_0) (by omega) (fun v151 w151 hp151 => ?_)
          obtain ⟨hpw151, r151, rfl, hr151⟩ := hp151
          replace hpw151 := hpw151.symm
          subst hpw151
          have kr151 := zrng r151
          show zP _ _ _ _ [.int r151] _ _ _ _ _
          refine zr_callS (idx := 13) (j := 259) (by decide +kernel) (by decide +kernel) (by decide) (show zMe 259 = some zq_X16_inv from rfl) rfl rfl (Nat.le_of_ble_eq_true rfl) rfl rfl (Nat.le_of_ble_eq_true rfl) (Nat.le_of_ble_eq_true rfl) (c_X16_inv (w := w144) r151 (by first | exact hr151.1 | omega | decide | assumption | exact zr1_1 | exact zr1_0 | fail "num")) (by omega) (fun v154 w154 hp154 => ?_)
          obtain ⟨hpw154, r154, rfl, hr154⟩ := hp154
          replace hpw154 := hpw154.symm
          subst hpw154
          have kr154 := zrng r154
          show zP _ _ _ _ [.int r154] _ _ _ _ _
          refine zp_seg (pc' := 162) (lv' := [(8, .int 0), (7, .int r154), (0, .ref m), (1, .int from9), (2, .int last9), (3, .ref q), (4, .ref (m + 276 + 2 * (g 1).toNatClampNeg)), (5, .ref sz), (6, .int 1)]) (st' := []) [(157, .istore 7), (159, .iconst 0), (160, .istore 8)] (by decide +kernel) rfl ?_
          have hb45 : w144 m = some (.inl (15, zMo m (zs g 1 xT) r)) := (heq144 m (by omega)).trans hmL108
          have hL162 : ∀ (mm162 : Nat) (wL162 : zM) (y6_162 : Int32) (y8_162 : Int32) (sa : Nat → Int32), (zSI w144 wL162) → (∀ x, ((x < m + 83 + 7 ∨ m + 83 + 7 + 1 ≤ x) ∧ (x < m + 276 + 2 * (g 1 + 1).toNatClampNeg ∨ m + 276 + 2 * (g 1 + 1).toNatClampNeg + (320 - 2 * (g 1 + 1).toNatClampNeg) ≤ x)) ∧ x ≠ m → wL162 x = w144 x) → ((y6_162 = 0 ∨ y6_162 = 1)) → (0 ≤ y8_162.toInt) → (y8_162.toInt ≤ last9.toInt + 1) → (wL162 (m + 83 + 7) = some (.inr (0, 175, .inl sa))) → (wL162 m = some (.inl (15, zMo m (zs g 1 xT) r))) → (∀ t, y8_162.toNatClampNeg ≤ t → t ≤ last9.toNatClampNeg → zU wL162 (m + 276 + 2 * (g 1 + 1).toNatClampNeg + 2 * t) 1000 (if t = last9.toNatClampNeg then zquo (zaM (Pg (from9.toNatClampNeg + t)) (Dn t)) G9 else zaM (Pg (from9.toNatClampNeg + t)) (Dn t))) → (∀ i, i < 175 → zr1 (sa i)) → (20 - y8_162.toInt).toNat < mm162 → zP (d + 1) zq_X16_makeRecord 162 [(0, .ref m), (1, .int from9), (2, .int last9), (3, .ref q), (4, .ref (m + 276 + 2 * (g 1).toNatClampNeg)), (5, .ref sz), (6, .int y6_162), (7, .int r154), (8, .int y8_162)] [] wL162 (sz + 1) (1 - 1) (4 - 4) Post := by
            intro mm162
            induction mm162 with
            | zero => intros; omega
            | succ mm162 ih162 =>
            intro wL162 y6_162 y8_162 sa hsiL162 heqL162 hi162_0 hi162_1 hi162_2 hAs hmL162 hQ9 hF9 hmu162
            have ky6_162 := zrng y6_162
            have ky8_162 := zrng y8_162
            have hz46 : (y8_162.toNatClampNeg : Int) = y8_162.toInt := znat (by first | omega | decide)
            refine zp_seg (pc' := 165) (lv' := [(0, .ref m), (1, .int from9), (2, .int last9), (3, .ref q), (4, .ref (m + 276 + 2 * (g 1).toNatClampNeg)), (5, .ref sz), (6, .int y6_162), (7, .int r154), (8, .int y8_162)]) (st' := [.int last9, .int y8_162]) [(162, .iload 8), (164, .iload_n 2)] (by decide +kernel) rfl ?_
            refine zp_if (i := .if_icmp .gt 94) (c := last9 < y8_162) (t := 259) (e := 168) (lv' := [(0, .ref m), (1, .int from9), (2, .int last9), (3, .ref q), (4, .ref (m + 276 + 2 * (g 1).toNatClampNeg)), (5, .ref sz), (6, .int y6_162), (7, .int r154), (8, .int y8_162)]) (st' := []) (by decide +kernel) rfl (fun cc165 => ?_) (fun cc165 => ?_)
            ·
              have f47 := zltI cc165
              refine zp_seg (pc' := 265) (lv' := [(0, .ref m), (1, .int from9), (2, .int last9), (3, .ref q), (4, .ref (m + 276 + 2 * (g 1).toNatClampNeg)), (5, .ref sz), (6, .int y6_162), (7, .int r154), (8, .int y8_162)]) (st' := [.int r154, .ref (m + 276 + 2 * (g 1).toNatClampNeg), .ref (m + 276 + 2 * (g 1).toNatClampNeg)]) [(259, .aload 4), (261, .aload 4), (263, .iload 7)] (by decide +kernel) rfl ?_
              refine zr_callS (idx := 13) (j := 259) (by decide +kernel) (by decide +kernel) (by decide) (show zMe 259 = some zq_X16_inv from rfl) rfl rfl (Nat.le_of_ble_eq_true rfl) rfl rfl (Nat.le_of_ble_eq_true rfl) (Nat.le_of_ble_eq_true rfl) (c_X16_inv (w := wL162) r154 (by first | exact hr154.1 | omega | decide | assumption | exact zr1_1 | exact zr1_0 | fail "num")) (by omega) (fun v265 w265 hp265 => ?_)
              obtain ⟨hpw265, r265, rfl, hr265⟩ := hp265
              replace hpw265 := hpw265.symm
              subst hpw265
              have kr265 := zrng r265
              show zP _ _ _ _ [.int r265, .ref (m + 276 + 2 * (g 1).toNatClampNeg), .ref (m + 276 + 2 * (g 1).toNatClampNeg)] _ _ _ _ _
              have hb48 : zU wL162 (m + 276 + 2 * (g 1).toNatClampNeg) 1000 G9 := hb36.ag (fun x hx1 hx2 => ((heqL162 x ⟨⟨(zx_X16_makeRecord_20 hx1 hx2 hgb1), (zx_X16_makeRecord_22 hx1 hx2 hgn1_1 hgb1)⟩, (zx_X16_makeRecord_21 hx1 hx2 hgb1)⟩).trans (heq144 x (by omega))))
              have ho268_to := zU.o hb48
              refine zr_callS (idx := 70) (j := 266) (by decide +kernel) (by decide +kernel) (by decide) (show zMe 266 = some zq_X16_scale from rfl) rfl rfl (Nat.le_of_ble_eq_true rfl) rfl rfl (Nat.le_of_ble_eq_true rfl) (Nat.le_of_ble_eq_true rfl) (c_X16_scale (w := wL162) (m + 276 + 2 * (g 1).toNatClampNeg) (m + 276 + 2 * (g 1).toNatClampNeg) r265 ho268_to hb48 (by first | exact hr265.1 | omega | decide | assumption | exact zr1_1 | exact zr1_0 | fail "num") (by first | omega | decide | assumption | exact zr1_1 | exact zr1_0 | fail "num")) (by omega) (fun v268 w268 hp268 => ?_)
              obtain ⟨hsi268, heq268, hp268_0, rfl⟩ := hp268
              show zP _ _ _ _ [] _ _ _ _ _
              have hhi9 : zf r265 ≠ 0 := by
                rw [hr265.2, hr154.2, hr151.2]
                exact zinvF_ne (zinvF_ne (zhd_nz (by omega)))
              have hgs9 := zln_CM hhi9 G9
              refine zp_seg (pc' := 272) (lv' := [(0, .ref m), (1, .int from9), (2, .int last9), (3, .ref q), (4, .ref (m + 276 + 2 * (g 1).toNatClampNeg)), (5, .ref sz), (6, .int y6_162), (7, .int r154), (8, .int y8_162)]) (st' := [.ref m]) [(271, .aload_n 0)] (by decide +kernel) rfl ?_
              have hb49 : w268 m = some (.inl (15, zMo m (zs g 1 xT) r)) := (heq268 m (zx_X16_makeRecord_23 hgb1)).trans hmL162
              have hb50 := hb35.si ((hsi144.tr hsiL162).tr hsi268)
              refine zr_callV (idx := 74) (j := 263) (by decide +kernel) (by decide +kernel) (show zMe 263 = some zq_X16_newU from rfl) rfl rfl (Nat.le_of_ble_eq_true rfl) rfl rfl hb49 (Nat.le_of_ble_eq_true rfl) (Nat.le_of_ble_eq_true rfl) (c_X16_newU (w := w268) (g1 := xT) m hb49 hb50 (by first | omega | decide | assumption | exact zr1_1 | exact zr1_0 | fail "num") rfl) (by omega) (fun v272 w272 hp272 => ?_)
              obtain ⟨hsi272, heq272, hp272_0, hp272_1, rfl⟩ := hp272
              have hM272 : w272 m = some (.inl (15, zMo m (zs g 1 (xT + 1)) r)) := hp272_0
              show zP _ _ _ _ [.ref (m + 276 + 2 * xT.toNatClampNeg)] _ _ _ _ _
              refine zp_seg (pc' := 280) (lv' := [(8, .ref (m + 276 + 2 * xT.toNatClampNeg)), (0, .ref m), (1, .int from9), (2, .int last9), (3, .ref q), (4, .ref (m + 276 + 2 * (g 1).toNatClampNeg)), (5, .ref sz), (6, .int y6_162), (7, .int r154)]) (st' := [.ref m, .ref (m + 276 + 2 * xT.toNatClampNeg)]) [(275, .astore 8), (277, .aload 8), (279, .aload_n 0)] (by decide +kernel) rfl ?_
              refine zr_get (idx := 709) (k := 43) (v := .ref aD) (by decide +kernel) (by decide +kernel) hM272 (congrArg some hrD) ?_
              refine zp_seg (pc' := 284) (lv' := [(8, .ref (m + 276 + 2 * xT.toNatClampNeg)), (0, .ref m), (1, .int from9), (2, .int last9), (3, .ref q), (4, .ref (m + 276 + 2 * (g 1).toNatClampNeg)), (5, .ref sz), (6, .int y6_162), (7, .int r154)]) (st' := [.ref q, .ref aD, .ref (m + 276 + 2 * xT.toNatClampNeg)]) [(283, .aload_n 3)] (by decide +kernel) rfl ?_
              have hb51 : zB w272 q Pq := hB_q.ag (fun x hx1 hx2 => ((heq272 x (by omega)).trans ((heq268 x (zx_X16_makeRecord_25 hx1 hx2 hmq hgb1 hgb3)).trans ((heqL162 x ⟨⟨(zx_X16_makeRecord_33 hx1 hx2 hmq hgb3), (zx_X16_makeRecord_34 hx1 hx2 hmq hgn1_1 hgb1 hgb3)⟩, (zx_X16_makeRecord_30 hx1 hx2 hmq hgb3)⟩).trans ((heq144 x (by omega)).trans ((heqL108 x ⟨(zx_X16_makeRecord_33 hx1 hx2 hmq hgb3), (zx_X16_makeRecord_30 hx1 hx2 hmq hgb3)⟩).trans ((heq102 x (zx_X16_makeRecord_32 hx1 hx2 hmq hgb3)).trans ((heq94 x (zx_X16_makeRecord_32 hx1 hx2 hmq hgb3)).trans ((heq86 x (zx_X16_makeRecord_31 hx1 hx2 hmq hgb3)).trans ((heqL21 x ⟨⟨(zx_X16_makeRecord_24 hx1 hx2 hmq hgb3), (zx_X16_makeRecord_28 hx1 hx2 hmq hsz9 hsz8 hgb3), (zx_X16_makeRecord_29 hx1 hx2 hmq hgb1 hgb3)⟩, (zx_X16_makeRecord_30 hx1 hx2 hmq hgb3)⟩).trans ((heq15 x (zx_X16_makeRecord_27 hx1 hx2 hmq hgb1 hgb3)).trans ((heq7 x (zx_X16_makeRecord_26 hx1 hx2 hmq hsz9 hsz8 hgb3)).trans (heq1 x ⟨(zx_X16_makeRecord_24 hx1 hx2 hmq hgb3), (zx_X16_makeRecord_25 hx1 hx2 hmq hgb1 hgb3)⟩)))))))))))))
              obtain ⟨n52, hb53, hb54, hb55, hb56, -⟩ := id hb51
              have kn52 := zrng n52
              refine zr_callV (idx := 144) (j := 246) (by decide +kernel) (by decide +kernel) (show zMe 246 = some zq_X12_lead from rfl) rfl rfl (Nat.le_of_ble_eq_true rfl) rfl rfl hb53 (Nat.le_of_ble_eq_true rfl) (Nat.le_of_ble_eq_true rfl) (c_X12_lead (w := w272) q hb51 (by first | omega | decide | assumption | exact zr1_1 | exact zr1_0 | fail "num")) (by omega) (fun v284 w284 hp284 => ?_)
              obtain ⟨hpw284, hp284_0, rfl⟩ := hp284
              replace hpw284 := hpw284.symm
              subst hpw284
              show zP _ _ _ _ [.ref (q + 2 + 2 * (zrw Pq - 1)), .ref aD, .ref (m + 276 + 2 * xT.toNatClampNeg)] _ _ _ _ _
              have hld9 := zdn_le Pq (zrw Pq - 1)
              have hlz9 := zln_nz (zrw_hd hsz.2.2.1.1)
              have hup9 := zln_M (p := Pd) (q := Pq.1 (zrw Pq - 1)) hsz.2.2.2.1 hlz9
              have ho287_to := zU.o hp272_1
              have hb57 : zU w272 aD 1000 Pd := hU_aD.ag (fun x hx1 hx2 => ((heq272 x (by omega)).trans ((heq268 x (zx_X16_makeRecord_36 hx1 hx2 hmaD hgb1)).trans ((heqL162 x ⟨⟨(zx_X16_makeRecord_44 hx1 hx2 hmaD hgb1), (zx_X16_makeRecord_45 hx1 hx2 hmaD hgn1_1 hgb1)⟩, (zx_X16_makeRecord_41 hx1 hx2 hmaD hgb1)⟩).trans ((heq144 x (by omega)).trans ((heqL108 x ⟨(zx_X16_makeRecord_44 hx1 hx2 hmaD hgb1), (zx_X16_makeRecord_41 hx1 hx2 hmaD hgb1)⟩).trans ((heq102 x (zx_X16_makeRecord_43 hx1 hx2 hmaD hgb1)).trans ((heq94 x (zx_X16_makeRecord_43 hx1 hx2 hmaD hgb1)).trans ((heq86 x (zx_X16_makeRecord_42 hx1 hx2 hmaD hgb1)).trans ((heqL21 x ⟨⟨(zx_X16_makeRecord_35 hx1 hx2 hmaD hgb1), (zx_X16_makeRecord_39 hx1 hx2 hmaD hsz9 hsz8 hgb1), (zx_X16_makeRecord_40 hx1 hx2 hmaD hgb1)⟩, (zx_X16_makeRecord_41 hx1 hx2 hmaD hgb1)⟩).trans ((heq15 x (zx_X16_makeRecord_38 hx1 hx2 hmaD hgb1)).trans ((heq7 x (zx_X16_makeRecord_37 hx1 hx2 hmaD hsz9 hsz8 hgb1)).trans (heq1 x ⟨(zx_X16_makeRecord_35 hx1 hx2 hmaD hgb1), (zx_X16_makeRecord_36 hx1 hx2 hmaD hgb1)⟩)))))))))))))
              refine zr_callS (idx := 106) (j := 267) (by decide +kernel) (by decide +kernel) (by decide) (show zMe 267 = some zq_X16_times from rfl) rfl rfl (Nat.le_of_ble_eq_true rfl) rfl rfl (Nat.le_of_ble_eq_true rfl) (Nat.le_of_ble_eq_true rfl) (c_X16_times (w := w272) (m + 276 + 2 * xT.toNatClampNeg) aD (q + 2 + 2 * (zrw Pq - 1)) ho287_to hb57 hp284_0 (by first | omega | decide | assumption | exact zr1_1 | exact zr1_0 | fail "num") (by first | omega | decide | assumption | exact zr1_1 | exact zr1_0 | fail "num") (by first | omega | decide | assumption | exact zr1_1 | exact zr1_0 | fail "num") (by first | omega | decide | assumption | exact zr1_1 | exact zr1_0 | fail "num")) (by omega) (fun v287 w287 hp287 => ?_)
              obtain ⟨hsi287, heq287, hp287_0, rfl⟩ := hp287
              show zP _ _ _ _ [] _ _ _ _ _
              refine zp_seg (pc' := 291) (lv' := [(8, .ref (m + 276 + 2 * xT.toNatClampNeg)), (0, .ref m), (1, .int from9), (2, .int last9), (3, .ref q), (4, .ref (m + 276 + 2 * (g 1).toNatClampNeg)), (5, .ref sz), (6, .int y6_162), (7, .int r154)]) (st' := [.ref m]) [(290, .aload_n 0)] (by decide +kernel) rfl ?_
              have hb58 : w287 m = some (.inl (15, zMo m (zs g 1 (xT + 1)) r)) := (heq287 m (by omega)).trans hM272
              have hb59 := hb50.si (hsi272.tr hsi287)
              refine zr_callV (idx := 140) (j := 274) (by decide +kernel) (by decide +kernel) (show zMe 274 = some zq_X16_newB from rfl) rfl rfl (Nat.le_of_ble_eq_true rfl) rfl rfl hb58 (Nat.le_of_ble_eq_true rfl) (Nat.le_of_ble_eq_true rfl) (c_X16_newB (w := w287) (g3 := (g 3)) m hb58 hb59 (by first | omega | decide | assumption | exact zr1_1 | exact zr1_0 | fail "num") rfl) (by omega) (fun v291 w291 hp291 => ?_)
              obtain ⟨hsi291, heq291, hp291_0, hp291_1, rfl⟩ := hp291
              have hM291 : w291 m = some (.inl (15, zMo m (zs (zs g 1 (xT + 1)) 3 (g 3 + 1)) r)) := hp291_0
              show zP _ _ _ _ [.ref (m + 596 + 130 * (g 3).toNatClampNeg)] _ _ _ _ _
              refine zp_seg (pc' := 297) (lv' := [(9, .ref (m + 596 + 130 * (g 3).toNatClampNeg)), (8, .ref (m + 276 + 2 * xT.toNatClampNeg)), (0, .ref m), (1, .int from9), (2, .int last9), (3, .ref q), (4, .ref (m + 276 + 2 * (g 1).toNatClampNeg)), (5, .ref sz), (6, .int y6_162), (7, .int r154)]) (st' := [.ref m]) [(294, .astore 9), (296, .aload_n 0)] (by decide +kernel) rfl ?_
              have k60 := zaddC (g 3) 1 (n := 1) (by decide) (by omega) (by omega)
              have hz61 : ((g 3 + 1).toNatClampNeg : Int) = (g 3 + 1).toInt := znat (by first | omega | decide)
              have hgn3_1 : (g 3 + 1).toNatClampNeg = (g 3).toNatClampNeg + 1 := by omega
              have hb62 := hb59.si hsi291
              refine zr_callV (idx := 140) (j := 274) (by decide +kernel) (by decide +kernel) (show zMe 274 = some zq_X16_newB from rfl) rfl rfl (Nat.le_of_ble_eq_true rfl) rfl rfl hM291 (Nat.le_of_ble_eq_true rfl) (Nat.le_of_ble_eq_true rfl) (c_X16_newB (w := w291) (g3 := (g 3 + 1)) m hM291 hb62 (by first | omega | decide | assumption | exact zr1_1 | exact zr1_0 | fail "num") rfl) (by omega) (fun v297 w297 hp297 => ?_)
              obtain ⟨hsi297, heq297, hp297_0, hp297_1, rfl⟩ := hp297
              have hM297 : w297 m = some (.inl (15, zMo m (zs (zs g 1 (xT + 1)) 3 (g 3 + 1 + 1)) r)) := hp297_0
              show zP _ _ _ _ [.ref (m + 596 + 130 * (g 3 + 1).toNatClampNeg)] _ _ _ _ _
              refine zp_seg (pc' := 304) (lv' := [(10, .ref (m + 596 + 130 * (g 3 + 1).toNatClampNeg)), (9, .ref (m + 596 + 130 * (g 3).toNatClampNeg)), (8, .ref (m + 276 + 2 * xT.toNatClampNeg)), (0, .ref m), (1, .int from9), (2, .int last9), (3, .ref q), (4, .ref (m + 276 + 2 * (g 1).toNatClampNeg)), (5, .ref sz), (6, .int y6_162), (7, .int r154)]) (st' := [.int y6_162]) [(300, .astore 10), (302, .iload 6)] (by decide +kernel) rfl ?_
              refine zp_if (i := .ifCond .eq 40) (c := y6_162 = 0) (t := 344) (e := 307) (lv' := [(10, .ref (m + 596 + 130 * (g 3 + 1).toNatClampNeg)), (9, .ref (m + 596 + 130 * (g 3).toNatClampNeg)), (8, .ref (m + 276 + 2 * xT.toNatClampNeg)), (0, .ref m), (1, .int from9), (2, .int last9), (3, .ref q), (4, .ref (m + 276 + 2 * (g 1).toNatClampNeg)), (5, .ref sz), (6, .int y6_162), (7, .int r154)]) (st' := []) (by decide +kernel) rfl (fun cc304 => ?_) (fun cc304 => ?_)
              ·
                have f64 := zeqI cc304
                rw [show (0 : Int32).toInt = 0 from by decide] at f64
                have hb65 : w297 (m + 83) = some (.inl (13, zTo (m + 83) (zs (zs (zs (zs (zs g1 0 3) 3 1) 4 1) 5 0) 10 last9))) := ((heq297 (m + 83) ⟨(zx_X16_makeRecord_50), (zx_X16_makeRecord_52 hgn3_1 hgb3)⟩).trans ((heq291 (m + 83) ⟨(zx_X16_makeRecord_50), (zx_X16_makeRecord_51 hgb3)⟩).trans ((heq287 (m + 83) (by omega)).trans ((heq272 (m + 83) (by omega)).trans ((heq268 (m + 83) (zx_X16_makeRecord_49 hgb1)).trans ((heqL162 (m + 83) ⟨⟨(zx_X16_makeRecord_46), (zx_X16_makeRecord_48 hgn1_1 hgb1)⟩, (zx_X16_makeRecord_47)⟩).trans ((heq144 (m + 83) (by omega)).trans (heqL108 (m + 83) ⟨(zx_X16_makeRecord_46), (zx_X16_makeRecord_47)⟩)))))))).trans hc102
                have hb66 : w297 (m + 83 + 1) = some (.inr (0, 325, .inl fn1)) := ((heq297 (m + 83 + 1) ⟨(zx_X16_makeRecord_59), (zx_X16_makeRecord_61 hgn3_1 hgb3)⟩).trans ((heq291 (m + 83 + 1) ⟨(zx_X16_makeRecord_59), (zx_X16_makeRecord_60 hgb3)⟩).trans ((heq287 (m + 83 + 1) (by omega)).trans ((heq272 (m + 83 + 1) (by omega)).trans ((heq268 (m + 83 + 1) (zx_X16_makeRecord_58 hgb1)).trans ((heqL162 (m + 83 + 1) ⟨⟨(zx_X16_makeRecord_55), (zx_X16_makeRecord_57 hgn1_1 hgb1)⟩, (zx_X16_makeRecord_56)⟩).trans ((heq144 (m + 83 + 1) (by omega)).trans ((heqL108 (m + 83 + 1) ⟨(zx_X16_makeRecord_55), (zx_X16_makeRecord_56)⟩).trans ((heq102 (m + 83 + 1) (zx_X16_makeRecord_54)).trans ((heq94 (m + 83 + 1) (zx_X16_makeRecord_54)).trans (heq86 (m + 83 + 1) (zx_X16_makeRecord_53)))))))))))).trans hAn1
                have hb67 : w297 (m + 83 + 2) = some (.inr (0, 325, .inl fd1)) := ((heq297 (m + 83 + 2) ⟨(zx_X16_makeRecord_68), (zx_X16_makeRecord_70 hgn3_1 hgb3)⟩).trans ((heq291 (m + 83 + 2) ⟨(zx_X16_makeRecord_68), (zx_X16_makeRecord_69 hgb3)⟩).trans ((heq287 (m + 83 + 2) (by omega)).trans ((heq272 (m + 83 + 2) (by omega)).trans ((heq268 (m + 83 + 2) (zx_X16_makeRecord_67 hgb1)).trans ((heqL162 (m + 83 + 2) ⟨⟨(zx_X16_makeRecord_64), (zx_X16_makeRecord_66 hgn1_1 hgb1)⟩, (zx_X16_makeRecord_65)⟩).trans ((heq144 (m + 83 + 2) (by omega)).trans ((heqL108 (m + 83 + 2) ⟨(zx_X16_makeRecord_64), (zx_X16_makeRecord_65)⟩).trans ((heq102 (m + 83 + 2) (zx_X16_makeRecord_63)).trans ((heq94 (m + 83 + 2) (zx_X16_makeRecord_63)).trans (heq86 (m + 83 + 2) (zx_X16_makeRecord_62)))))))))))).trans hAd1
                have hb68 : w297 (m + 83 + 3) = some (.inr (0, 13, .inl fa1)) := ((heq297 (m + 83 + 3) ⟨(zx_X16_makeRecord_77), (zx_X16_makeRecord_79 hgn3_1 hgb3)⟩).trans ((heq291 (m + 83 + 3) ⟨(zx_X16_makeRecord_77), (zx_X16_makeRecord_78 hgb3)⟩).trans ((heq287 (m + 83 + 3) (by omega)).trans ((heq272 (m + 83 + 3) (by omega)).trans ((heq268 (m + 83 + 3) (zx_X16_makeRecord_76 hgb1)).trans ((heqL162 (m + 83 + 3) ⟨⟨(zx_X16_makeRecord_73), (zx_X16_makeRecord_75 hgn1_1 hgb1)⟩, (zx_X16_makeRecord_74)⟩).trans ((heq144 (m + 83 + 3) (by omega)).trans ((heqL108 (m + 83 + 3) ⟨(zx_X16_makeRecord_73), (zx_X16_makeRecord_74)⟩).trans ((heq102 (m + 83 + 3) (zx_X16_makeRecord_72)).trans ((heq94 (m + 83 + 3) (zx_X16_makeRecord_72)).trans (heq86 (m + 83 + 3) (zx_X16_makeRecord_71)))))))))))).trans hAa1
                have hb69 : w297 (m + 83 + 4) = some (.inr (0, 13, .inl fb1)) := ((heq297 (m + 83 + 4) ⟨(zx_X16_makeRecord_86), (zx_X16_makeRecord_88 hgn3_1 hgb3)⟩).trans ((heq291 (m + 83 + 4) ⟨(zx_X16_makeRecord_86), (zx_X16_makeRecord_87 hgb3)⟩).trans ((heq287 (m + 83 + 4) (by omega)).trans ((heq272 (m + 83 + 4) (by omega)).trans ((heq268 (m + 83 + 4) (zx_X16_makeRecord_85 hgb1)).trans ((heqL162 (m + 83 + 4) ⟨⟨(zx_X16_makeRecord_82), (zx_X16_makeRecord_84 hgn1_1 hgb1)⟩, (zx_X16_makeRecord_83)⟩).trans ((heq144 (m + 83 + 4) (by omega)).trans ((heqL108 (m + 83 + 4) ⟨(zx_X16_makeRecord_82), (zx_X16_makeRecord_83)⟩).trans ((heq102 (m + 83 + 4) (zx_X16_makeRecord_81)).trans ((heq94 (m + 83 + 4) (zx_X16_makeRecord_81)).trans (heq86 (m + 83 + 4) (zx_X16_makeRecord_80)))))))))))).trans hAb1
                have hb70 : w297 (m + 83 + 5) = some (.inr (0, 13, .inl fc1)) := ((heq297 (m + 83 + 5) ⟨(zx_X16_makeRecord_95), (zx_X16_makeRecord_97 hgn3_1 hgb3)⟩).trans ((heq291 (m + 83 + 5) ⟨(zx_X16_makeRecord_95), (zx_X16_makeRecord_96 hgb3)⟩).trans ((heq287 (m + 83 + 5) (by omega)).trans ((heq272 (m + 83 + 5) (by omega)).trans ((heq268 (m + 83 + 5) (zx_X16_makeRecord_94 hgb1)).trans ((heqL162 (m + 83 + 5) ⟨⟨(zx_X16_makeRecord_91), (zx_X16_makeRecord_93 hgn1_1 hgb1)⟩, (zx_X16_makeRecord_92)⟩).trans ((heq144 (m + 83 + 5) (by omega)).trans ((heqL108 (m + 83 + 5) ⟨(zx_X16_makeRecord_91), (zx_X16_makeRecord_92)⟩).trans ((heq102 (m + 83 + 5) (zx_X16_makeRecord_90)).trans ((heq94 (m + 83 + 5) (zx_X16_makeRecord_90)).trans (heq86 (m + 83 + 5) (zx_X16_makeRecord_89)))))))))))).trans hAc1
                have hb71 : w297 (m + 83 + 6) = some (.inr (0, 13, .inl fe1)) := ((heq297 (m + 83 + 6) ⟨(zx_X16_makeRecord_104), (zx_X16_makeRecord_106 hgn3_1 hgb3)⟩).trans ((heq291 (m + 83 + 6) ⟨(zx_X16_makeRecord_104), (zx_X16_makeRecord_105 hgb3)⟩).trans ((heq287 (m + 83 + 6) (by omega)).trans ((heq272 (m + 83 + 6) (by omega)).trans ((heq268 (m + 83 + 6) (zx_X16_makeRecord_103 hgb1)).trans ((heqL162 (m + 83 + 6) ⟨⟨(zx_X16_makeRecord_100), (zx_X16_makeRecord_102 hgn1_1 hgb1)⟩, (zx_X16_makeRecord_101)⟩).trans ((heq144 (m + 83 + 6) (by omega)).trans ((heqL108 (m + 83 + 6) ⟨(zx_X16_makeRecord_100), (zx_X16_makeRecord_101)⟩).trans ((heq102 (m + 83 + 6) (zx_X16_makeRecord_99)).trans ((heq94 (m + 83 + 6) (zx_X16_makeRecord_99)).trans (heq86 (m + 83 + 6) (zx_X16_makeRecord_98)))))))))))).trans hAe1
                have hb72 : w297 (m + 83 + 7) = some (.inr (0, 175, .inl sa)) := ((heq297 (m + 83 + 7) ⟨(zx_X16_makeRecord_108), (zx_X16_makeRecord_110 hgn3_1 hgb3)⟩).trans ((heq291 (m + 83 + 7) ⟨(zx_X16_makeRecord_108), (zx_X16_makeRecord_109 hgb3)⟩).trans ((heq287 (m + 83 + 7) (by omega)).trans ((heq272 (m + 83 + 7) (by omega)).trans (heq268 (m + 83 + 7) (zx_X16_makeRecord_107 hgb1)))))).trans hAs
                have hb73 : w297 (m + 83 + 8) = some (.inr (0, 361, .inl fu1)) := ((heq297 (m + 83 + 8) ⟨(zx_X16_makeRecord_117), (zx_X16_makeRecord_119 hgn3_1 hgb3)⟩).trans ((heq291 (m + 83 + 8) ⟨(zx_X16_makeRecord_117), (zx_X16_makeRecord_118 hgb3)⟩).trans ((heq287 (m + 83 + 8) (by omega)).trans ((heq272 (m + 83 + 8) (by omega)).trans ((heq268 (m + 83 + 8) (zx_X16_makeRecord_116 hgb1)).trans ((heqL162 (m + 83 + 8) ⟨⟨(zx_X16_makeRecord_113), (zx_X16_makeRecord_115 hgn1_1 hgb1)⟩, (zx_X16_makeRecord_114)⟩).trans ((heq144 (m + 83 + 8) (by omega)).trans ((heqL108 (m + 83 + 8) ⟨(zx_X16_makeRecord_113), (zx_X16_makeRecord_114)⟩).trans ((heq102 (m + 83 + 8) (zx_X16_makeRecord_112)).trans ((heq94 (m + 83 + 8) (zx_X16_makeRecord_112)).trans (heq86 (m + 83 + 8) (zx_X16_makeRecord_111)))))))))))).trans hAu1
                have hTm8 : zTm w297 (m + 83) := ⟨_, _, _, _, _, _, _, _, _, hb65, hb66, hb67, hb68, hb69, hb70, hb71, hb72, hb73, hKn1, hKd1, hF9, hKu1⟩
                refine zp_seg (pc' := 345) (lv' := [(10, .ref (m + 596 + 130 * (g 3 + 1).toNatClampNeg)), (9, .ref (m + 596 + 130 * (g 3).toNatClampNeg)), (8, .ref (m + 276 + 2 * xT.toNatClampNeg)), (0, .ref m), (1, .int from9), (2, .int last9), (3, .ref q), (4, .ref (m + 276 + 2 * (g 1).toNatClampNeg)), (5, .ref sz), (6, .int y6_162), (7, .int r154)]) (st' := [.int 0]) [(344, .iconst 0)] (by decide +kernel) rfl ?_
                have hoffend : ∀ x, (x < m ∨ m + 1 ≤ x) ∧ (x < m + 83 ∨ m + 83 + 9 ≤ x) ∧ (x < m + 276 + 2 * (g 1).toNatClampNeg ∨ m + 276 + 2 * (g 1).toNatClampNeg + (320 - 2 * (g 1).toNatClampNeg) ≤ x) ∧ (x < m + 596 + 130 * (g 3).toNatClampNeg ∨ m + 596 + 130 * (g 3).toNatClampNeg + (5720 - 130 * (g 3).toNatClampNeg) ≤ x) ∧ (x < m + 3 ∨ m + 3 + 1 ≤ x) ∧ (x < m + 5 ∨ m + 5 + 64 ≤ x) ∧ (x < m + 8322 ∨ m + 8322 + 1000000000000 ≤ x) → w297 x = w x := fun x hx => ((heq297 x ⟨hx.1, (zx_X16_makeRecord_130 hx.2.2.2.1 hgn3_1 hgb3)⟩).trans ((heq291 x ⟨hx.1, (zx_X16_makeRecord_129 hx.2.2.2.1 hgb3)⟩).trans ((heq287 x (by omega)).trans ((heq272 x (by omega)).trans ((heq268 x (zx_X16_makeRecord_120 hx.2.2.1 hgb1)).trans ((heqL162 x ⟨⟨(zx_X16_makeRecord_127 hx.2.1), (zx_X16_makeRecord_128 hx.2.2.1 hgn1_1 hgb1)⟩, (zx_X16_makeRecord_124 hx.1)⟩).trans ((heq144 x (by omega)).trans ((heqL108 x ⟨(zx_X16_makeRecord_127 hx.2.1), (zx_X16_makeRecord_124 hx.1)⟩).trans ((heq102 x (zx_X16_makeRecord_126 hx.2.1)).trans ((heq94 x (zx_X16_makeRecord_126 hx.2.1)).trans ((heq86 x (zx_X16_makeRecord_125 hx.2.1)).trans ((heqL21 x ⟨⟨hx.1, (zx_X16_makeRecord_123 hx.2.2.2.2.2.2 hsz9 hsz8), hx.2.2.1⟩, (zx_X16_makeRecord_124 hx.1)⟩).trans ((heq15 x (zx_X16_makeRecord_122 hx.2.2.1 hgb1)).trans ((heq7 x (zx_X16_makeRecord_121 hx.2.2.2.2.2.2 hsz9 hsz8)).trans (heq1 x ⟨hx.1, (zx_X16_makeRecord_120 hx.2.2.1 hgb1)⟩)))))))))))))))
                refine zr_retB (by decide +kernel) rfl (by decide) ?_
                rw [← hPost]; exact ⟨⟨by omega, by omega⟩, fun x hx => ((heq297 x (by omega)).trans ((heq291 x (by omega)).trans ((heq287 x (by omega)).trans ((heq272 x (by omega)).trans ((heq268 x (by omega)).trans ((heqL162 x (by omega)).trans ((heq144 x (by omega)).trans ((heqL108 x (by omega)).trans ((heq102 x (by omega)).trans ((heq94 x (by omega)).trans ((heq86 x (by omega)).trans ((heqL21 x (by omega)).trans ((heq15 x (by omega)).trans ((heq7 x (by omega)).trans (heq1 x (by omega)))))))))))))))).trans (hno9 x (by omega)), _, rfl, ((xT + 1)), ((g 3 + 1 + 1)), ((((((((((((((hsi1.tr hsi7).tr hsi15).tr hsiL21).tr hsi86).tr hsi94).tr hsi102).tr hsiL108).tr hsi144).tr hsiL162).tr hsi268).tr hsi272).tr hsi287).tr hsi291).tr hsi297), hoffend, hM297, hTm8, _, rfl, (by decide), (by
                      first | exact fun e => absurd e (by decide) | exact fun _ => none9)⟩
              ·
                have f75 := zneI cc304
                rw [show (0 : Int32).toInt = 0 from by decide] at f75
                refine zp_seg (pc' := 315) (lv' := [(10, .ref (m + 596 + 130 * (g 3 + 1).toNatClampNeg)), (9, .ref (m + 596 + 130 * (g 3).toNatClampNeg)), (8, .ref (m + 276 + 2 * xT.toNatClampNeg)), (0, .ref m), (1, .int from9), (2, .int last9), (3, .ref q), (4, .ref (m + 276 + 2 * (g 1).toNatClampNeg)), (5, .ref sz), (6, .int y6_162), (7, .int r154)]) (st' := [.int (from9 - 1), .ref (m + 596 + 130 * (g 3 + 1).toNatClampNeg), .ref (m + 596 + 130 * (g 3).toNatClampNeg), .ref m]) [(307, .aload_n 0), (308, .aload 9), (310, .aload 10), (312, .iload_n 1), (313, .iconst 1), (314, .isub)] (by decide +kernel) rfl ?_
                have k76 := zsubC from9 1 (n := 1) (by decide) (by omega) (by omega)
                generalize ev315 : (from9 - 1 : Int32) = v315 at k76 ⊢
                have kv315 := zrng v315
                refine zp_seg (pc' := 320) (lv' := [(10, .ref (m + 596 + 130 * (g 3 + 1).toNatClampNeg)), (9, .ref (m + 596 + 130 * (g 3).toNatClampNeg)), (8, .ref (m + 276 + 2 * xT.toNatClampNeg)), (0, .ref m), (1, .int from9), (2, .int last9), (3, .ref q), (4, .ref (m + 276 + 2 * (g 1).toNatClampNeg)), (5, .ref sz), (6, .int y6_162), (7, .int r154)]) (st' := [.ref q, .ref (m + 276 + 2 * (g 1).toNatClampNeg), .ref (m + 276 + 2 * xT.toNatClampNeg), .int v315, .ref (m + 596 + 130 * (g 3 + 1).toNatClampNeg), .ref (m + 596 + 130 * (g 3).toNatClampNeg), .ref m]) [(315, .aload 8), (317, .aload 4), (319, .aload_n 3)] (by decide +kernel) rfl ?_
                have k77 := zaddC xT 1 (n := 1) (by decide) (by omega) (by omega)
                have k78 := zaddC (g 3 + 1) 1 (n := 1) (by decide) (by omega) (by omega)
                have hz79 : ((xT + 1).toNatClampNeg : Int) = (xT + 1).toInt := znat (by first | omega | decide)
                have hz80 : ((g 3 + 1 + 1).toNatClampNeg : Int) = (g 3 + 1 + 1).toInt := znat (by first | omega | decide)
                have hgn3_2 : (g 3 + 1 + 1).toNatClampNeg = (g 3).toNatClampNeg + 2 := by omega
                have hb81 := hb62.si hsi297
                have hb82 : zB w297 (m + 596 + 130 * (g 3).toNatClampNeg) zbZ := hp291_1.ag (fun x hx1 hx2 => (heq297 x ⟨(zx_X16_makeRecord_131 hx1 hx2 hgb3), (zx_X16_makeRecord_132 hx1 hx2 hgn3_1 hgb3)⟩))
                have ho320_num := zB.o hb82
                have ho320_den := zB.o hp297_1
                have hb83 : zB w297 fB PB0 := hB_fB.ag (fun x hx1 hx2 => ((heq297 x ⟨(zx_X16_makeRecord_133 hx1 hx2 hmfB hgb3), (zx_X16_makeRecord_145 hx1 hx2 hmfB hgn3_1 hgb3)⟩).trans ((heq291 x ⟨(zx_X16_makeRecord_133 hx1 hx2 hmfB hgb3), (zx_X16_makeRecord_144 hx1 hx2 hmfB hgb3)⟩).trans ((heq287 x (by omega)).trans ((heq272 x (by omega)).trans ((heq268 x (zx_X16_makeRecord_134 hx1 hx2 hmfB hgb1 hgb3)).trans ((heqL162 x ⟨⟨(zx_X16_makeRecord_142 hx1 hx2 hmfB hgb3), (zx_X16_makeRecord_143 hx1 hx2 hmfB hgn1_1 hgb1 hgb3)⟩, (zx_X16_makeRecord_139 hx1 hx2 hmfB hgb3)⟩).trans ((heq144 x (by omega)).trans ((heqL108 x ⟨(zx_X16_makeRecord_142 hx1 hx2 hmfB hgb3), (zx_X16_makeRecord_139 hx1 hx2 hmfB hgb3)⟩).trans ((heq102 x (zx_X16_makeRecord_141 hx1 hx2 hmfB hgb3)).trans ((heq94 x (zx_X16_makeRecord_141 hx1 hx2 hmfB hgb3)).trans ((heq86 x (zx_X16_makeRecord_140 hx1 hx2 hmfB hgb3)).trans ((heqL21 x ⟨⟨(zx_X16_makeRecord_133 hx1 hx2 hmfB hgb3), (zx_X16_makeRecord_137 hx1 hx2 hmfB hsz9 hsz8 hgb3), (zx_X16_makeRecord_138 hx1 hx2 hmfB hgb1 hgb3)⟩, (zx_X16_makeRecord_139 hx1 hx2 hmfB hgb3)⟩).trans ((heq15 x (zx_X16_makeRecord_136 hx1 hx2 hmfB hgb1 hgb3)).trans ((heq7 x (zx_X16_makeRecord_135 hx1 hx2 hmfB hsz9 hsz8 hgb3)).trans (heq1 x ⟨(zx_X16_makeRecord_133 hx1 hx2 hmfB hgb3), (zx_X16_makeRecord_134 hx1 hx2 hmfB hgb1 hgb3)⟩))))))))))))))))
                have hb84 : zB w297 fC PC0 := hB_fC.ag (fun x hx1 hx2 => ((heq297 x ⟨(zx_X16_makeRecord_146 hx1 hx2 hmfC hgb3), (zx_X16_makeRecord_158 hx1 hx2 hmfC hgn3_1 hgb3)⟩).trans ((heq291 x ⟨(zx_X16_makeRecord_146 hx1 hx2 hmfC hgb3), (zx_X16_makeRecord_157 hx1 hx2 hmfC hgb3)⟩).trans ((heq287 x (by omega)).trans ((heq272 x (by omega)).trans ((heq268 x (zx_X16_makeRecord_147 hx1 hx2 hmfC hgb1 hgb3)).trans ((heqL162 x ⟨⟨(zx_X16_makeRecord_155 hx1 hx2 hmfC hgb3), (zx_X16_makeRecord_156 hx1 hx2 hmfC hgn1_1 hgb1 hgb3)⟩, (zx_X16_makeRecord_152 hx1 hx2 hmfC hgb3)⟩).trans ((heq144 x (by omega)).trans ((heqL108 x ⟨(zx_X16_makeRecord_155 hx1 hx2 hmfC hgb3), (zx_X16_makeRecord_152 hx1 hx2 hmfC hgb3)⟩).trans ((heq102 x (zx_X16_makeRecord_154 hx1 hx2 hmfC hgb3)).trans ((heq94 x (zx_X16_makeRecord_154 hx1 hx2 hmfC hgb3)).trans ((heq86 x (zx_X16_makeRecord_153 hx1 hx2 hmfC hgb3)).trans ((heqL21 x ⟨⟨(zx_X16_makeRecord_146 hx1 hx2 hmfC hgb3), (zx_X16_makeRecord_150 hx1 hx2 hmfC hsz9 hsz8 hgb3), (zx_X16_makeRecord_151 hx1 hx2 hmfC hgb1 hgb3)⟩, (zx_X16_makeRecord_152 hx1 hx2 hmfC hgb3)⟩).trans ((heq15 x (zx_X16_makeRecord_149 hx1 hx2 hmfC hgb1 hgb3)).trans ((heq7 x (zx_X16_makeRecord_148 hx1 hx2 hmfC hsz9 hsz8 hgb3)).trans (heq1 x ⟨(zx_X16_makeRecord_146 hx1 hx2 hmfC hgb3), (zx_X16_makeRecord_147 hx1 hx2 hmfC hgb1 hgb3)⟩))))))))))))))))
                have hb85 : zB w297 q Pq := hb51.ag (fun x hx1 hx2 => ((heq297 x ⟨(zx_X16_makeRecord_24 hx1 hx2 hmq hgb3), (zx_X16_makeRecord_160 hx1 hx2 hmq hgn3_1 hgb3)⟩).trans ((heq291 x ⟨(zx_X16_makeRecord_24 hx1 hx2 hmq hgb3), (zx_X16_makeRecord_159 hx1 hx2 hmq hgb3)⟩).trans (heq287 x (by omega)))))
                have hb86 : zU w297 (m + 276 + 2 * xT.toNatClampNeg) 1000 (zaM Pd (Pq.1 (zrw Pq - 1))) := hp287_0.ag (fun x hx1 hx2 => ((heq297 x (by omega)).trans (heq291 x (by omega))))
                have hb87 : zU w297 (m + 276 + 2 * (g 1).toNatClampNeg) 1000 (zaM (zaC (zf r265)) G9) := hp268_0.ag (fun x hx1 hx2 => ((heq297 x ⟨(zx_X16_makeRecord_161 hx1 hx2 hgb1), (zx_X16_makeRecord_163 hx1 hx2 hgn3_1 hgb1 hgb3)⟩).trans ((heq291 x ⟨(zx_X16_makeRecord_161 hx1 hx2 hgb1), (zx_X16_makeRecord_162 hx1 hx2 hgb1 hgb3)⟩).trans ((heq287 x (by omega)).trans (heq272 x (by omega))))))
                have hb88 : w297 (m + 176) = some (.inr (4, 14, .inr fw)) := ((heq297 (m + 176) ⟨(zx_X16_makeRecord_164), (zx_X16_makeRecord_176 hgn3_1 hgb3)⟩).trans ((heq291 (m + 176) ⟨(zx_X16_makeRecord_164), (zx_X16_makeRecord_175 hgb3)⟩).trans ((heq287 (m + 176) (by omega)).trans ((heq272 (m + 176) (by omega)).trans ((heq268 (m + 176) (zx_X16_makeRecord_165 hgb1)).trans ((heqL162 (m + 176) ⟨⟨(zx_X16_makeRecord_173), (zx_X16_makeRecord_174 hgn1_1 hgb1)⟩, (zx_X16_makeRecord_170)⟩).trans ((heq144 (m + 176) (by omega)).trans ((heqL108 (m + 176) ⟨(zx_X16_makeRecord_173), (zx_X16_makeRecord_170)⟩).trans ((heq102 (m + 176) (zx_X16_makeRecord_172)).trans ((heq94 (m + 176) (zx_X16_makeRecord_172)).trans ((heq86 (m + 176) (zx_X16_makeRecord_171)).trans ((heqL21 (m + 176) ⟨⟨(zx_X16_makeRecord_164), (zx_X16_makeRecord_168 hsz9 hsz8), (zx_X16_makeRecord_169 hgb1)⟩, (zx_X16_makeRecord_170)⟩).trans ((heq15 (m + 176) (zx_X16_makeRecord_167 hgb1)).trans ((heq7 (m + 176) (zx_X16_makeRecord_166 hsz9 hsz8)).trans (heq1 (m + 176) ⟨(zx_X16_makeRecord_164), (zx_X16_makeRecord_165 hgb1)⟩))))))))))))))).trans hV_m_176
                refine zr_callV (idx := 743) (j := 389) (by decide +kernel) (by decide +kernel) (show zMe 389 = some zq_X16_certificate from rfl) rfl rfl (Nat.le_of_ble_eq_true rfl) rfl rfl hM297 (Nat.le_of_ble_eq_true rfl) (Nat.le_of_ble_eq_true rfl) (c_X16_certificate (w := w297) (g1 := (xT + 1)) (g3 := (g 3 + 1 + 1)) m (m + 596 + 130 * (g 3).toNatClampNeg) (m + 596 + 130 * (g 3 + 1).toNatClampNeg) v315 (m + 276 + 2 * xT.toNatClampNeg) (m + 276 + 2 * (g 1).toNatClampNeg) q SA Pg hM297 hb81 hrB hrC ho320_num ho320_den hb83 hb84 hb85 hb86 hb87 hb88 (by first | omega | decide | assumption | exact zr1_1 | exact zr1_0 | fail "num") (by first | omega | decide | assumption | exact zr1_1 | exact zr1_0 | fail "num") (by first | omega | decide | assumption | exact zr1_1 | exact zr1_0 | fail "num") (by first | omega | decide | assumption | exact zr1_1 | exact zr1_0 | fail "num") (by first | omega | decide | assumption | exact zr1_1 | exact zr1_0 | fail "num") (by first | omega | decide | assumption | exact zr1_1 | exact zr1_0 | fail "num") (by first | omega | decide | assumption | exact zr1_1 | exact zr1_0 | fail "num") (by first | omega | decide | assumption | exact zr1_1 | exact zr1_0 | fail "num") (by first | omega | decide | assumption | exact zr1_1 | exact zr1_0 | fail "num") (by first | omega | decide | assumption | exact zr1_1 | exact zr1_0 | fail "num") (by first | omega | decide | assumption | exact zr1_1 | exact zr1_0 | fail "num") (by first | omega | decide | assumption | exact zr1_1 | exact zr1_0 | fail "num") (by first | omega | decide | assumption | exact zr1_1 | exact zr1_0 | fail "num") (by first | omega | decide | assumption | exact zr1_1 | exact zr1_0 | fail "num") (by first | omega | decide | assumption | exact zr1_1 | exact zr1_0 | fail "num") (by first | omega | decide | assumption | exact zr1_1 | exact zr1_0 | fail "num") (by first | omega | decide | assumption | exact zr1_1 | exact zr1_0 | fail "num") (by first | omega | decide | assumption | exact zr1_1 | exact zr1_0 | fail "num") (by exact fun t ht => ⟨(hsm t (by omega)).1, (hsm t (by omega)).2.1.ag (fun x g1 g2 => ((heq297 x (by omega)).trans ((heq291 x (by omega)).trans ((heq287 x (by omega)).trans ((heq272 x (by omega)).trans ((heq268 x (by omega)).trans ((heqL162 x (by omega)).trans ((heq144 x (by omega)).trans ((heqL108 x (by omega)).trans ((heq102 x (by omega)).trans ((heq94 x (by omega)).trans ((heq86 x (by omega)).trans ((heqL21 x (by omega)).trans ((heq15 x (by omega)).trans ((heq7 x (by omega)).trans (heq1 x (by omega))))))))))))))))), (hsm t (by omega)).2.2⟩) (by exact ⟨⟨by omega, by omega, by omega, by have := hG9.1; omega⟩, hsz.1, hsz.2.1, hsz.2.2.1⟩) rfl rfl) (by omega) (fun v320 w320 hp320 => ?_)
                obtain ⟨X9_320, Y9_320, hsi320, heq320, hp320_0, hp320_1, hp320_2, r320, rfl, hrb320, hr320⟩ := hp320
                have hM320 : w320 m = some (.inl (15, zMo m (zs (zs g 1 X9_320) 3 Y9_320) r)) := hp320_0
                have kr320 := zrng r320
                show zP _ _ _ _ [.int r320] _ _ _ _ _
                refine zp_if (i := .ifCond .eq 21) (c := r320 = 0) (t := 344) (e := 326) (lv' := [(10, .ref (m + 596 + 130 * (g 3 + 1).toNatClampNeg)), (9, .ref (m + 596 + 130 * (g 3).toNatClampNeg)), (8, .ref (m + 276 + 2 * xT.toNatClampNeg)), (0, .ref m), (1, .int from9), (2, .int last9), (3, .ref q), (4, .ref (m + 276 + 2 * (g 1).toNatClampNeg)), (5, .ref sz), (6, .int y6_162), (7, .int r154)]) (st' := []) (by decide +kernel) rfl (fun cc323 => ?_) (fun cc323 => ?_)
                ·
                  have f89 := zeqI cc323
                  rw [show (0 : Int32).toInt = 0 from by decide] at f89
                  have hb90 : w320 (m + 83) = some (.inl (13, zTo (m + 83) (zs (zs (zs (zs (zs g1 0 3) 3 1) 4 1) 5 0) 10 last9))) := ((heq320 (m + 83) (by omega)).trans ((heq297 (m + 83) ⟨(zx_X16_makeRecord_50), (zx_X16_makeRecord_52 hgn3_1 hgb3)⟩).trans ((heq291 (m + 83) ⟨(zx_X16_makeRecord_50), (zx_X16_makeRecord_51 hgb3)⟩).trans ((heq287 (m + 83) (by omega)).trans ((heq272 (m + 83) (by omega)).trans ((heq268 (m + 83) (zx_X16_makeRecord_49 hgb1)).trans ((heqL162 (m + 83) ⟨⟨(zx_X16_makeRecord_46), (zx_X16_makeRecord_48 hgn1_1 hgb1)⟩, (zx_X16_makeRecord_47)⟩).trans ((heq144 (m + 83) (by omega)).trans (heqL108 (m + 83) ⟨(zx_X16_makeRecord_46), (zx_X16_makeRecord_47)⟩))))))))).trans hc102
                  have hb91 : w320 (m + 83 + 1) = some (.inr (0, 325, .inl fn1)) := ((heq320 (m + 83 + 1) (by omega)).trans ((heq297 (m + 83 + 1) ⟨(zx_X16_makeRecord_59), (zx_X16_makeRecord_61 hgn3_1 hgb3)⟩).trans ((heq291 (m + 83 + 1) ⟨(zx_X16_makeRecord_59), (zx_X16_makeRecord_60 hgb3)⟩).trans ((heq287 (m + 83 + 1) (by omega)).trans ((heq272 (m + 83 + 1) (by omega)).trans ((heq268 (m + 83 + 1) (zx_X16_makeRecord_58 hgb1)).trans ((heqL162 (m + 83 + 1) ⟨⟨(zx_X16_makeRecord_55), (zx_X16_makeRecord_57 hgn1_1 hgb1)⟩, (zx_X16_makeRecord_56)⟩).trans ((heq144 (m + 83 + 1) (by omega)).trans ((heqL108 (m + 83 + 1) ⟨(zx_X16_makeRecord_55), (zx_X16_makeRecord_56)⟩).trans ((heq102 (m + 83 + 1) (zx_X16_makeRecord_54)).trans ((heq94 (m + 83 + 1) (zx_X16_makeRecord_54)).trans (heq86 (m + 83 + 1) (zx_X16_makeRecord_53))))))))))))).trans hAn1
                  have hb92 : w320 (m + 83 + 2) = some (.inr (0, 325, .inl fd1)) := ((heq320 (m + 83 + 2) (by omega)).trans ((heq297 (m + 83 + 2) ⟨(zx_X16_makeRecord_68), (zx_X16_makeRecord_70 hgn3_1 hgb3)⟩).trans ((heq291 (m + 83 + 2) ⟨(zx_X16_makeRecord_68), (zx_X16_makeRecord_69 hgb3)⟩).trans ((heq287 (m + 83 + 2) (by omega)).trans ((heq272 (m + 83 + 2) (by omega)).trans ((heq268 (m + 83 + 2) (zx_X16_makeRecord_67 hgb1)).trans ((heqL162 (m + 83 + 2) ⟨⟨(zx_X16_makeRecord_64), (zx_X16_makeRecord_66 hgn1_1 hgb1)⟩, (zx_X16_makeRecord_65)⟩).trans ((heq144 (m + 83 + 2) (by omega)).trans ((heqL108 (m + 83 + 2) ⟨(zx_X16_makeRecord_64), (zx_X16_makeRecord_65)⟩).trans ((heq102 (m + 83 + 2) (zx_X16_makeRecord_63)).trans ((heq94 (m + 83 + 2) (zx_X16_makeRecord_63)).trans (heq86 (m + 83 + 2) (zx_X16_makeRecord_62))))))))))))).trans hAd1
                  have hb93 : w320 (m + 83 + 3) = some (.inr (0, 13, .inl fa1)) := ((heq320 (m + 83 + 3) (by omega)).trans ((heq297 (m + 83 + 3) ⟨(zx_X16_makeRecord_77), (zx_X16_makeRecord_79 hgn3_1 hgb3)⟩).trans ((heq291 (m + 83 + 3) ⟨(zx_X16_makeRecord_77), (zx_X16_makeRecord_78 hgb3)⟩).trans ((heq287 (m + 83 + 3) (by omega)).trans ((heq272 (m + 83 + 3) (by omega)).trans ((heq268 (m + 83 + 3) (zx_X16_makeRecord_76 hgb1)).trans ((heqL162 (m + 83 + 3) ⟨⟨(zx_X16_makeRecord_73), (zx_X16_makeRecord_75 hgn1_1 hgb1)⟩, (zx_X16_makeRecord_74)⟩).trans ((heq144 (m + 83 + 3) (by omega)).trans ((heqL108 (m + 83 + 3) ⟨(zx_X16_makeRecord_73), (zx_X16_makeRecord_74)⟩).trans ((heq102 (m + 83 + 3) (zx_X16_makeRecord_72)).trans ((heq94 (m + 83 + 3) (zx_X16_makeRecord_72)).trans (heq86 (m + 83 + 3) (zx_X16_makeRecord_71))))))))))))).trans hAa1
                  have hb94 : w320 (m + 83 + 4) = some (.inr (0, 13, .inl fb1)) := ((heq320 (m + 83 + 4) (by omega)).trans ((heq297 (m + 83 + 4) ⟨(zx_X16_makeRecord_86), (zx_X16_makeRecord_88 hgn3_1 hgb3)⟩).trans ((heq291 (m + 83 + 4) ⟨(zx_X16_makeRecord_86), (zx_X16_makeRecord_87 hgb3)⟩).trans ((heq287 (m + 83 + 4) (by omega)).trans ((heq272 (m + 83 + 4) (by omega)).trans ((heq268 (m + 83 + 4) (zx_X16_makeRecord_85 hgb1)).trans ((heqL162 (m + 83 + 4) ⟨⟨(zx_X16_makeRecord_82), (zx_X16_makeRecord_84 hgn1_1 hgb1)⟩, (zx_X16_makeRecord_83)⟩).trans ((heq144 (m + 83 + 4) (by omega)).trans ((heqL108 (m + 83 + 4) ⟨(zx_X16_makeRecord_82), (zx_X16_makeRecord_83)⟩).trans ((heq102 (m + 83 + 4) (zx_X16_makeRecord_81)).trans ((heq94 (m + 83 + 4) (zx_X16_makeRecord_81)).trans (heq86 (m + 83 + 4) (zx_X16_makeRecord_80))))))))))))).trans hAb1
                  have hb95 : w320 (m + 83 + 5) = some (.inr (0, 13, .inl fc1)) := ((heq320 (m + 83 + 5) (by omega)).trans ((heq297 (m + 83 + 5) ⟨(zx_X16_makeRecord_95), (zx_X16_makeRecord_97 hgn3_1 hgb3)⟩).trans ((heq291 (m + 83 + 5) ⟨(zx_X16_makeRecord_95), (zx_X16_makeRecord_96 hgb3)⟩).trans ((heq287 (m + 83 + 5) (by omega)).trans ((heq272 (m + 83 + 5) (by omega)).trans ((heq268 (m + 83 + 5) (zx_X16_makeRecord_94 hgb1)).trans ((heqL162 (m + 83 + 5) ⟨⟨(zx_X16_makeRecord_91), (zx_X16_makeRecord_93 hgn1_1 hgb1)⟩, (zx_X16_makeRecord_92)⟩).trans ((heq144 (m + 83 + 5) (by omega)).trans ((heqL108 (m + 83 + 5) ⟨(zx_X16_makeRecord_91), (zx_X16_makeRecord_92)⟩).trans ((heq102 (m + 83 + 5) (zx_X16_makeRecord_90)).trans ((heq94 (m + 83 + 5) (zx_X16_makeRecord_90)).trans (heq86 (m + 83 + 5) (zx_X16_makeRecord_89))))))))))))).trans hAc1
                  have hb96 : w320 (m + 83 + 6) = some (.inr (0, 13, .inl fe1)) := ((heq320 (m + 83 + 6) (by omega)).trans ((heq297 (m + 83 + 6) ⟨(zx_X16_makeRecord_104), (zx_X16_makeRecord_106 hgn3_1 hgb3)⟩).trans ((heq291 (m + 83 + 6) ⟨(zx_X16_makeRecord_104), (zx_X16_makeRecord_105 hgb3)⟩).trans ((heq287 (m + 83 + 6) (by omega)).trans ((heq272 (m + 83 + 6) (by omega)).trans ((heq268 (m + 83 + 6) (zx_X16_makeRecord_103 hgb1)).trans ((heqL162 (m + 83 + 6) ⟨⟨(zx_X16_makeRecord_100), (zx_X16_makeRecord_102 hgn1_1 hgb1)⟩, (zx_X16_makeRecord_101)⟩).trans ((heq144 (m + 83 + 6) (by omega)).trans ((heqL108 (m + 83 + 6) ⟨(zx_X16_makeRecord_100), (zx_X16_makeRecord_101)⟩).trans ((heq102 (m + 83 + 6) (zx_X16_makeRecord_99)).trans ((heq94 (m + 83 + 6) (zx_X16_makeRecord_99)).trans (heq86 (m + 83 + 6) (zx_X16_makeRecord_98))))))))))))).trans hAe1
                  have hb97 : w320 (m + 83 + 7) = some (.inr (0, 175, .inl sa)) := ((heq320 (m + 83 + 7) (by omega)).trans ((heq297 (m + 83 + 7) ⟨(zx_X16_makeRecord_108), (zx_X16_makeRecord_110 hgn3_1 hgb3)⟩).trans ((heq291 (m + 83 + 7) ⟨(zx_X16_makeRecord_108), (zx_X16_makeRecord_109 hgb3)⟩).trans ((heq287 (m + 83 + 7) (by omega)).trans ((heq272 (m + 83 + 7) (by omega)).trans (heq268 (m + 83 + 7) (zx_X16_makeRecord_107 hgb1))))))).trans hAs
                  have hb98 : w320 (m + 83 + 8) = some (.inr (0, 361, .inl fu1)) := ((heq320 (m + 83 + 8) (by omega)).trans ((heq297 (m + 83 + 8) ⟨(zx_X16_makeRecord_117), (zx_X16_makeRecord_119 hgn3_1 hgb3)⟩).trans ((heq291 (m + 83 + 8) ⟨(zx_X16_makeRecord_117), (zx_X16_makeRecord_118 hgb3)⟩).trans ((heq287 (m + 83 + 8) (by omega)).trans ((heq272 (m + 83 + 8) (by omega)).trans ((heq268 (m + 83 + 8) (zx_X16_makeRecord_116 hgb1)).trans ((heqL162 (m + 83 + 8) ⟨⟨(zx_X16_makeRecord_113), (zx_X16_makeRecord_115 hgn1_1 hgb1)⟩, (zx_X16_makeRecord_114)⟩).trans ((heq144 (m + 83 + 8) (by omega)).trans ((heqL108 (m + 83 + 8) ⟨(zx_X16_makeRecord_113), (zx_X16_makeRecord_114)⟩).trans ((heq102 (m + 83 + 8) (zx_X16_makeRecord_112)).trans ((heq94 (m + 83 + 8) (zx_X16_makeRecord_112)).trans (heq86 (m + 83 + 8) (zx_X16_makeRecord_111))))))))))))).trans hAu1
                  have hTm8 : zTm w320 (m + 83) := ⟨_, _, _, _, _, _, _, _, _, hb90, hb91, hb92, hb93, hb94, hb95, hb96, hb97, hb98, hKn1, hKd1, hF9, hKu1⟩
                  refine zp_seg (pc' := 345) (lv' := [(10, .ref (m + 596 + 130 * (g 3 + 1).toNatClampNeg)), (9, .ref (m + 596 + 130 * (g 3).toNatClampNeg)), (8, .ref (m + 276 + 2 * xT.toNatClampNeg)), (0, .ref m), (1, .int from9), (2, .int last9), (3, .ref q), (4, .ref (m + 276 + 2 * (g 1).toNatClampNeg)), (5, .ref sz), (6, .int y6_162), (7, .int r154)]) (st' := [.int 0]) [(344, .iconst 0)] (by decide +kernel) rfl ?_
                  have hoffend : ∀ x, (x < m ∨ m + 1 ≤ x) ∧ (x < m + 83 ∨ m + 83 + 9 ≤ x) ∧ (x < m + 276 + 2 * (g 1).toNatClampNeg ∨ m + 276 + 2 * (g 1).toNatClampNeg + (320 - 2 * (g 1).toNatClampNeg) ≤ x) ∧ (x < m + 596 + 130 * (g 3).toNatClampNeg ∨ m + 596 + 130 * (g 3).toNatClampNeg + (5720 - 130 * (g 3).toNatClampNeg) ≤ x) ∧ (x < m + 3 ∨ m + 3 + 1 ≤ x) ∧ (x < m + 5 ∨ m + 5 + 64 ≤ x) ∧ (x < m + 8322 ∨ m + 8322 + 1000000000000 ≤ x) → w320 x = w x := fun x hx => ((heq320 x (by omega)).trans ((heq297 x ⟨hx.1, (zx_X16_makeRecord_130 hx.2.2.2.1 hgn3_1 hgb3)⟩).trans ((heq291 x ⟨hx.1, (zx_X16_makeRecord_129 hx.2.2.2.1 hgb3)⟩).trans ((heq287 x (by omega)).trans ((heq272 x (by omega)).trans ((heq268 x (zx_X16_makeRecord_120 hx.2.2.1 hgb1)).trans ((heqL162 x ⟨⟨(zx_X16_makeRecord_127 hx.2.1), (zx_X16_makeRecord_128 hx.2.2.1 hgn1_1 hgb1)⟩, (zx_X16_makeRecord_124 hx.1)⟩).trans ((heq144 x (by omega)).trans ((heqL108 x ⟨(zx_X16_makeRecord_127 hx.2.1), (zx_X16_makeRecord_124 hx.1)⟩).trans ((heq102 x (zx_X16_makeRecord_126 hx.2.1)).trans ((heq94 x (zx_X16_makeRecord_126 hx.2.1)).trans ((heq86 x (zx_X16_makeRecord_125 hx.2.1)).trans ((heqL21 x ⟨⟨hx.1, (zx_X16_makeRecord_123 hx.2.2.2.2.2.2 hsz9 hsz8), hx.2.2.1⟩, (zx_X16_makeRecord_124 hx.1)⟩).trans ((heq15 x (zx_X16_makeRecord_122 hx.2.2.1 hgb1)).trans ((heq7 x (zx_X16_makeRecord_121 hx.2.2.2.2.2.2 hsz9 hsz8)).trans (heq1 x ⟨hx.1, (zx_X16_makeRecord_120 hx.2.2.1 hgb1)⟩))))))))))))))))
                  refine zr_retB (by decide +kernel) rfl (by decide) ?_
                  rw [← hPost]; exact ⟨⟨by omega, by omega⟩, fun x hx => ((heq320 x (by omega)).trans ((heq297 x (by omega)).trans ((heq291 x (by omega)).trans ((heq287 x (by omega)).trans ((heq272 x (by omega)).trans ((heq268 x (by omega)).trans ((heqL162 x (by omega)).trans ((heq144 x (by omega)).trans ((heqL108 x (by omega)).trans ((heq102 x (by omega)).trans ((heq94 x (by omega)).trans ((heq86 x (by omega)).trans ((heqL21 x (by omega)).trans ((heq15 x (by omega)).trans ((heq7 x (by omega)).trans (heq1 x (by omega))))))))))))))))).trans (hno9 x (by omega)), _, rfl, X9_320, Y9_320, (((((((((((((((hsi1.tr hsi7).tr hsi15).tr hsiL21).tr hsi86).tr hsi94).tr hsi102).tr hsiL108).tr hsi144).tr hsiL162).tr hsi268).tr hsi272).tr hsi287).tr hsi291).tr hsi297).tr hsi320), hoffend, hM320, hTm8, _, rfl, (by decide), (by
                        first | exact fun e => absurd e (by decide) | exact fun _ => none9)⟩
                ·
                  have f99 := zneI cc323
                  rw [show (0 : Int32).toInt = 0 from by decide] at f99
                  obtain ⟨PN, QN, hPN, hQN, hqz9, hP1, hQ1⟩ := hr320 (hrb320.resolve_left cc323)
                  refine zp_seg (pc' := 327) (lv' := [(10, .ref (m + 596 + 130 * (g 3 + 1).toNatClampNeg)), (9, .ref (m + 596 + 130 * (g 3).toNatClampNeg)), (8, .ref (m + 276 + 2 * xT.toNatClampNeg)), (0, .ref m), (1, .int from9), (2, .int last9), (3, .ref q), (4, .ref (m + 276 + 2 * (g 1).toNatClampNeg)), (5, .ref sz), (6, .int y6_162), (7, .int r154)]) (st' := [.ref m]) [(326, .aload_n 0)] (by decide +kernel) rfl ?_
                  refine zr_get (idx := 453) (k := 21) (v := .ref (m + 83)) (by decide +kernel) (by decide +kernel) hM320 rfl ?_
                  refine zp_seg (pc' := 334) (lv' := [(10, .ref (m + 596 + 130 * (g 3 + 1).toNatClampNeg)), (9, .ref (m + 596 + 130 * (g 3).toNatClampNeg)), (8, .ref (m + 276 + 2 * xT.toNatClampNeg)), (0, .ref m), (1, .int from9), (2, .int last9), (3, .ref q), (4, .ref (m + 276 + 2 * (g 1).toNatClampNeg)), (5, .ref sz), (6, .int y6_162), (7, .int r154)]) (st' := [.ref (m + 596 + 130 * (g 3 + 1).toNatClampNeg), .ref (m + 596 + 130 * (g 3).toNatClampNeg), .ref (m + 83)]) [(330, .aload 9), (332, .aload 10)] (by decide +kernel) rfl ?_
                  have hb100 : w320 (m + 83) = some (.inl (13, zTo (m + 83) (zs (zs (zs (zs (zs g1 0 3) 3 1) 4 1) 5 0) 10 last9))) := ((heq320 (m + 83) (by omega)).trans ((heq297 (m + 83) ⟨(zx_X16_makeRecord_50), (zx_X16_makeRecord_52 hgn3_1 hgb3)⟩).trans ((heq291 (m + 83) ⟨(zx_X16_makeRecord_50), (zx_X16_makeRecord_51 hgb3)⟩).trans ((heq287 (m + 83) (by omega)).trans ((heq272 (m + 83) (by omega)).trans ((heq268 (m + 83) (zx_X16_makeRecord_49 hgb1)).trans ((heqL162 (m + 83) ⟨⟨(zx_X16_makeRecord_46), (zx_X16_makeRecord_48 hgn1_1 hgb1)⟩, (zx_X16_makeRecord_47)⟩).trans ((heq144 (m + 83) (by omega)).trans (heqL108 (m + 83) ⟨(zx_X16_makeRecord_46), (zx_X16_makeRecord_47)⟩))))))))).trans hc102
                  have hb101 : w320 (m + 83 + 1) = some (.inr (0, 325, .inl fn1)) := ((heq320 (m + 83 + 1) (by omega)).trans ((heq297 (m + 83 + 1) ⟨(zx_X16_makeRecord_59), (zx_X16_makeRecord_61 hgn3_1 hgb3)⟩).trans ((heq291 (m + 83 + 1) ⟨(zx_X16_makeRecord_59), (zx_X16_makeRecord_60 hgb3)⟩).trans ((heq287 (m + 83 + 1) (by omega)).trans ((heq272 (m + 83 + 1) (by omega)).trans ((heq268 (m + 83 + 1) (zx_X16_makeRecord_58 hgb1)).trans ((heqL162 (m + 83 + 1) ⟨⟨(zx_X16_makeRecord_55), (zx_X16_makeRecord_57 hgn1_1 hgb1)⟩, (zx_X16_makeRecord_56)⟩).trans ((heq144 (m + 83 + 1) (by omega)).trans ((heqL108 (m + 83 + 1) ⟨(zx_X16_makeRecord_55), (zx_X16_makeRecord_56)⟩).trans ((heq102 (m + 83 + 1) (zx_X16_makeRecord_54)).trans ((heq94 (m + 83 + 1) (zx_X16_makeRecord_54)).trans (heq86 (m + 83 + 1) (zx_X16_makeRecord_53))))))))))))).trans hAn1
                  have hb102 : w320 (m + 83 + 2) = some (.inr (0, 325, .inl fd1)) := ((heq320 (m + 83 + 2) (by omega)).trans ((heq297 (m + 83 + 2) ⟨(zx_X16_makeRecord_68), (zx_X16_makeRecord_70 hgn3_1 hgb3)⟩).trans ((heq291 (m + 83 + 2) ⟨(zx_X16_makeRecord_68), (zx_X16_makeRecord_69 hgb3)⟩).trans ((heq287 (m + 83 + 2) (by omega)).trans ((heq272 (m + 83 + 2) (by omega)).trans ((heq268 (m + 83 + 2) (zx_X16_makeRecord_67 hgb1)).trans ((heqL162 (m + 83 + 2) ⟨⟨(zx_X16_makeRecord_64), (zx_X16_makeRecord_66 hgn1_1 hgb1)⟩, (zx_X16_makeRecord_65)⟩).trans ((heq144 (m + 83 + 2) (by omega)).trans ((heqL108 (m + 83 + 2) ⟨(zx_X16_makeRecord_64), (zx_X16_makeRecord_65)⟩).trans ((heq102 (m + 83 + 2) (zx_X16_makeRecord_63)).trans ((heq94 (m + 83 + 2) (zx_X16_makeRecord_63)).trans (heq86 (m + 83 + 2) (zx_X16_makeRecord_62))))))))))))).trans hAd1
                  refine zr_callS (idx := 261) (j := 303) (by decide +kernel) (by decide +kernel) (by decide) (show zMe 303 = some zq_X16_put from rfl) rfl rfl (Nat.le_of_ble_eq_true rfl) rfl rfl (Nat.le_of_ble_eq_true rfl) (Nat.le_of_ble_eq_true rfl) (c_X16_put (w := w320) (m + 83) (m + 596 + 130 * (g 3).toNatClampNeg) (m + 596 + 130 * (g 3 + 1).toNatClampNeg) hb100 hb101 hb102 hPN hQN (by first | omega | decide | assumption | exact zr1_1 | exact zr1_0 | fail "num") (by first | omega | decide | assumption | exact zr1_1 | exact zr1_0 | fail "num")) (by omega) (fun v334 w334 hp334 => ?_)
                  obtain ⟨Fn_334, Fd_334, hsi334, heq334, hp334_0, hp334_1, r334, rfl, hrb334, hr334⟩ := hp334
                  have kr334 := zrng r334
                  show zP _ _ _ _ [.int r334] _ _ _ _ _
                  refine zp_if (i := .ifCond .eq 7) (c := r334 = 0) (t := 344) (e := 340) (lv' := [(10, .ref (m + 596 + 130 * (g 3 + 1).toNatClampNeg)), (9, .ref (m + 596 + 130 * (g 3).toNatClampNeg)), (8, .ref (m + 276 + 2 * xT.toNatClampNeg)), (0, .ref m), (1, .int from9), (2, .int last9), (3, .ref q), (4, .ref (m + 276 + 2 * (g 1).toNatClampNeg)), (5, .ref sz), (6, .int y6_162), (7, .int r154)]) (st' := []) (by decide +kernel) rfl (fun cc337 => ?_) (fun cc337 => ?_)
                  ·
                    have f103 := zeqI cc337
                    rw [show (0 : Int32).toInt = 0 from by decide] at f103
                    have hKn9 : zCr Fn_334 := by rw [(hr334.1 cc337).1]; exact hKn1
                    have hKd9 : zCr Fd_334 := by rw [(hr334.1 cc337).2]; exact hKd1
                    have hb104 : w334 (m + 83) = some (.inl (13, zTo (m + 83) (zs (zs (zs (zs (zs g1 0 3) 3 1) 4 1) 5 0) 10 last9))) := (heq334 (m + 83) (zx_X16_makeRecord_177)).trans hb100
                    have hb105 : w334 (m + 83 + 3) = some (.inr (0, 13, .inl fa1)) := ((heq334 (m + 83 + 3) (zx_X16_makeRecord_178)).trans ((heq320 (m + 83 + 3) (by omega)).trans ((heq297 (m + 83 + 3) ⟨(zx_X16_makeRecord_77), (zx_X16_makeRecord_79 hgn3_1 hgb3)⟩).trans ((heq291 (m + 83 + 3) ⟨(zx_X16_makeRecord_77), (zx_X16_makeRecord_78 hgb3)⟩).trans ((heq287 (m + 83 + 3) (by omega)).trans ((heq272 (m + 83 + 3) (by omega)).trans ((heq268 (m + 83 + 3) (zx_X16_makeRecord_76 hgb1)).trans ((heqL162 (m + 83 + 3) ⟨⟨(zx_X16_makeRecord_73), (zx_X16_makeRecord_75 hgn1_1 hgb1)⟩, (zx_X16_makeRecord_74)⟩).trans ((heq144 (m + 83 + 3) (by omega)).trans ((heqL108 (m + 83 + 3) ⟨(zx_X16_makeRecord_73), (zx_X16_makeRecord_74)⟩).trans ((heq102 (m + 83 + 3) (zx_X16_makeRecord_72)).trans ((heq94 (m + 83 + 3) (zx_X16_makeRecord_72)).trans (heq86 (m + 83 + 3) (zx_X16_makeRecord_71)))))))))))))).trans hAa1
                    have hb106 : w334 (m + 83 + 4) = some (.inr (0, 13, .inl fb1)) := ((heq334 (m + 83 + 4) (zx_X16_makeRecord_179)).trans ((heq320 (m + 83 + 4) (by omega)).trans ((heq297 (m + 83 + 4) ⟨(zx_X16_makeRecord_86), (zx_X16_makeRecord_88 hgn3_1 hgb3)⟩).trans ((heq291 (m + 83 + 4) ⟨(zx_X16_makeRecord_86), (zx_X16_makeRecord_87 hgb3)⟩).trans ((heq287 (m + 83 + 4) (by omega)).trans ((heq272 (m + 83 + 4) (by omega)).trans ((heq268 (m + 83 + 4) (zx_X16_makeRecord_85 hgb1)).trans ((heqL162 (m + 83 + 4) ⟨⟨(zx_X16_makeRecord_82), (zx_X16_makeRecord_84 hgn1_1 hgb1)⟩, (zx_X16_makeRecord_83)⟩).trans ((heq144 (m + 83 + 4) (by omega)).trans ((heqL108 (m + 83 + 4) ⟨(zx_X16_makeRecord_82), (zx_X16_makeRecord_83)⟩).trans ((heq102 (m + 83 + 4) (zx_X16_makeRecord_81)).trans ((heq94 (m + 83 + 4) (zx_X16_makeRecord_81)).trans (heq86 (m + 83 + 4) (zx_X16_makeRecord_80)))))))))))))).trans hAb1
                    have hb107 : w334 (m + 83 + 5) = some (.inr (0, 13, .inl fc1)) := ((heq334 (m + 83 + 5) (zx_X16_makeRecord_180)).trans ((heq320 (m + 83 + 5) (by omega)).trans ((heq297 (m + 83 + 5) ⟨(zx_X16_makeRecord_95), (zx_X16_makeRecord_97 hgn3_1 hgb3)⟩).trans ((heq291 (m + 83 + 5) ⟨(zx_X16_makeRecord_95), (zx_X16_makeRecord_96 hgb3)⟩).trans ((heq287 (m + 83 + 5) (by omega)).trans ((heq272 (m + 83 + 5) (by omega)).trans ((heq268 (m + 83 + 5) (zx_X16_makeRecord_94 hgb1)).trans ((heqL162 (m + 83 + 5) ⟨⟨(zx_X16_makeRecord_91), (zx_X16_makeRecord_93 hgn1_1 hgb1)⟩, (zx_X16_makeRecord_92)⟩).trans ((heq144 (m + 83 + 5) (by omega)).trans ((heqL108 (m + 83 + 5) ⟨(zx_X16_makeRecord_91), (zx_X16_makeRecord_92)⟩).trans ((heq102 (m + 83 + 5) (zx_X16_makeRecord_90)).trans ((heq94 (m + 83 + 5) (zx_X16_makeRecord_90)).trans (heq86 (m + 83 + 5) (zx_X16_makeRecord_89)))))))))))))).trans hAc1
                    have hb108 : w334 (m + 83 + 6) = some (.inr (0, 13, .inl fe1)) := ((heq334 (m + 83 + 6) (zx_X16_makeRecord_181)).trans ((heq320 (m + 83 + 6) (by omega)).trans ((heq297 (m + 83 + 6) ⟨(zx_X16_makeRecord_104), (zx_X16_makeRecord_106 hgn3_1 hgb3)⟩).trans ((heq291 (m + 83 + 6) ⟨(zx_X16_makeRecord_104), (zx_X16_makeRecord_105 hgb3)⟩).trans ((heq287 (m + 83 + 6) (by omega)).trans ((heq272 (m + 83 + 6) (by omega)).trans ((heq268 (m + 83 + 6) (zx_X16_makeRecord_103 hgb1)).trans ((heqL162 (m + 83 + 6) ⟨⟨(zx_X16_makeRecord_100), (zx_X16_makeRecord_102 hgn1_1 hgb1)⟩, (zx_X16_makeRecord_101)⟩).trans ((heq144 (m + 83 + 6) (by omega)).trans ((heqL108 (m + 83 + 6) ⟨(zx_X16_makeRecord_100), (zx_X16_makeRecord_101)⟩).trans ((heq102 (m + 83 + 6) (zx_X16_makeRecord_99)).trans ((heq94 (m + 83 + 6) (zx_X16_makeRecord_99)).trans (heq86 (m + 83 + 6) (zx_X16_makeRecord_98)))))))))))))).trans hAe1
                    have hb109 : w334 (m + 83 + 7) = some (.inr (0, 175, .inl sa)) := ((heq334 (m + 83 + 7) (zx_X16_makeRecord_182)).trans ((heq320 (m + 83 + 7) (by omega)).trans ((heq297 (m + 83 + 7) ⟨(zx_X16_makeRecord_108), (zx_X16_makeRecord_110 hgn3_1 hgb3)⟩).trans ((heq291 (m + 83 + 7) ⟨(zx_X16_makeRecord_108), (zx_X16_makeRecord_109 hgb3)⟩).trans ((heq287 (m + 83 + 7) (by omega)).trans ((heq272 (m + 83 + 7) (by omega)).trans (heq268 (m + 83 + 7) (zx_X16_makeRecord_107 hgb1)))))))).trans hAs
                    have hb110 : w334 (m + 83 + 8) = some (.inr (0, 361, .inl fu1)) := ((heq334 (m + 83 + 8) (zx_X16_makeRecord_183)).trans ((heq320 (m + 83 + 8) (by omega)).trans ((heq297 (m + 83 + 8) ⟨(zx_X16_makeRecord_117), (zx_X16_makeRecord_119 hgn3_1 hgb3)⟩).trans ((heq291 (m + 83 + 8) ⟨(zx_X16_makeRecord_117), (zx_X16_makeRecord_118 hgb3)⟩).trans ((heq287 (m + 83 + 8) (by omega)).trans ((heq272 (m + 83 + 8) (by omega)).trans ((heq268 (m + 83 + 8) (zx_X16_makeRecord_116 hgb1)).trans ((heqL162 (m + 83 + 8) ⟨⟨(zx_X16_makeRecord_113), (zx_X16_makeRecord_115 hgn1_1 hgb1)⟩, (zx_X16_makeRecord_114)⟩).trans ((heq144 (m + 83 + 8) (by omega)).trans ((heqL108 (m + 83 + 8) ⟨(zx_X16_makeRecord_113), (zx_X16_makeRecord_114)⟩).trans ((heq102 (m + 83 + 8) (zx_X16_makeRecord_112)).trans ((heq94 (m + 83 + 8) (zx_X16_makeRecord_112)).trans (heq86 (m + 83 + 8) (zx_X16_makeRecord_111)))))))))))))).trans hAu1
                    have hTm8 : zTm w334 (m + 83) := ⟨_, _, _, _, _, _, _, _, _, hb104, hp334_0, hp334_1, hb105, hb106, hb107, hb108, hb109, hb110, hKn9, hKd9, hF9, hKu1⟩
                    refine zp_seg (pc' := 345) (lv' := [(10, .ref (m + 596 + 130 * (g 3 + 1).toNatClampNeg)), (9, .ref (m + 596 + 130 * (g 3).toNatClampNeg)), (8, .ref (m + 276 + 2 * xT.toNatClampNeg)), (0, .ref m), (1, .int from9), (2, .int last9), (3, .ref q), (4, .ref (m + 276 + 2 * (g 1).toNatClampNeg)), (5, .ref sz), (6, .int y6_162), (7, .int r154)]) (st' := [.int 0]) [(344, .iconst 0)] (by decide +kernel) rfl ?_
                    have hb111 : w334 m = some (.inl (15, zMo m (zs (zs g 1 X9_320) 3 Y9_320) r)) := (heq334 m (zx_X16_makeRecord_184)).trans hM320
                    have hoffend : ∀ x, (x < m ∨ m + 1 ≤ x) ∧ (x < m + 83 ∨ m + 83 + 9 ≤ x) ∧ (x < m + 276 + 2 * (g 1).toNatClampNeg ∨ m + 276 + 2 * (g 1).toNatClampNeg + (320 - 2 * (g 1).toNatClampNeg) ≤ x) ∧ (x < m + 596 + 130 * (g 3).toNatClampNeg ∨ m + 596 + 130 * (g 3).toNatClampNeg + (5720 - 130 * (g 3).toNatClampNeg) ≤ x) ∧ (x < m + 3 ∨ m + 3 + 1 ≤ x) ∧ (x < m + 5 ∨ m + 5 + 64 ≤ x) ∧ (x < m + 8322 ∨ m + 8322 + 1000000000000 ≤ x) → w334 x = w x := fun x hx => ((heq334 x (zx_X16_makeRecord_185 hx.2.1)).trans ((heq320 x (by omega)).trans ((heq297 x ⟨hx.1, (zx_X16_makeRecord_130 hx.2.2.2.1 hgn3_1 hgb3)⟩).trans ((heq291 x ⟨hx.1, (zx_X16_makeRecord_129 hx.2.2.2.1 hgb3)⟩).trans ((heq287 x (by omega)).trans ((heq272 x (by omega)).trans ((heq268 x (zx_X16_makeRecord_120 hx.2.2.1 hgb1)).trans ((heqL162 x ⟨⟨(zx_X16_makeRecord_127 hx.2.1), (zx_X16_makeRecord_128 hx.2.2.1 hgn1_1 hgb1)⟩, (zx_X16_makeRecord_124 hx.1)⟩).trans ((heq144 x (by omega)).trans ((heqL108 x ⟨(zx_X16_makeRecord_127 hx.2.1), (zx_X16_makeRecord_124 hx.1)⟩).trans ((heq102 x (zx_X16_makeRecord_126 hx.2.1)).trans ((heq94 x (zx_X16_makeRecord_126 hx.2.1)).trans ((heq86 x (zx_X16_makeRecord_125 hx.2.1)).trans ((heqL21 x ⟨⟨hx.1, (zx_X16_makeRecord_123 hx.2.2.2.2.2.2 hsz9 hsz8), hx.2.2.1⟩, (zx_X16_makeRecord_124 hx.1)⟩).trans ((heq15 x (zx_X16_makeRecord_122 hx.2.2.1 hgb1)).trans ((heq7 x (zx_X16_makeRecord_121 hx.2.2.2.2.2.2 hsz9 hsz8)).trans (heq1 x ⟨hx.1, (zx_X16_makeRecord_120 hx.2.2.1 hgb1)⟩)))))))))))))))))
                    refine zr_retB (by decide +kernel) rfl (by decide) ?_
                    rw [← hPost]; exact ⟨⟨by omega, by omega⟩, fun x hx => ((heq334 x (by omega)).trans ((heq320 x (by omega)).trans ((heq297 x (by omega)).trans ((heq291 x (by omega)).trans ((heq287 x (by omega)).trans ((heq272 x (by omega)).trans ((heq268 x (by omega)).trans ((heqL162 x (by omega)).trans ((heq144 x (by omega)).trans ((heqL108 x (by omega)).trans ((heq102 x (by omega)).trans ((heq94 x (by omega)).trans ((heq86 x (by omega)).trans ((heqL21 x (by omega)).trans ((heq15 x (by omega)).trans ((heq7 x (by omega)).trans (heq1 x (by omega)))))))))))))))))).trans (hno9 x (by omega)), _, rfl, X9_320, Y9_320, ((((((((((((((((hsi1.tr hsi7).tr hsi15).tr hsiL21).tr hsi86).tr hsi94).tr hsi102).tr hsiL108).tr hsi144).tr hsiL162).tr hsi268).tr hsi272).tr hsi287).tr hsi291).tr hsi297).tr hsi320).tr hsi334), hoffend, hb111, hTm8, _, rfl, (by decide), (by
                          first | exact fun e => absurd e (by decide) | exact fun _ => none9)⟩
                  ·
                    have f112 := zneI cc337
                    rw [show (0 : Int32).toInt = 0 from by decide] at f112
                    have hpp9 := hr334.2.1 (hrb334.resolve_left cc337)
                    have hb113 : w334 (m + 83) = some (.inl (13, zTo (m + 83) (zs (zs (zs (zs (zs g1 0 3) 3 1) 4 1) 5 0) 10 last9))) := (heq334 (m + 83) (zx_X16_makeRecord_177)).trans hb100
                    have hb114 : w334 (m + 83 + 3) = some (.inr (0, 13, .inl fa1)) := ((heq334 (m + 83 + 3) (zx_X16_makeRecord_178)).trans ((heq320 (m + 83 + 3) (by omega)).trans ((heq297 (m + 83 + 3) ⟨(zx_X16_makeRecord_77), (zx_X16_makeRecord_79 hgn3_1 hgb3)⟩).trans ((heq291 (m + 83 + 3) ⟨(zx_X16_makeRecord_77), (zx_X16_makeRecord_78 hgb3)⟩).trans ((heq287 (m + 83 + 3) (by omega)).trans ((heq272 (m + 83 + 3) (by omega)).trans ((heq268 (m + 83 + 3) (zx_X16_makeRecord_76 hgb1)).trans ((heqL162 (m + 83 + 3) ⟨⟨(zx_X16_makeRecord_73), (zx_X16_makeRecord_75 hgn1_1 hgb1)⟩, (zx_X16_makeRecord_74)⟩).trans ((heq144 (m + 83 + 3) (by omega)).trans ((heqL108 (m + 83 + 3) ⟨(zx_X16_makeRecord_73), (zx_X16_makeRecord_74)⟩).trans ((heq102 (m + 83 + 3) (zx_X16_makeRecord_72)).trans ((heq94 (m + 83 + 3) (zx_X16_makeRecord_72)).trans (heq86 (m + 83 + 3) (zx_X16_makeRecord_71)))))))))))))).trans hAa1
                    have hb115 : w334 (m + 83 + 4) = some (.inr (0, 13, .inl fb1)) := ((heq334 (m + 83 + 4) (zx_X16_makeRecord_179)).trans ((heq320 (m + 83 + 4) (by omega)).trans ((heq297 (m + 83 + 4) ⟨(zx_X16_makeRecord_86), (zx_X16_makeRecord_88 hgn3_1 hgb3)⟩).trans ((heq291 (m + 83 + 4) ⟨(zx_X16_makeRecord_86), (zx_X16_makeRecord_87 hgb3)⟩).trans ((heq287 (m + 83 + 4) (by omega)).trans ((heq272 (m + 83 + 4) (by omega)).trans ((heq268 (m + 83 + 4) (zx_X16_makeRecord_85 hgb1)).trans ((heqL162 (m + 83 + 4) ⟨⟨(zx_X16_makeRecord_82), (zx_X16_makeRecord_84 hgn1_1 hgb1)⟩, (zx_X16_makeRecord_83)⟩).trans ((heq144 (m + 83 + 4) (by omega)).trans ((heqL108 (m + 83 + 4) ⟨(zx_X16_makeRecord_82), (zx_X16_makeRecord_83)⟩).trans ((heq102 (m + 83 + 4) (zx_X16_makeRecord_81)).trans ((heq94 (m + 83 + 4) (zx_X16_makeRecord_81)).trans (heq86 (m + 83 + 4) (zx_X16_makeRecord_80)))))))))))))).trans hAb1
                    have hb116 : w334 (m + 83 + 5) = some (.inr (0, 13, .inl fc1)) := ((heq334 (m + 83 + 5) (zx_X16_makeRecord_180)).trans ((heq320 (m + 83 + 5) (by omega)).trans ((heq297 (m + 83 + 5) ⟨(zx_X16_makeRecord_95), (zx_X16_makeRecord_97 hgn3_1 hgb3)⟩).trans ((heq291 (m + 83 + 5) ⟨(zx_X16_makeRecord_95), (zx_X16_makeRecord_96 hgb3)⟩).trans ((heq287 (m + 83 + 5) (by omega)).trans ((heq272 (m + 83 + 5) (by omega)).trans ((heq268 (m + 83 + 5) (zx_X16_makeRecord_94 hgb1)).trans ((heqL162 (m + 83 + 5) ⟨⟨(zx_X16_makeRecord_91), (zx_X16_makeRecord_93 hgn1_1 hgb1)⟩, (zx_X16_makeRecord_92)⟩).trans ((heq144 (m + 83 + 5) (by omega)).trans ((heqL108 (m + 83 + 5) ⟨(zx_X16_makeRecord_91), (zx_X16_makeRecord_92)⟩).trans ((heq102 (m + 83 + 5) (zx_X16_makeRecord_90)).trans ((heq94 (m + 83 + 5) (zx_X16_makeRecord_90)).trans (heq86 (m + 83 + 5) (zx_X16_makeRecord_89)))))))))))))).trans hAc1
                    have hb117 : w334 (m + 83 + 6) = some (.inr (0, 13, .inl fe1)) := ((heq334 (m + 83 + 6) (zx_X16_makeRecord_181)).trans ((heq320 (m + 83 + 6) (by omega)).trans ((heq297 (m + 83 + 6) ⟨(zx_X16_makeRecord_104), (zx_X16_makeRecord_106 hgn3_1 hgb3)⟩).trans ((heq291 (m + 83 + 6) ⟨(zx_X16_makeRecord_104), (zx_X16_makeRecord_105 hgb3)⟩).trans ((heq287 (m + 83 + 6) (by omega)).trans ((heq272 (m + 83 + 6) (by omega)).trans ((heq268 (m + 83 + 6) (zx_X16_makeRecord_103 hgb1)).trans ((heqL162 (m + 83 + 6) ⟨⟨(zx_X16_makeRecord_100), (zx_X16_makeRecord_102 hgn1_1 hgb1)⟩, (zx_X16_makeRecord_101)⟩).trans ((heq144 (m + 83 + 6) (by omega)).trans ((heqL108 (m + 83 + 6) ⟨(zx_X16_makeRecord_100), (zx_X16_makeRecord_101)⟩).trans ((heq102 (m + 83 + 6) (zx_X16_makeRecord_99)).trans ((heq94 (m + 83 + 6) (zx_X16_makeRecord_99)).trans (heq86 (m + 83 + 6) (zx_X16_makeRecord_98)))))))))))))).trans hAe1
                    have hb118 : w334 (m + 83 + 7) = some (.inr (0, 175, .inl sa)) := ((heq334 (m + 83 + 7) (zx_X16_makeRecord_182)).trans ((heq320 (m + 83 + 7) (by omega)).trans ((heq297 (m + 83 + 7) ⟨(zx_X16_makeRecord_108), (zx_X16_makeRecord_110 hgn3_1 hgb3)⟩).trans ((heq291 (m + 83 + 7) ⟨(zx_X16_makeRecord_108), (zx_X16_makeRecord_109 hgb3)⟩).trans ((heq287 (m + 83 + 7) (by omega)).trans ((heq272 (m + 83 + 7) (by omega)).trans (heq268 (m + 83 + 7) (zx_X16_makeRecord_107 hgb1)))))))).trans hAs
                    have hb119 : w334 (m + 83 + 8) = some (.inr (0, 361, .inl fu1)) := ((heq334 (m + 83 + 8) (zx_X16_makeRecord_183)).trans ((heq320 (m + 83 + 8) (by omega)).trans ((heq297 (m + 83 + 8) ⟨(zx_X16_makeRecord_117), (zx_X16_makeRecord_119 hgn3_1 hgb3)⟩).trans ((heq291 (m + 83 + 8) ⟨(zx_X16_makeRecord_117), (zx_X16_makeRecord_118 hgb3)⟩).trans ((heq287 (m + 83 + 8) (by omega)).trans ((heq272 (m + 83 + 8) (by omega)).trans ((heq268 (m + 83 + 8) (zx_X16_makeRecord_116 hgb1)).trans ((heqL162 (m + 83 + 8) ⟨⟨(zx_X16_makeRecord_113), (zx_X16_makeRecord_115 hgn1_1 hgb1)⟩, (zx_X16_makeRecord_114)⟩).trans ((heq144 (m + 83 + 8) (by omega)).trans ((heqL108 (m + 83 + 8) ⟨(zx_X16_makeRecord_113), (zx_X16_makeRecord_114)⟩).trans ((heq102 (m + 83 + 8) (zx_X16_makeRecord_112)).trans ((heq94 (m + 83 + 8) (zx_X16_makeRecord_112)).trans (heq86 (m + 83 + 8) (zx_X16_makeRecord_111)))))))))))))).trans hAu1
                    have hTi9 : zTi w334 (m + 83) 3 := ⟨_, _, _, _, _, _, _, _, _, hb113, hp334_0, hp334_1, hb114, hb115, hb116, hb117, hb118, hb119, ⟨rfl, hpp9.1, hpp9.2.1, ⟨zr1_1, zr1_1⟩, ⟨show 0 ≤ (0 : Int32).toInt by decide, show (0 : Int32).toInt ≤ 13 by decide⟩, fun i hi => absurd hi (Nat.not_lt_zero _), hF9, hKu1, ⟨by simp, fun _ => by rw [hpp9.2.2.2]; exact hqz9, fun e => absurd e (by decide), fun e => absurd e (by decide), fun _ => ⟨(show 0 ≤ last9.toInt by omega), (show last9.toInt ≤ 3 by omega)⟩, fun e => absurd e (by decide)⟩⟩⟩
                    refine zp_seg (pc' := 345) (lv' := [(10, .ref (m + 596 + 130 * (g 3 + 1).toNatClampNeg)), (9, .ref (m + 596 + 130 * (g 3).toNatClampNeg)), (8, .ref (m + 276 + 2 * xT.toNatClampNeg)), (0, .ref m), (1, .int from9), (2, .int last9), (3, .ref q), (4, .ref (m + 276 + 2 * (g 1).toNatClampNeg)), (5, .ref sz), (6, .int y6_162), (7, .int r154)]) (st' := [.int 1]) [(340, .iconst 1), (341, .goto 4)] (by decide +kernel) rfl ?_
                    have hb120 : w334 m = some (.inl (15, zMo m (zs (zs g 1 X9_320) 3 Y9_320) r)) := (heq334 m (zx_X16_makeRecord_184)).trans hM320
                    have hoffend : ∀ x, (x < m ∨ m + 1 ≤ x) ∧ (x < m + 83 ∨ m + 83 + 9 ≤ x) ∧ (x < m + 276 + 2 * (g 1).toNatClampNeg ∨ m + 276 + 2 * (g 1).toNatClampNeg + (320 - 2 * (g 1).toNatClampNeg) ≤ x) ∧ (x < m + 596 + 130 * (g 3).toNatClampNeg ∨ m + 596 + 130 * (g 3).toNatClampNeg + (5720 - 130 * (g 3).toNatClampNeg) ≤ x) ∧ (x < m + 3 ∨ m + 3 + 1 ≤ x) ∧ (x < m + 5 ∨ m + 5 + 64 ≤ x) ∧ (x < m + 8322 ∨ m + 8322 + 1000000000000 ≤ x) → w334 x = w x := fun x hx => ((heq334 x (zx_X16_makeRecord_185 hx.2.1)).trans ((heq320 x (by omega)).trans ((heq297 x ⟨hx.1, (zx_X16_makeRecord_130 hx.2.2.2.1 hgn3_1 hgb3)⟩).trans ((heq291 x ⟨hx.1, (zx_X16_makeRecord_129 hx.2.2.2.1 hgb3)⟩).trans ((heq287 x (by omega)).trans ((heq272 x (by omega)).trans ((heq268 x (zx_X16_makeRecord_120 hx.2.2.1 hgb1)).trans ((heqL162 x ⟨⟨(zx_X16_makeRecord_127 hx.2.1), (zx_X16_makeRecord_128 hx.2.2.1 hgn1_1 hgb1)⟩, (zx_X16_makeRecord_124 hx.1)⟩).trans ((heq144 x (by omega)).trans ((heqL108 x ⟨(zx_X16_makeRecord_127 hx.2.1), (zx_X16_makeRecord_124 hx.1)⟩).trans ((heq102 x (zx_X16_makeRecord_126 hx.2.1)).trans ((heq94 x (zx_X16_makeRecord_126 hx.2.1)).trans ((heq86 x (zx_X16_makeRecord_125 hx.2.1)).trans ((heqL21 x ⟨⟨hx.1, (zx_X16_makeRecord_123 hx.2.2.2.2.2.2 hsz9 hsz8), hx.2.2.1⟩, (zx_X16_makeRecord_124 hx.1)⟩).trans ((heq15 x (zx_X16_makeRecord_122 hx.2.2.1 hgb1)).trans ((heq7 x (zx_X16_makeRecord_121 hx.2.2.2.2.2.2 hsz9 hsz8)).trans (heq1 x ⟨hx.1, (zx_X16_makeRecord_120 hx.2.2.1 hgb1)⟩)))))))))))))))))
                    refine zr_retB (by decide +kernel) rfl (by decide) ?_
                    rw [← hPost]; exact ⟨⟨by omega, by omega⟩, fun x hx => ((heq334 x (by omega)).trans ((heq320 x (by omega)).trans ((heq297 x (by omega)).trans ((heq291 x (by omega)).trans ((heq287 x (by omega)).trans ((heq272 x (by omega)).trans ((heq268 x (by omega)).trans ((heqL162 x (by omega)).trans ((heq144 x (by omega)).trans ((heqL108 x (by omega)).trans ((heq102 x (by omega)).trans ((heq94 x (by omega)).trans ((heq86 x (by omega)).trans ((heqL21 x (by omega)).trans ((heq15 x (by omega)).trans ((heq7 x (by omega)).trans (heq1 x (by omega)))))))))))))))))).trans (hno9 x (by omega)), _, rfl, X9_320, Y9_320, ((((((((((((((((hsi1.tr hsi7).tr hsi15).tr hsiL21).tr hsi86).tr hsi94).tr hsi102).tr hsiL108).tr hsi144).tr hsiL162).tr hsi268).tr hsi272).tr hsi287).tr hsi291).tr hsi297).tr hsi320).tr hsi334), hoffend, hb120, (zTi.m hTi9), _, rfl, (by decide), (by
                          first | exact fun e => absurd e (by decide) | exact fun _ => hTi9)⟩
            ·
              have f121 := znltI cc165
              obtain ⟨PT, hPT⟩ : ∃ P, P = (if y8_162.toNatClampNeg = last9.toNatClampNeg then zquo (zaM (Pg (from9.toNatClampNeg + y8_162.toNatClampNeg)) (Dn y8_162.toNatClampNeg)) G9 else zaM (Pg (from9.toNatClampNeg + y8_162.toNatClampNeg)) (Dn y8_162.toNatClampNeg)) := ⟨_, rfl⟩
              have hUt9 := hQ9 y8_162.toNatClampNeg (Nat.le_refl _) (by omega)
              rw [← hPT] at hUt9
              have hct9 := hUt9.cap
              have hqt9 := zquo_ln (p := PT) (d := G9) hGz9
              refine zp_seg (pc' := 171) (lv' := [(0, .ref m), (1, .int from9), (2, .int last9), (3, .ref q), (4, .ref (m + 276 + 2 * (g 1).toNatClampNeg)), (5, .ref sz), (6, .int y6_162), (7, .int r154), (8, .int y8_162)]) (st' := [.int last9, .int y8_162]) [(168, .iload 8), (170, .iload_n 2)] (by decide +kernel) rfl ?_
              refine zp_if (i := .if_icmp .ge 19) (c := last9 ≤ y8_162) (t := 190) (e := 174) (lv' := [(0, .ref m), (1, .int from9), (2, .int last9), (3, .ref q), (4, .ref (m + 276 + 2 * (g 1).toNatClampNeg)), (5, .ref sz), (6, .int y6_162), (7, .int r154), (8, .int y8_162)]) (st' := []) (by decide +kernel) rfl (fun cc171 => ?_) (fun cc171 => ?_)
              ·
                have f122 := zleI cc171
                refine zp_seg (pc' := 194) (lv' := [(0, .ref m), (1, .int from9), (2, .int last9), (3, .ref q), (4, .ref (m + 276 + 2 * (g 1).toNatClampNeg)), (5, .ref sz), (6, .int y6_162), (7, .int r154), (8, .int y8_162)]) (st' := [.int y8_162, .ref sz]) [(190, .aload 5), (192, .iload 8)] (by decide +kernel) rfl ?_
                have hb123 : wL162 sz = some (.inr (4, 4, .inr fa)) := (heqL162 sz ⟨⟨(zx_X16_makeRecord_16 hsz9 hsz8), (zx_X16_makeRecord_186 hsz9 hsz8 hgn1_1 hgb1)⟩, (zx_X16_makeRecord_17 hsz9 hsz8)⟩).trans hb37
                refine zr_aald (v := .ref (m + 276 + 2 * (g 1 + 1).toNatClampNeg + 2 * y8_162.toNatClampNeg)) (by decide +kernel) hb123 (by decide) (zin (by first | omega | decide) (by first | omega | decide)) (by rw [hfa _ (by omega)]; rfl) ?_
                refine zp_seg (pc' := 199) (lv' := [(0, .ref m), (1, .int from9), (2, .int last9), (3, .ref q), (4, .ref (m + 276 + 2 * (g 1).toNatClampNeg)), (5, .ref sz), (6, .int y6_162), (7, .int r154), (8, .int y8_162)]) (st' := [.int y8_162, .ref sz, .ref (m + 276 + 2 * (g 1 + 1).toNatClampNeg + 2 * y8_162.toNatClampNeg)]) [(195, .aload 5), (197, .iload 8)] (by decide +kernel) rfl ?_
                refine zr_aald (v := .ref (m + 276 + 2 * (g 1 + 1).toNatClampNeg + 2 * y8_162.toNatClampNeg)) (by decide +kernel) hb123 (by decide) (zin (by first | omega | decide) (by first | omega | decide)) (by rw [hfa _ (by omega)]; rfl) ?_
                refine zp_seg (pc' := 202) (lv' := [(0, .ref m), (1, .int from9), (2, .int last9), (3, .ref q), (4, .ref (m + 276 + 2 * (g 1).toNatClampNeg)), (5, .ref sz), (6, .int y6_162), (7, .int r154), (8, .int y8_162)]) (st' := [.int r154, .ref (m + 276 + 2 * (g 1 + 1).toNatClampNeg + 2 * y8_162.toNatClampNeg), .ref (m + 276 + 2 * (g 1 + 1).toNatClampNeg + 2 * y8_162.toNatClampNeg)]) [(200, .iload 7)] (by decide +kernel) rfl ?_
                have hcs9 := (hUt9).cap
                have ho202_to := zU.o hUt9
                refine zr_callS (idx := 70) (j := 266) (by decide +kernel) (by decide +kernel) (by decide) (show zMe 266 = some zq_X16_scale from rfl) rfl rfl (Nat.le_of_ble_eq_true rfl) rfl rfl (Nat.le_of_ble_eq_true rfl) (Nat.le_of_ble_eq_true rfl) (c_X16_scale (w := wL162) (m + 276 + 2 * (g 1 + 1).toNatClampNeg + 2 * y8_162.toNatClampNeg) (m + 276 + 2 * (g 1 + 1).toNatClampNeg + 2 * y8_162.toNatClampNeg) r154 ho202_to hUt9 (by first | exact hr154.1 | omega | decide | assumption | exact zr1_1 | exact zr1_0 | fail "num") (by first | omega | decide | assumption | exact zr1_1 | exact zr1_0 | fail "num")) (by omega) (fun v202 w202 hp202 => ?_)
                obtain ⟨hsi202, heq202, hp202_0, rfl⟩ := hp202
                show zP _ _ _ _ [] _ _ _ _ _
                refine zp_seg (pc' := 211) (lv' := [(0, .ref m), (1, .int from9), (2, .int last9), (3, .ref q), (4, .ref (m + 276 + 2 * (g 1).toNatClampNeg)), (5, .ref sz), (6, .int y6_162), (7, .int r154), (8, .int y8_162)]) (st' := [.int y8_162, .ref sz, .int y6_162]) [(205, .iload 6), (207, .aload 5), (209, .iload 8)] (by decide +kernel) rfl ?_
                have hb124 : w202 sz = some (.inr (4, 4, .inr fa)) := (heq202 sz (by omega)).trans hb123
                refine zr_aald (v := .ref (m + 276 + 2 * (g 1 + 1).toNatClampNeg + 2 * y8_162.toNatClampNeg)) (by decide +kernel) hb124 (by decide) (zin (by first | omega | decide) (by first | omega | decide)) (by rw [hfa _ (by omega)]; rfl) ?_
                obtain ⟨n125, f126, hu127, hu128, hu129, hu130, hu131⟩ := id hp202_0
                have kn125 := zrng n125
                refine zr_get (idx := 25) (k := 1) (v := .int n125) (by decide +kernel) (by decide +kernel) hu127 rfl ?_
                refine zp_seg (pc' := 217) (lv' := [(0, .ref m), (1, .int from9), (2, .int last9), (3, .ref q), (4, .ref (m + 276 + 2 * (g 1).toNatClampNeg)), (5, .ref sz), (6, .int y6_162), (7, .int r154), (8, .int y8_162)]) (st' := [.int 25, .int n125, .int y6_162]) [(215, .bipush 25)] (by decide +kernel) rfl ?_
                have hJ225 : ∀ (z0_225 : Int32), ((z0_225 = 0 ∨ z0_225 = 1)) → zP (d + 1) zq_X16_makeRecord 225 [(0, .ref m), (1, .int from9), (2, .int last9), (3, .ref q), (4, .ref (m + 276 + 2 * (g 1).toNatClampNeg)), (5, .ref sz), (7, .int r154), (8, .int y8_162)] [.int z0_225, .int y6_162] w202 (sz + 1) (1 - 1) (4 - 4) Post := by
                  intro z0_225 hi225_0
                  have kz0_225 := zrng z0_225
                  refine zp_seg (pc' := 228) (lv' := [(6, .int (y6_162 &&& z0_225)), (0, .ref m), (1, .int from9), (2, .int last9), (3, .ref q), (4, .ref (m + 276 + 2 * (g 1).toNatClampNeg)), (5, .ref sz), (7, .int r154), (8, .int y8_162)]) (st' := []) [(225, .iand), (226, .istore 6)] (by decide +kernel) rfl ?_
                  generalize ev228 : (y6_162 &&& z0_225 : Int32) = v228
                  have kv228 := zrng v228
                  have ha9 := zand1 hi162_0 hi225_0 ev228
                  have hb226 := ha9.1
                  refine zp_seg (pc' := 230) (lv' := [(6, .int v228), (0, .ref m), (1, .int from9), (2, .int last9), (3, .ref q), (4, .ref (m + 276 + 2 * (g 1).toNatClampNeg)), (5, .ref sz), (7, .int r154), (8, .int y8_162)]) (st' := [.int v228]) [(228, .iload 6)] (by decide +kernel) rfl ?_
                  refine zp_if (i := .ifCond .eq 23) (c := v228 = 0) (t := 253) (e := 233) (lv' := [(6, .int v228), (0, .ref m), (1, .int from9), (2, .int last9), (3, .ref q), (4, .ref (m + 276 + 2 * (g 1).toNatClampNeg)), (5, .ref sz), (7, .int r154), (8, .int y8_162)]) (st' := []) (by decide +kernel) rfl (fun cc230 => ?_) (fun cc230 => ?_)
                  ·
                    have f133 := zeqI cc230
                    rw [show (0 : Int32).toInt = 0 from by decide] at f133
                    refine zp_seg (pc' := 256) (lv' := [(8, .int (y8_162 + 1)), (6, .int v228), (0, .ref m), (1, .int from9), (2, .int last9), (3, .ref q), (4, .ref (m + 276 + 2 * (g 1).toNatClampNeg)), (5, .ref sz), (7, .int r154)]) (st' := []) [(253, .iinc 8 1)] (by decide +kernel) rfl ?_
                    have k134 := zaddC y8_162 1 (n := 1) (by decide) (by omega) (by omega)
                    generalize ev256 : (y8_162 + 1 : Int32) = v256 at k134 ⊢
                    have kv256 := zrng v256
                    refine zp_seg (pc' := 162) (lv' := [(8, .int v256), (6, .int v228), (0, .ref m), (1, .int from9), (2, .int last9), (3, .ref q), (4, .ref (m + 276 + 2 * (g 1).toNatClampNeg)), (5, .ref sz), (7, .int r154)]) (st' := []) [(256, .goto (-94))] (by decide +kernel) rfl ?_
                    have hz135 : (v256.toNatClampNeg : Int) = v256.toInt := znat (by first | omega | decide)
                    have hb136 : w202 (m + 83 + 7) = some (.inr (0, 175, .inl sa)) := (heq202 (m + 83 + 7) (by omega)).trans hAs
                    have hb137 : w202 m = some (.inl (15, zMo m (zs g 1 xT) r)) := (heq202 m (by omega)).trans hmL162
                    exact (ih162 w202 v228 v256 (sa) (hsiL162.tr hsi202) (fun x hx => ((heq202 x (by omega)).trans (heqL162 x ⟨⟨hx.1.1, hx.1.2⟩, hx.2⟩))) (by first | assumption | omega | decide) (by first | assumption | omega | decide) (by first | assumption | omega | decide) hb136 hb137 (by
                          exact fun t h1 h2 => (hQ9 t (by omega) h2).ag (fun x g1 g2 => (heq202 x (by omega)))) (by
                          first
                          | exact hF9
                          | (have hs1 := hp250_1
                             rw [hzv9] at hs1
                             intro i hi
                             by_cases k : 25 * y8_162.toNatClampNeg ≤ i ∧ i < 25 * y8_162.toNatClampNeg + 25
                             · have h9 := (hs1.1 (i - 25 * y8_162.toNatClampNeg) (by omega)).1
                               rwa [show 25 * y8_162.toNatClampNeg + (i - 25 * y8_162.toNatClampNeg) = i by omega] at h9
                             · rw [hs1.2 i (by omega)]; exact hF9 i hi)) (by omega)).more (zfa1 rfl (zfa1 rfl (zfa1 rfl (zfa1 rfl (zfa1 rfl (zfa1 rfl (zfa1 rfl (zfa1 rfl (zfa1 rfl (zfa0))))))))))
                  ·
                    have f139 := zneI cc230
                    rw [show (0 : Int32).toInt = 0 from by decide] at f139
                    refine zp_seg (pc' := 234) (lv' := [(6, .int v228), (0, .ref m), (1, .int from9), (2, .int last9), (3, .ref q), (4, .ref (m + 276 + 2 * (g 1).toNatClampNeg)), (5, .ref sz), (7, .int r154), (8, .int y8_162)]) (st' := [.ref m]) [(233, .aload_n 0)] (by decide +kernel) rfl ?_
                    have hb140 : w202 m = some (.inl (15, zMo m (zs g 1 xT) r)) := (heq202 m (by omega)).trans hmL162
                    refine zr_get (idx := 453) (k := 21) (v := .ref (m + 83)) (by decide +kernel) (by decide +kernel) hb140 rfl ?_
                    have hb141 : w202 (m + 83) = some (.inl (13, zTo (m + 83) (zs (zs (zs (zs (zs g1 0 3) 3 1) 4 1) 5 0) 10 last9))) := ((heq202 (m + 83) (by omega)).trans ((heqL162 (m + 83) ⟨⟨(zx_X16_makeRecord_46), (zx_X16_makeRecord_48 hgn1_1 hgb1)⟩, (zx_X16_makeRecord_47)⟩).trans ((heq144 (m + 83) (by omega)).trans (heqL108 (m + 83) ⟨(zx_X16_makeRecord_46), (zx_X16_makeRecord_47)⟩)))).trans hc102
                    refine zr_get (idx := 237) (k := 11) (v := .ref (m + 83 + 7)) (by decide +kernel) (by decide +kernel) hb141 rfl ?_
                    refine zp_seg (pc' := 245) (lv' := [(6, .int v228), (0, .ref m), (1, .int from9), (2, .int last9), (3, .ref q), (4, .ref (m + 276 + 2 * (g 1).toNatClampNeg)), (5, .ref sz), (7, .int r154), (8, .int y8_162)]) (st' := [.int (25 * y8_162), .ref (m + 83 + 7)]) [(240, .bipush 25), (242, .iload 8), (244, .imul)] (by decide +kernel) rfl ?_
                    have k142 := zmulCl 25 y8_162 (n := 25) (by decide) (by omega) (by omega)
                    generalize ev245 : (25 * y8_162 : Int32) = v245 at k142 ⊢
                    have kv245 := zrng v245
                    refine zp_seg (pc' := 249) (lv' := [(6, .int v228), (0, .ref m), (1, .int from9), (2, .int last9), (3, .ref q), (4, .ref (m + 276 + 2 * (g 1).toNatClampNeg)), (5, .ref sz), (7, .int r154), (8, .int y8_162)]) (st' := [.int y8_162, .ref sz, .int v245, .ref (m + 83 + 7)]) [(245, .aload 5), (247, .iload 8)] (by decide +kernel) rfl ?_
                    refine zr_aald (v := .ref (m + 276 + 2 * (g 1 + 1).toNatClampNeg + 2 * y8_162.toNatClampNeg)) (by decide +kernel) hb124 (by decide) (zin (by first | omega | decide) (by first | omega | decide)) (by rw [hfa _ (by omega)]; rfl) ?_
                    have hzv9 : (v245).toNatClampNeg = 25 * y8_162.toNatClampNeg := by
                      have h9 := znat (x := v245) (by omega)
                      omega
                    have hb143 : w202 (m + 83 + 7) = some (.inr (0, 175, .inl sa)) := (heq202 (m + 83 + 7) (by omega)).trans hAs
                    refine zr_callS (idx := 762) (j := 302) (by decide +kernel) (by decide +kernel) (by decide) (show zMe 302 = some zq_X16_store_ from rfl) rfl rfl (Nat.le_of_ble_eq_true rfl) rfl rfl (Nat.le_of_ble_eq_true rfl) (Nat.le_of_ble_eq_true rfl) (c_X16_store_ (w := w202) (m + 83 + 7) v245 (m + 276 + 2 * (g 1 + 1).toNatClampNeg + 2 * y8_162.toNatClampNeg) hb143 hp202_0 (by first | omega | decide | assumption | exact zr1_1 | exact zr1_0 | fail "num") (by first | omega | decide | assumption | exact zr1_1 | exact zr1_0 | fail "num")) (by omega) (fun v250 w250 hp250 => ?_)
                    obtain ⟨F9_250, hsi250, heq250, hp250_0, hp250_1, rfl⟩ := hp250
                    show zP _ _ _ _ [] _ _ _ _ _
                    refine zp_seg (pc' := 256) (lv' := [(8, .int (y8_162 + 1)), (6, .int v228), (0, .ref m), (1, .int from9), (2, .int last9), (3, .ref q), (4, .ref (m + 276 + 2 * (g 1).toNatClampNeg)), (5, .ref sz), (7, .int r154)]) (st' := []) [(253, .iinc 8 1)] (by decide +kernel) rfl ?_
                    have k144 := zaddC y8_162 1 (n := 1) (by decide) (by omega) (by omega)
                    generalize ev256 : (y8_162 + 1 : Int32) = v256 at k144 ⊢
                    have kv256 := zrng v256
                    refine zp_seg (pc' := 162) (lv' := [(8, .int v256), (6, .int v228), (0, .ref m), (1, .int from9), (2, .int last9), (3, .ref q), (4, .ref (m + 276 + 2 * (g 1).toNatClampNeg)), (5, .ref sz), (7, .int r154)]) (st' := []) [(256, .goto (-94))] (by decide +kernel) rfl ?_
                    have hz145 : (v256.toNatClampNeg : Int) = v256.toInt := znat (by first | omega | decide)
                    have hb146 : w250 m = some (.inl (15, zMo m (zs g 1 xT) r)) := (heq250 m (zx_X16_makeRecord_187)).trans hb140
                    exact (ih162 w250 v228 v256 (F9_250) ((hsiL162.tr hsi202).tr hsi250) (fun x hx => ((heq250 x hx.1.1).trans ((heq202 x (by omega)).trans (heqL162 x ⟨⟨hx.1.1, hx.1.2⟩, hx.2⟩)))) (by first | assumption | omega | decide) (by first | assumption | omega | decide) (by first | assumption | omega | decide) hp250_0 hb146 (by
                          exact fun t h1 h2 => (hQ9 t (by omega) h2).ag (fun x g1 g2 => ((heq250 x (by omega)).trans (heq202 x (by omega))))) (by
                          first
                          | exact hF9
                          | (have hs1 := hp250_1
                             rw [hzv9] at hs1
                             intro i hi
                             by_cases k : 25 * y8_162.toNatClampNeg ≤ i ∧ i < 25 * y8_162.toNatClampNeg + 25
                             · have h9 := (hs1.1 (i - 25 * y8_162.toNatClampNeg) (by omega)).1
                               rwa [show 25 * y8_162.toNatClampNeg + (i - 25 * y8_162.toNatClampNeg) = i by omega] at h9
                             · rw [hs1.2 i (by omega)]; exact hF9 i hi)) (by omega)).more (zfa1 rfl (zfa1 rfl (zfa1 rfl (zfa1 rfl (zfa1 rfl (zfa1 rfl (zfa1 rfl (zfa1 rfl (zfa1 rfl (zfa0))))))))))
                refine zp_if (i := .if_icmp .gt 7) (c := 25 < n125) (t := 224) (e := 220) (lv' := [(0, .ref m), (1, .int from9), (2, .int last9), (3, .ref q), (4, .ref (m + 276 + 2 * (g 1).toNatClampNeg)), (5, .ref sz), (6, .int y6_162), (7, .int r154), (8, .int y8_162)]) (st' := [.int y6_162]) (by decide +kernel) rfl (fun cc217 => ?_) (fun cc217 => ?_)
                ·
                  have f148 := zltI cc217
                  rw [show (25 : Int32).toInt = 25 from by decide] at f148
                  refine zp_seg (pc' := 225) (lv' := [(0, .ref m), (1, .int from9), (2, .int last9), (3, .ref q), (4, .ref (m + 276 + 2 * (g 1).toNatClampNeg)), (5, .ref sz), (6, .int y6_162), (7, .int r154), (8, .int y8_162)]) (st' := [.int 0, .int y6_162]) [(224, .iconst 0)] (by decide +kernel) rfl ?_
                  have hl149 : (0 : Int32).toInt = 0 := by decide
                  exact (hJ225 0 (by first | assumption | omega | decide)).more (zfa1 rfl (zfa1 rfl (zfa1 rfl (zfa1 rfl (zfa1 rfl (zfa1 rfl (zfa1 rfl (zfa1 rfl (zfa0)))))))))
                ·
                  have f151 := znltI cc217
                  rw [show (25 : Int32).toInt = 25 from by decide] at f151
                  refine zp_seg (pc' := 225) (lv' := [(0, .ref m), (1, .int from9), (2, .int last9), (3, .ref q), (4, .ref (m + 276 + 2 * (g 1).toNatClampNeg)), (5, .ref sz), (6, .int y6_162), (7, .int r154), (8, .int y8_162)]) (st' := [.int 1, .int y6_162]) [(220, .iconst 1), (221, .goto 4)] (by decide +kernel) rfl ?_
                  have hl152 : (1 : Int32).toInt = 1 := by decide
                  exact (hJ225 1 (by first | assumption | omega | decide)).more (zfa1 rfl (zfa1 rfl (zfa1 rfl (zfa1 rfl (zfa1 rfl (zfa1 rfl (zfa1 rfl (zfa1 rfl (zfa0)))))))))
              ·
                have f153 := znleI cc171
                refine zp_seg (pc' := 179) (lv' := [(0, .ref m), (1, .int from9), (2, .int last9), (3, .ref q), (4, .ref (m + 276 + 2 * (g 1).toNatClampNeg)), (5, .ref sz), (6, .int y6_162), (7, .int r154), (8, .int y8_162)]) (st' := [.int y8_162, .ref sz, .ref m]) [(174, .aload_n 0), (175, .aload 5), (177, .iload 8)] (by decide +kernel) rfl ?_
                have hb154 : wL162 sz = some (.inr (4, 4, .inr fa)) := (heqL162 sz ⟨⟨(zx_X16_makeRecord_16 hsz9 hsz8), (zx_X16_makeRecord_186 hsz9 hsz8 hgn1_1 hgb1)⟩, (zx_X16_makeRecord_17 hsz9 hsz8)⟩).trans hb37
                refine zr_aald (v := .ref (m + 276 + 2 * (g 1 + 1).toNatClampNeg + 2 * y8_162.toNatClampNeg)) (by decide +kernel) hb154 (by decide) (zin (by first | omega | decide) (by first | omega | decide)) (by rw [hfa _ (by omega)]; rfl) ?_
                refine zp_seg (pc' := 184) (lv' := [(0, .ref m), (1, .int from9), (2, .int last9), (3, .ref q), (4, .ref (m + 276 + 2 * (g 1).toNatClampNeg)), (5, .ref sz), (6, .int y6_162), (7, .int r154), (8, .int y8_162)]) (st' := [.int y8_162, .ref sz, .ref (m + 276 + 2 * (g 1 + 1).toNatClampNeg + 2 * y8_162.toNatClampNeg), .ref m]) [(180, .aload 5), (182, .iload 8)] (by decide +kernel) rfl ?_
                refine zr_aald (v := .ref (m + 276 + 2 * (g 1 + 1).toNatClampNeg + 2 * y8_162.toNatClampNeg)) (by decide +kernel) hb154 (by decide) (zin (by first | omega | decide) (by first | omega | decide)) (by rw [hfa _ (by omega)]; rfl) ?_
                refine zp_seg (pc' := 187) (lv' := [(0, .ref m), (1, .int from9), (2, .int last9), (3, .ref q), (4, .ref (m + 276 + 2 * (g 1).toNatClampNeg)), (5, .ref sz), (6, .int y6_162), (7, .int r154), (8, .int y8_162)]) (st' := [.ref (m + 276 + 2 * (g 1).toNatClampNeg), .ref (m + 276 + 2 * (g 1 + 1).toNatClampNeg + 2 * y8_162.toNatClampNeg), .ref (m + 276 + 2 * (g 1 + 1).toNatClampNeg + 2 * y8_162.toNatClampNeg), .ref m]) [(185, .aload 4)] (by decide +kernel) rfl ?_
                have hb155 := hb35.si (hsi144.tr hsiL162)
                have ho187_to := zU.o hUt9
                have hb156 : zU wL162 (m + 276 + 2 * (g 1).toNatClampNeg) 1000 G9 := hb36.ag (fun x hx1 hx2 => ((heqL162 x ⟨⟨(zx_X16_makeRecord_20 hx1 hx2 hgb1), (zx_X16_makeRecord_22 hx1 hx2 hgn1_1 hgb1)⟩, (zx_X16_makeRecord_21 hx1 hx2 hgb1)⟩).trans (heq144 x (by omega))))
                refine zr_callV (idx := 110) (j := 271) (by decide +kernel) (by decide +kernel) (show zMe 271 = some zq_X16_exact from rfl) rfl rfl (Nat.le_of_ble_eq_true rfl) rfl rfl hmL162 (Nat.le_of_ble_eq_true rfl) (Nat.le_of_ble_eq_true rfl) (c_X16_exact (w := wL162) (g1 := xT) m (m + 276 + 2 * (g 1 + 1).toNatClampNeg + 2 * y8_162.toNatClampNeg) (m + 276 + 2 * (g 1 + 1).toNatClampNeg + 2 * y8_162.toNatClampNeg) (m + 276 + 2 * (g 1).toNatClampNeg) hmL162 hb155 ho187_to hUt9 hb156 (by first | omega | decide | assumption | exact zr1_1 | exact zr1_0 | fail "num") (by first | omega | decide | assumption | exact zr1_1 | exact zr1_0 | fail "num") (by first | omega | decide | assumption | exact zr1_1 | exact zr1_0 | fail "num") (by first | omega | decide | assumption | exact zr1_1 | exact zr1_0 | fail "num") (by first | omega | decide | assumption | exact zr1_1 | exact zr1_0 | fail "num") (by first | omega | decide | assumption | exact zr1_1 | exact zr1_0 | fail "num") (by first | omega | decide | assumption | exact zr1_1 | exact zr1_0 | fail "num") (by first | omega | decide | assumption | exact zr1_1 | exact zr1_0 | fail "num") rfl) (by omega) (fun v187 w187 hp187 => ?_)
                obtain ⟨hsi187, heq187, hp187_0, rfl⟩ := hp187
                show zP _ _ _ _ [] _ _ _ _ _
                refine zp_seg (pc' := 194) (lv' := [(0, .ref m), (1, .int from9), (2, .int last9), (3, .ref q), (4, .ref (m + 276 + 2 * (g 1).toNatClampNeg)), (5, .ref sz), (6, .int y6_162), (7, .int r154), (8, .int y8_162)]) (st' := [.int y8_162, .ref sz]) [(190, .aload 5), (192, .iload 8)] (by decide +kernel) rfl ?_
                have hb157 : w187 sz = some (.inr (4, 4, .inr fa)) := (heq187 sz (by omega)).trans hb154
                refine zr_aald (v := .ref (m + 276 + 2 * (g 1 + 1).toNatClampNeg + 2 * y8_162.toNatClampNeg)) (by decide +kernel) hb157 (by decide) (zin (by first | omega | decide) (by first | omega | decide)) (by rw [hfa _ (by omega)]; rfl) ?_
                refine zp_seg (pc' := 199) (lv' := [(0, .ref m), (1, .int from9), (2, .int last9), (3, .ref q), (4, .ref (m + 276 + 2 * (g 1).toNatClampNeg)), (5, .ref sz), (6, .int y6_162), (7, .int r154), (8, .int y8_162)]) (st' := [.int y8_162, .ref sz, .ref (m + 276 + 2 * (g 1 + 1).toNatClampNeg + 2 * y8_162.toNatClampNeg)]) [(195, .aload 5), (197, .iload 8)] (by decide +kernel) rfl ?_
                refine zr_aald (v := .ref (m + 276 + 2 * (g 1 + 1).toNatClampNeg + 2 * y8_162.toNatClampNeg)) (by decide +kernel) hb157 (by decide) (zin (by first | omega | decide) (by first | omega | decide)) (by rw [hfa _ (by omega)]; rfl) ?_
                refine zp_seg (pc' := 202) (lv' := [(0, .ref m), (1, .int from9), (2, .int last9), (3, .ref q), (4, .ref (m + 276 + 2 * (g 1).toNatClampNeg)), (5, .ref sz), (6, .int y6_162), (7, .int r154), (8, .int y8_162)]) (st' := [.int r154, .ref (m + 276 + 2 * (g 1 + 1).toNatClampNeg + 2 * y8_162.toNatClampNeg), .ref (m + 276 + 2 * (g 1 + 1).toNatClampNeg + 2 * y8_162.toNatClampNeg)]) [(200, .iload 7)] (by decide +kernel) rfl ?_
                have hcs9 := (hp187_0).cap
                have ho202_to := zU.o hp187_0
                refine zr_callS (idx := 70) (j := 266) (by decide +kernel) (by decide +kernel) (by decide) (show zMe 266 = some zq_X16_scale from rfl) rfl rfl (Nat.le_of_ble_eq_true rfl) rfl rfl (Nat.le_of_ble_eq_true rfl) (Nat.le_of_ble_eq_true rfl) (c_X16_scale (w := w187) (m + 276 + 2 * (g 1 + 1).toNatClampNeg + 2 * y8_162.toNatClampNeg) (m + 276 + 2 * (g 1 + 1).toNatClampNeg + 2 * y8_162.toNatClampNeg) r154 ho202_to hp187_0 (by first | exact hr154.1 | omega | decide | assumption | exact zr1_1 | exact zr1_0 | fail "num") (by first | omega | decide | assumption | exact zr1_1 | exact zr1_0 | fail "num")) (by omega) (fun v202 w202 hp202 => ?_)
                obtain ⟨hsi202, heq202, hp202_0, rfl⟩ := hp202
                show zP _ _ _ _ [] _ _ _ _ _
                refine zp_seg (pc' := 211) (lv' := [(0, .ref m), (1, .int from9), (2, .int last9), (3, .ref q), (4, .ref (m + 276 + 2 * (g 1).toNatClampNeg)), (5, .ref sz), (6, .int y6_162), (7, .int r154), (8, .int y8_162)]) (st' := [.int y8_162, .ref sz, .int y6_162]) [(205, .iload 6), (207, .aload 5), (209, .iload 8)] (by decide +kernel) rfl ?_
                have hb158 : w202 sz = some (.inr (4, 4, .inr fa)) := (heq202 sz (by omega)).trans hb157
                refine zr_aald (v := .ref (m + 276 + 2 * (g 1 + 1).toNatClampNeg + 2 * y8_162.toNatClampNeg)) (by decide +kernel) hb158 (by decide) (zin (by first | omega | decide) (by first | omega | decide)) (by rw [hfa _ (by omega)]; rfl) ?_
                obtain ⟨n159, f160, hu161, hu162, hu163, hu164, hu165⟩ := id hp202_0
                have kn159 := zrng n159
                refine zr_get (idx := 25) (k := 1) (v := .int n159) (by decide +kernel) (by decide +kernel) hu161 rfl ?_
                refine zp_seg (pc' := 217) (lv' := [(0, .ref m), (1, .int from9), (2, .int last9), (3, .ref q), (4, .ref (m + 276 + 2 * (g 1).toNatClampNeg)), (5, .ref sz), (6, .int y6_162), (7, .int r154), (8, .int y8_162)]) (st' := [.int 25, .int n159, .int y6_162]) [(215, .bipush 25)] (by decide +kernel) rfl ?_
                have hJ225 : ∀ (z0_225 : Int32), ((z0_225 = 0 ∨ z0_225 = 1)) → zP (d + 1) zq_X16_makeRecord 225 [(0, .ref m), (1, .int from9), (2, .int last9), (3, .ref q), (4, .ref (m + 276 + 2 * (g 1).toNatClampNeg)), (5, .ref sz), (7, .int r154), (8, .int y8_162)] [.int z0_225, .int y6_162] w202 (sz + 1) (1 - 1) (4 - 4) Post := by
                  intro z0_225 hi225_0
                  have kz0_225 := zrng z0_225
                  refine zp_seg (pc' := 228) (lv' := [(6, .int (y6_162 &&& z0_225)), (0, .ref m), (1, .int from9), (2, .int last9), (3, .ref q), (4, .ref (m + 276 + 2 * (g 1).toNatClampNeg)), (5, .ref sz), (7, .int r154), (8, .int y8_162)]) (st' := []) [(225, .iand), (226, .istore 6)] (by decide +kernel) rfl ?_
                  generalize ev228 : (y6_162 &&& z0_225 : Int32) = v228
                  have kv228 := zrng v228
                  have ha9 := zand1 hi162_0 hi225_0 ev228
                  have hb226 := ha9.1
                  refine zp_seg (pc' := 230) (lv' := [(6, .int v228), (0, .ref m), (1, .int from9), (2, .int last9), (3, .ref q), (4, .ref (m + 276 + 2 * (g 1).toNatClampNeg)), (5, .ref sz), (7, .int r154), (8, .int y8_162)]) (st' := [.int v228]) [(228, .iload 6)] (by decide +kernel) rfl ?_
                  refine zp_if (i := .ifCond .eq 23) (c := v228 = 0) (t := 253) (e := 233) (lv' := [(6, .int v228), (0, .ref m), (1, .int from9), (2, .int last9), (3, .ref q), (4, .ref (m + 276 + 2 * (g 1).toNatClampNeg)), (5, .ref sz), (7, .int r154), (8, .int y8_162)]) (st' := []) (by decide +kernel) rfl (fun cc230 => ?_) (fun cc230 => ?_)
                  ·
                    have f167 := zeqI cc230
                    rw [show (0 : Int32).toInt = 0 from by decide] at f167
                    refine zp_seg (pc' := 256) (lv' := [(8, .int (y8_162 + 1)), (6, .int v228), (0, .ref m), (1, .int from9), (2, .int last9), (3, .ref q), (4, .ref (m + 276 + 2 * (g 1).toNatClampNeg)), (5, .ref sz), (7, .int r154)]) (st' := []) [(253, .iinc 8 1)] (by decide +kernel) rfl ?_
                    have k168 := zaddC y8_162 1 (n := 1) (by decide) (by omega) (by omega)
                    generalize ev256 : (y8_162 + 1 : Int32) = v256 at k168 ⊢
                    have kv256 := zrng v256
                    refine zp_seg (pc' := 162) (lv' := [(8, .int v256), (6, .int v228), (0, .ref m), (1, .int from9), (2, .int last9), (3, .ref q), (4, .ref (m + 276 + 2 * (g 1).toNatClampNeg)), (5, .ref sz), (7, .int r154)]) (st' := []) [(256, .goto (-94))] (by decide +kernel) rfl ?_
                    have hz169 : (v256.toNatClampNeg : Int) = v256.toInt := znat (by first | omega | decide)
                    have hb170 : w202 (m + 83 + 7) = some (.inr (0, 175, .inl sa)) := ((heq202 (m + 83 + 7) (by omega)).trans (heq187 (m + 83 + 7) (by omega))).trans hAs
                    have hb171 : w202 m = some (.inl (15, zMo m (zs g 1 xT) r)) := ((heq202 m (by omega)).trans (heq187 m (by omega))).trans hmL162
                    exact (ih162 w202 v228 v256 (sa) ((hsiL162.tr hsi187).tr hsi202) (fun x hx => ((heq202 x (by omega)).trans ((heq187 x (by omega)).trans (heqL162 x ⟨⟨hx.1.1, hx.1.2⟩, hx.2⟩)))) (by first | assumption | omega | decide) (by first | assumption | omega | decide) (by first | assumption | omega | decide) hb170 hb171 (by
                          exact fun t h1 h2 => (hQ9 t (by omega) h2).ag (fun x g1 g2 => ((heq202 x (by omega)).trans (heq187 x (by omega))))) (by
                          first
                          | exact hF9
                          | (have hs1 := hp250_1
                             rw [hzv9] at hs1
                             intro i hi
                             by_cases k : 25 * y8_162.toNatClampNeg ≤ i ∧ i < 25 * y8_162.toNatClampNeg + 25
                             · have h9 := (hs1.1 (i - 25 * y8_162.toNatClampNeg) (by omega)).1
                               rwa [show 25 * y8_162.toNatClampNeg + (i - 25 * y8_162.toNatClampNeg) = i by omega] at h9
                             · rw [hs1.2 i (by omega)]; exact hF9 i hi)) (by omega)).more (zfa1 rfl (zfa1 rfl (zfa1 rfl (zfa1 rfl (zfa1 rfl (zfa1 rfl (zfa1 rfl (zfa1 rfl (zfa1 rfl (zfa0))))))))))
                  ·
                    have f173 := zneI cc230
                    rw [show (0 : Int32).toInt = 0 from by decide] at f173
                    refine zp_seg (pc' := 234) (lv' := [(6, .int v228), (0, .ref m), (1, .int from9), (2, .int last9), (3, .ref q), (4, .ref (m + 276 + 2 * (g 1).toNatClampNeg)), (5, .ref sz), (7, .int r154), (8, .int y8_162)]) (st' := [.ref m]) [(233, .aload_n 0)] (by decide +kernel) rfl ?_
                    have hb174 : w202 m = some (.inl (15, zMo m (zs g 1 xT) r)) := ((heq202 m (by omega)).trans (heq187 m (by omega))).trans hmL162
                    refine zr_get (idx := 453) (k := 21) (v := .ref (m + 83)) (by decide +kernel) (by decide +kernel) hb174 rfl ?_
                    have hb175 : w202 (m + 83) = some (.inl (13, zTo (m + 83) (zs (zs (zs (zs (zs g1 0 3) 3 1) 4 1) 5 0) 10 last9))) := ((heq202 (m + 83) (by omega)).trans ((heq187 (m + 83) (by omega)).trans ((heqL162 (m + 83) ⟨⟨(zx_X16_makeRecord_46), (zx_X16_makeRecord_48 hgn1_1 hgb1)⟩, (zx_X16_makeRecord_47)⟩).trans ((heq144 (m + 83) (by omega)).trans (heqL108 (m + 83) ⟨(zx_X16_makeRecord_46), (zx_X16_makeRecord_47)⟩))))).trans hc102
                    refine zr_get (idx := 237) (k := 11) (v := .ref (m + 83 + 7)) (by decide +kernel) (by decide +kernel) hb175 rfl ?_
                    refine zp_seg (pc' := 245) (lv' := [(6, .int v228), (0, .ref m), (1, .int from9), (2, .int last9), (3, .ref q), (4, .ref (m + 276 + 2 * (g 1).toNatClampNeg)), (5, .ref sz), (7, .int r154), (8, .int y8_162)]) (st' := [.int (25 * y8_162), .ref (m + 83 + 7)]) [(240, .bipush 25), (242, .iload 8), (244, .imul)] (by decide +kernel) rfl ?_
                    have k176 := zmulCl 25 y8_162 (n := 25) (by decide) (by omega) (by omega)
                    generalize ev245 : (25 * y8_162 : Int32) = v245 at k176 ⊢
                    have kv245 := zrng v245
                    refine zp_seg (pc' := 249) (lv' := [(6, .int v228), (0, .ref m), (1, .int from9), (2, .int last9), (3, .ref q), (4, .ref (m + 276 + 2 * (g 1).toNatClampNeg)), (5, .ref sz), (7, .int r154), (8, .int y8_162)]) (st' := [.int y8_162, .ref sz, .int v245, .ref (m + 83 + 7)]) [(245, .aload 5), (247, .iload 8)] (by decide +kernel) rfl ?_
                    refine zr_aald (v := .ref (m + 276 + 2 * (g 1 + 1).toNatClampNeg + 2 * y8_162.toNatClampNeg)) (by decide +kernel) hb158 (by decide) (zin (by first | omega | decide) (by first | omega | decide)) (by rw [hfa _ (by omega)]; rfl) ?_
                    have hzv9 : (v245).toNatClampNeg = 25 * y8_162.toNatClampNeg := by
                      have h9 := znat (x := v245) (by omega)
                      omega
                    have hb177 : w202 (m + 83 + 7) = some (.inr (0, 175, .inl sa)) := ((heq202 (m + 83 + 7) (by omega)).trans (heq187 (m + 83 + 7) (by omega))).trans hAs
                    refine zr_callS (idx := 762) (j := 302) (by decide +kernel) (by decide +kernel) (by decide) (show zMe 302 = some zq_X16_store_ from rfl) rfl rfl (Nat.le_of_ble_eq_true rfl) rfl rfl (Nat.le_of_ble_eq_true rfl) (Nat.le_of_ble_eq_true rfl) (c_X16_store_ (w := w202) (m + 83 + 7) v245 (m + 276 + 2 * (g 1 + 1).toNatClampNeg + 2 * y8_162.toNatClampNeg) hb177 hp202_0 (by first | omega | decide | assumption | exact zr1_1 | exact zr1_0 | fail "num") (by first | omega | decide | assumption | exact zr1_1 | exact zr1_0 | fail "num")) (by omega) (fun v250 w250 hp250 => ?_)
                    obtain ⟨F9_250, hsi250, heq250, hp250_0, hp250_1, rfl⟩ := hp250
                    show zP _ _ _ _ [] _ _ _ _ _
                    refine zp_seg (pc' := 256) (lv' := [(8, .int (y8_162 + 1)), (6, .int v228), (0, .ref m), (1, .int from9), (2, .int last9), (3, .ref q), (4, .ref (m + 276 + 2 * (g 1).toNatClampNeg)), (5, .ref sz), (7, .int r154)]) (st' := []) [(253, .iinc 8 1)] (by decide +kernel) rfl ?_
                    have k178 := zaddC y8_162 1 (n := 1) (by decide) (by omega) (by omega)
                    generalize ev256 : (y8_162 + 1 : Int32) = v256 at k178 ⊢
                    have kv256 := zrng v256
                    refine zp_seg (pc' := 162) (lv' := [(8, .int v256), (6, .int v228), (0, .ref m), (1, .int from9), (2, .int last9), (3, .ref q), (4, .ref (m + 276 + 2 * (g 1).toNatClampNeg)), (5, .ref sz), (7, .int r154)]) (st' := []) [(256, .goto (-94))] (by decide +kernel) rfl ?_
                    have hz179 : (v256.toNatClampNeg : Int) = v256.toInt := znat (by first | omega | decide)
                    have hb180 : w250 m = some (.inl (15, zMo m (zs g 1 xT) r)) := (heq250 m (zx_X16_makeRecord_187)).trans hb174
                    exact (ih162 w250 v228 v256 (F9_250) (((hsiL162.tr hsi187).tr hsi202).tr hsi250) (fun x hx => ((heq250 x hx.1.1).trans ((heq202 x (by omega)).trans ((heq187 x (by omega)).trans (heqL162 x ⟨⟨hx.1.1, hx.1.2⟩, hx.2⟩))))) (by first | assumption | omega | decide) (by first | assumption | omega | decide) (by first | assumption | omega | decide) hp250_0 hb180 (by
                          exact fun t h1 h2 => (hQ9 t (by omega) h2).ag (fun x g1 g2 => ((heq250 x (by omega)).trans ((heq202 x (by omega)).trans (heq187 x (by omega)))))) (by
                          first
                          | exact hF9
                          | (have hs1 := hp250_1
                             rw [hzv9] at hs1
                             intro i hi
                             by_cases k : 25 * y8_162.toNatClampNeg ≤ i ∧ i < 25 * y8_162.toNatClampNeg + 25
                             · have h9 := (hs1.1 (i - 25 * y8_162.toNatClampNeg) (by omega)).1
                               rwa [show 25 * y8_162.toNatClampNeg + (i - 25 * y8_162.toNatClampNeg) = i by omega] at h9
                             · rw [hs1.2 i (by omega)]; exact hF9 i hi)) (by omega)).more (zfa1 rfl (zfa1 rfl (zfa1 rfl (zfa1 rfl (zfa1 rfl (zfa1 rfl (zfa1 rfl (zfa1 rfl (zfa1 rfl (zfa0))))))))))
                refine zp_if (i := .if_icmp .gt 7) (c := 25 < n159) (t := 224) (e := 220) (lv' := [(0, .ref m), (1, .int from9), (2, .int last9), (3, .ref q), (4, .ref (m + 276 + 2 * (g 1).toNatClampNeg)), (5, .ref sz), (6, .int y6_162), (7, .int r154), (8, .int y8_162)]) (st' := [.int y6_162]) (by decide +kernel) rfl (fun cc217 => ?_) (fun cc217 => ?_)
                ·
                  have f182 := zltI cc217
                  rw [show (25 : Int32).toInt = 25 from by decide] at f182
                  refine zp_seg (pc' := 225) (lv' := [(0, .ref m), (1, .int from9), (2, .int last9), (3, .ref q), (4, .ref (m + 276 + 2 * (g 1).toNatClampNeg)), (5, .ref sz), (6, .int y6_162), (7, .int r154), (8, .int y8_162)]) (st' := [.int 0, .int y6_162]) [(224, .iconst 0)] (by decide +kernel) rfl ?_
                  have hl183 : (0 : Int32).toInt = 0 := by decide
                  exact (hJ225 0 (by first | assumption | omega | decide)).more (zfa1 rfl (zfa1 rfl (zfa1 rfl (zfa1 rfl (zfa1 rfl (zfa1 rfl (zfa1 rfl (zfa1 rfl (zfa0)))))))))
                ·
                  have f185 := znltI cc217
                  rw [show (25 : Int32).toInt = 25 from by decide] at f185
                  refine zp_seg (pc' := 225) (lv' := [(0, .ref m), (1, .int from9), (2, .int last9), (3, .ref q), (4, .ref (m + 276 + 2 * (g 1).toNatClampNeg)), (5, .ref sz), (6, .int y6_162), (7, .int r154), (8, .int y8_162)]) (st' := [.int 1, .int y6_162]) [(220, .iconst 1), (221, .goto 4)] (by decide +kernel) rfl ?_
                  have hl186 : (1 : Int32).toInt = 1 := by decide
                  exact (hJ225 1 (by first | assumption | omega | decide)).more (zfa1 rfl (zfa1 rfl (zfa1 rfl (zfa1 rfl (zfa1 rfl (zfa1 rfl (zfa1 rfl (zfa1 rfl (zfa0)))))))))
          have hl187 : (1 : Int32).toInt = 1 := by decide
          have hl188 : (0 : Int32).toInt = 0 := by decide
          have hz189 : ((0 : Int32).toNatClampNeg : Int) = 0 := by decide
          have hb190 : w144 (m + 83 + 7) = some (.inr (0, 175, .inl za)) := (heq144 (m + 83 + 7) (by omega)).trans hAz
          exact (hL162 _ w144 1 0 (za) zSI.rf (fun _ _ => rfl) (by first | assumption | omega | decide) (by first | assumption | omega | decide) (by first | assumption | omega | decide) hb190 hb45 (by
                intro t _ ht
                by_cases e : t = last9.toNatClampNeg
                · rw [if_pos e, e]; exact hp144_0
                · rw [if_neg e]; exact (hPa t (by omega)).ag (fun x g1 g2 => ((heq144 x (by omega)).trans ((heqL108 x (by omega)).trans ((heq102 x (by omega)).trans ((heq94 x (by omega)).trans (heq86 x (by omega)))))))) (by
                exact hz9) (Nat.lt_succ_self _)).more (zfa1 rfl (zfa1 rfl (zfa1 rfl (zfa1 rfl (zfa1 rfl (zfa1 rfl (zfa1 rfl (zfa1 rfl (zfa1 rfl (zfa0))))))))))
        ·
          have f192 := znleI cc113
          rw [show (175 : Int32).toInt = 175 from by decide] at f192
          refine zp_seg (pc' := 117) (lv' := [(0, .ref m), (1, .int from9), (2, .int last9), (3, .ref q), (4, .ref (m + 276 + 2 * (g 1).toNatClampNeg)), (5, .ref sz), (6, .int 1), (7, .int y7_108)]) (st' := [.ref m]) [(116, .aload_n 0)] (by decide +kernel) rfl ?_
          refine zr_get (idx := 453) (k := 21) (v := .ref (m + 83)) (by decide +kernel) (by decide +kernel) hmL108 rfl ?_
          have hb193 : wL108 (m + 83) = some (.inl (13, zTo (m + 83) (zs (zs (zs (zs (zs g1 0 3) 3 1) 4 1) 5 0) 10 last9))) := (heqL108 (m + 83) ⟨(zx_X16_makeRecord_46), (zx_X16_makeRecord_47)⟩).trans hc102
          refine zr_get (idx := 237) (k := 11) (v := .ref (m + 83 + 7)) (by decide +kernel) (by decide +kernel) hb193 rfl ?_
          refine zp_seg (pc' := 126) (lv' := [(0, .ref m), (1, .int from9), (2, .int last9), (3, .ref q), (4, .ref (m + 276 + 2 * (g 1).toNatClampNeg)), (5, .ref sz), (6, .int 1), (7, .int y7_108)]) (st' := [.int 0, .int y7_108, .ref (m + 83 + 7)]) [(123, .iload 7), (125, .iconst 0)] (by decide +kernel) rfl ?_
          refine zr_iast (by decide +kernel) hAz (zin (by first | omega | decide) (by first | omega | decide)) ?_
          show zP (d + 1) zq_X16_makeRecord 127 [(0, .ref m), (1, .int from9), (2, .int last9), (3, .ref q), (4, .ref (m + 276 + 2 * (g 1).toNatClampNeg)), (5, .ref sz), (6, .int 1), (7, .int y7_108)] [] (zup wL108 (m + 83 + 7) (.inr (0, 175, .inl (upd za (y7_108.toNatClampNeg) 0)))) (sz + 1) (1 - 1) (4 - 4) Post
          obtain ⟨w126, ew126⟩ : ∃ wz9, wz9 = zup wL108 (m + 83 + 7) (.inr (0, 175, .inl (upd za (y7_108.toNatClampNeg) 0))) := ⟨_, rfl⟩
          have hsi126 : zSI wL108 w126 := by rw [ew126]; exact zSI.arr _ hAz
          have heq126 : ∀ x, x ≠ m + 83 + 7 → w126 x = wL108 x := fun x hx => by rw [ew126]; exact zup_n hx
          have hc126 : w126 (m + 83 + 7) = some (.inr (0, 175, .inl (upd za (y7_108.toNatClampNeg) 0))) := by rw [ew126]; exact zup_s
          rw [← ew126]
          clear ew126
          refine zp_seg (pc' := 130) (lv' := [(7, .int (y7_108 + 1)), (0, .ref m), (1, .int from9), (2, .int last9), (3, .ref q), (4, .ref (m + 276 + 2 * (g 1).toNatClampNeg)), (5, .ref sz), (6, .int 1)]) (st' := []) [(127, .iinc 7 1)] (by decide +kernel) rfl ?_
          have k194 := zaddC y7_108 1 (n := 1) (by decide) (by omega) (by omega)
          generalize ev130 : (y7_108 + 1 : Int32) = v130 at k194 ⊢
          have kv130 := zrng v130
          refine zp_seg (pc' := 108) (lv' := [(7, .int v130), (0, .ref m), (1, .int from9), (2, .int last9), (3, .ref q), (4, .ref (m + 276 + 2 * (g 1).toNatClampNeg)), (5, .ref sz), (6, .int 1)]) (st' := []) [(130, .goto (-22))] (by decide +kernel) rfl ?_
          have hz195 : (v130.toNatClampNeg : Int) = v130.toInt := znat (by first | omega | decide)
          have hb196 : w126 m = some (.inl (15, zMo m (zs g 1 xT) r)) := (heq126 m (zx_X16_makeRecord_189)).trans hmL108
          exact (ih108 w126 v130 ((upd za (y7_108.toNatClampNeg) 0)) (hsiL108.tr hsi126) (fun x hx => ((heq126 x (zx_X16_makeRecord_188 hx.1)).trans (heqL108 x ⟨hx.1, hx.2⟩))) (by first | assumption | omega | decide) (by first | assumption | omega | decide) hc126 hb196 (by
                exact zall_up hz9 zr1_0) (by omega)).more (zfa1 rfl (zfa1 rfl (zfa1 rfl (zfa1 rfl (zfa1 rfl (zfa1 rfl (zfa1 rfl (zfa1 rfl (zfa0)))))))))
      have hl197 : (0 : Int32).toInt = 0 := by decide
      have hz198 : ((0 : Int32).toNatClampNeg : Int) = 0 := by decide
      have hb199 : w102 (m + 83 + 7) = some (.inr (0, 175, .inl fr1)) := ((heq102 (m + 83 + 7) (zx_X16_makeRecord_191)).trans ((heq94 (m + 83 + 7) (zx_X16_makeRecord_191)).trans (heq86 (m + 83 + 7) (zx_X16_makeRecord_190)))).trans hAr1
      exact (hL108 _ w102 0 (fr1) zSI.rf (fun _ _ => rfl) (by first | assumption | omega | decide) (by first | assumption | omega | decide) hb199 hb28 (by
            exact hKr1) (Nat.lt_succ_self _)).more (zfa1 rfl (zfa1 rfl (zfa1 rfl (zfa1 rfl (zfa1 rfl (zfa1 rfl (zfa1 rfl (zfa1 rfl (zfa0)))))))))
    ·
      have f200 := znltI cc24
      refine zp_seg (pc' := 31) (lv' := [(0, .ref m), (1, .int from9), (2, .int last9), (3, .ref q), (4, .ref (m + 276 + 2 * (g 1).toNatClampNeg)), (5, .ref sz), (6, .int y6_21)]) (st' := [.int y6_21, .ref sz]) [(27, .aload 5), (29, .iload 6)] (by decide +kernel) rfl ?_
      refine zp_seg (pc' := 32) (lv' := [(0, .ref m), (1, .int from9), (2, .int last9), (3, .ref q), (4, .ref (m + 276 + 2 * (g 1).toNatClampNeg)), (5, .ref sz), (6, .int y6_21)]) (st' := [.ref m, .int y6_21, .ref sz]) [(31, .aload_n 0)] (by decide +kernel) rfl ?_
      have k201 := zrng xT
      have hz202 : (xT.toNatClampNeg : Int) = xT.toInt := znat (by first | omega | decide)
      have hb203 := hR_m.si (((hsi1.tr hsi7).tr hsi15).tr hsiL21)
      refine zr_callV (idx := 74) (j := 263) (by decide +kernel) (by decide +kernel) (show zMe 263 = some zq_X16_newU from rfl) rfl rfl (Nat.le_of_ble_eq_true rfl) rfl rfl hxM (Nat.le_of_ble_eq_true rfl) (Nat.le_of_ble_eq_true rfl) (c_X16_newU (w := wL21) (g1 := xT) m hxM hb203 (by first | omega | decide | assumption | exact zr1_1 | exact zr1_0 | fail "num") rfl) (by omega) (fun v32 w32 hp32 => ?_)
      obtain ⟨hsi32, heq32, hp32_0, hp32_1, rfl⟩ := hp32
      have hM32 : w32 m = some (.inl (15, zMo m (zs g 1 (xT + 1)) r)) := hp32_0
      show zP _ _ _ _ [.ref (m + 276 + 2 * xT.toNatClampNeg), .int y6_21, .ref sz] _ _ _ _ _
      have hb204 : w32 sz = some (.inr (4, 4, .inr fa)) := (heq32 sz (by omega)).trans hV9
      obtain ⟨n205, f206, hu207, hu208, hu209, hu210, hu211⟩ := id hp32_1
      have kn205 := zrng n205
      refine zr_aast (by decide +kernel) hb204 hu207 (by decide) (zin (by first | omega | decide) (by first | omega | decide)) ?_
      show zP (d + 1) zq_X16_makeRecord 36 [(0, .ref m), (1, .int from9), (2, .int last9), (3, .ref q), (4, .ref (m + 276 + 2 * (g 1).toNatClampNeg)), (5, .ref sz), (6, .int y6_21)] [] (zup w32 sz (.inr (4, 4, .inr (va_up fa (y6_21.toNatClampNeg) (some (m + 276 + 2 * xT.toNatClampNeg)))))) (sz + 1) (1 - 1) (4 - 4) Post
      obtain ⟨w35, ew35⟩ : ∃ wz9, wz9 = zup w32 sz (.inr (4, 4, .inr (va_up fa (y6_21.toNatClampNeg) (some (m + 276 + 2 * xT.toNatClampNeg))))) := ⟨_, rfl⟩
      have hsi35 : zSI w32 w35 := by rw [ew35]; exact zSI.refs _ hb204 (by decide)
      have heq35 : ∀ x, x ≠ sz → w35 x = w32 x := fun x hx => by rw [ew35]; exact zup_n hx
      have hc35 : w35 sz = some (.inr (4, 4, .inr (va_up fa (y6_21.toNatClampNeg) (some (m + 276 + 2 * xT.toNatClampNeg))))) := by rw [ew35]; exact zup_s
      rw [← ew35]
      clear ew35
      refine zp_seg (pc' := 40) (lv' := [(0, .ref m), (1, .int from9), (2, .int last9), (3, .ref q), (4, .ref (m + 276 + 2 * (g 1).toNatClampNeg)), (5, .ref sz), (6, .int y6_21)]) (st' := [.int y6_21, .ref sz]) [(36, .aload 5), (38, .iload 6)] (by decide +kernel) rfl ?_
      refine zr_aald (v := .ref (m + 276 + 2 * xT.toNatClampNeg)) (by decide +kernel) hc35 (by decide) (zin (by first | omega | decide) (by first | omega | decide)) (by rw [va_up_self]; rfl) ?_
      refine zp_seg (pc' := 42) (lv' := [(0, .ref m), (1, .int from9), (2, .int last9), (3, .ref q), (4, .ref (m + 276 + 2 * (g 1).toNatClampNeg)), (5, .ref sz), (6, .int y6_21)]) (st' := [.ref m, .ref (m + 276 + 2 * xT.toNatClampNeg)]) [(41, .aload_n 0)] (by decide +kernel) rfl ?_
      have hb212 : w35 m = some (.inl (15, zMo m (zs g 1 (xT + 1)) r)) := (heq35 m (zx_X16_makeRecord_3 hsz9 hsz8)).trans hM32
      refine zr_get (idx := 490) (k := 45) (v := .ref (m + 176)) (by decide +kernel) (by decide +kernel) hb212 rfl ?_
      refine zp_seg (pc' := 49) (lv' := [(0, .ref m), (1, .int from9), (2, .int last9), (3, .ref q), (4, .ref (m + 276 + 2 * (g 1).toNatClampNeg)), (5, .ref sz), (6, .int y6_21)]) (st' := [.int (from9 + y6_21), .ref (m + 176), .ref (m + 276 + 2 * xT.toNatClampNeg)]) [(45, .iload_n 1), (46, .iload 6), (48, .iadd)] (by decide +kernel) rfl ?_
      have k213 := zadd from9 y6_21 (by omega) (by omega)
      generalize ev49 : (from9 + y6_21 : Int32) = v49 at k213 ⊢
      have kv49 := zrng v49
      have hz214 : (v49.toNatClampNeg : Int) = v49.toInt := znat (by first | omega | decide)
      have hsx9 : v49.toNatClampNeg = from9.toNatClampNeg + y6_21.toNatClampNeg := by omega
      have hb215 : w35 (m + 176) = some (.inr (4, 14, .inr fw)) := ((heq35 (m + 176) (zx_X16_makeRecord_166 hsz9 hsz8)).trans ((heq32 (m + 176) (by omega)).trans ((heqL21 (m + 176) ⟨⟨(zx_X16_makeRecord_164), (zx_X16_makeRecord_168 hsz9 hsz8), (zx_X16_makeRecord_169 hgb1)⟩, (zx_X16_makeRecord_170)⟩).trans ((heq15 (m + 176) (zx_X16_makeRecord_167 hgb1)).trans ((heq7 (m + 176) (zx_X16_makeRecord_166 hsz9 hsz8)).trans (heq1 (m + 176) ⟨(zx_X16_makeRecord_164), (zx_X16_makeRecord_165 hgb1)⟩)))))).trans hV_m_176
      refine zr_aald (v := .ref (SA + 2 * (from9.toNatClampNeg + y6_21.toNatClampNeg))) (by decide +kernel) hb215 (by decide) (zin (by first | omega | decide) (by first | omega | decide)) (by rw [hsx9, (hsm _ (by omega)).1]; rfl) ?_
      refine zp_seg (pc' := 51) (lv' := [(0, .ref m), (1, .int from9), (2, .int last9), (3, .ref q), (4, .ref (m + 276 + 2 * (g 1).toNatClampNeg)), (5, .ref sz), (6, .int y6_21)]) (st' := [.ref m, .ref (SA + 2 * (from9.toNatClampNeg + y6_21.toNatClampNeg)), .ref (m + 276 + 2 * xT.toNatClampNeg)]) [(50, .aload_n 0)] (by decide +kernel) rfl ?_
      refine zr_get (idx := 502) (k := 50) (v := .ref (m + 180)) (by decide +kernel) (by decide +kernel) hb212 rfl ?_
      refine zp_seg (pc' := 56) (lv' := [(0, .ref m), (1, .int from9), (2, .int last9), (3, .ref q), (4, .ref (m + 276 + 2 * (g 1).toNatClampNeg)), (5, .ref sz), (6, .int y6_21)]) (st' := [.int y6_21, .ref (m + 180), .ref (SA + 2 * (from9.toNatClampNeg + y6_21.toNatClampNeg)), .ref (m + 276 + 2 * xT.toNatClampNeg)]) [(54, .iload 6)] (by decide +kernel) rfl ?_
      have hb216 : w35 (m + 180) = some (.inr (4, 4, .inr fd)) := ((heq35 (m + 180) (zx_X16_makeRecord_195 hsz9 hsz8)).trans ((heq32 (m + 180) (by omega)).trans ((heqL21 (m + 180) ⟨⟨(zx_X16_makeRecord_193), (zx_X16_makeRecord_197 hsz9 hsz8), (zx_X16_makeRecord_198 hgb1)⟩, (zx_X16_makeRecord_199)⟩).trans ((heq15 (m + 180) (zx_X16_makeRecord_196 hgb1)).trans ((heq7 (m + 180) (zx_X16_makeRecord_195 hsz9 hsz8)).trans (heq1 (m + 180) ⟨(zx_X16_makeRecord_193), (zx_X16_makeRecord_194 hgb1)⟩)))))).trans hV_m_180
      refine zr_aald (v := .ref (DA + 2 * y6_21.toNatClampNeg)) (by decide +kernel) hb216 (by decide) (zin (by first | omega | decide) (by first | omega | decide)) (by rw [(hdn _ (by omega)).1]; rfl) ?_
      have hsm9 := hsm (from9.toNatClampNeg + y6_21.toNatClampNeg) (by omega)
      have hsU9 := hsm9.2.1.ag (w' := w35) (fun x g1 g2 => ((heq35 x (by omega)).trans ((heq32 x (by omega)).trans ((heqL21 x (by omega)).trans ((heq15 x (by omega)).trans ((heq7 x (by omega)).trans (heq1 x (by omega))))))))
      have hdn9 := hdn y6_21.toNatClampNeg (by omega)
      have hdU9 := hdn9.2.1.ag (w' := w35) (fun x g1 g2 => ((heq35 x (by omega)).trans ((heq32 x (by omega)).trans ((heqL21 x (by omega)).trans ((heq15 x (by omega)).trans ((heq7 x (by omega)).trans (heq1 x (by omega))))))))
      have hpl9 := zln_Mle (Pg (from9.toNatClampNeg + y6_21.toNatClampNeg)) (Dn y6_21.toNatClampNeg)
      have hb217 : zU w35 (m + 276 + 2 * xT.toNatClampNeg) 1000 zaZ := hp32_1.ag (fun x hx1 hx2 => (heq35 x (by omega)))
      have ho57_to := zU.o hb217
      refine zr_callS (idx := 106) (j := 267) (by decide +kernel) (by decide +kernel) (by decide) (show zMe 267 = some zq_X16_times from rfl) rfl rfl (Nat.le_of_ble_eq_true rfl) rfl rfl (Nat.le_of_ble_eq_true rfl) (Nat.le_of_ble_eq_true rfl) (c_X16_times (w := w35) (m + 276 + 2 * xT.toNatClampNeg) (SA + 2 * (from9.toNatClampNeg + y6_21.toNatClampNeg)) (DA + 2 * y6_21.toNatClampNeg) ho57_to hsU9 hdU9 (by first | omega | decide | assumption | exact zr1_1 | exact zr1_0 | fail "num") (by first | omega | decide | assumption | exact zr1_1 | exact zr1_0 | fail "num") (by first | omega | decide | assumption | exact zr1_1 | exact zr1_0 | fail "num") (by first | omega | decide | assumption | exact zr1_1 | exact zr1_0 | fail "num")) (by omega) (fun v57 w57 hp57 => ?_)
      obtain ⟨hsi57, heq57, hp57_0, rfl⟩ := hp57
      show zP _ _ _ _ [] _ _ _ _ _
      refine zp_seg (pc' := 69) (lv' := [(0, .ref m), (1, .int from9), (2, .int last9), (3, .ref q), (4, .ref (m + 276 + 2 * (g 1).toNatClampNeg)), (5, .ref sz), (6, .int y6_21)]) (st' := [.int y6_21, .ref sz, .ref (m + 276 + 2 * (g 1).toNatClampNeg), .ref (m + 276 + 2 * (g 1).toNatClampNeg), .ref m]) [(60, .aload_n 0), (61, .aload 4), (63, .aload 4), (65, .aload 5), (67, .iload 6)] (by decide +kernel) rfl ?_
      have hb218 : w57 sz = some (.inr (4, 4, .inr (va_up fa (y6_21.toNatClampNeg) (some (m + 276 + 2 * xT.toNatClampNeg))))) := (heq57 sz (by omega)).trans hc35
      refine zr_aald (v := .ref (m + 276 + 2 * xT.toNatClampNeg)) (by decide +kernel) hb218 (by decide) (zin (by first | omega | decide) (by first | omega | decide)) (by rw [va_up_self]; rfl) ?_
      have hgl9 := zgcd_le (p := G9) (q := zaM (Pg (from9.toNatClampNeg + y6_21.toNatClampNeg)) (Dn y6_21.toNatClampNeg))
      have hb219 : w57 m = some (.inl (15, zMo m (zs g 1 (xT + 1)) r)) := (heq57 m (by omega)).trans hb212
      have k220 := zaddC xT 1 (n := 1) (by decide) (by omega) (by omega)
      have hz221 : ((xT + 1).toNatClampNeg : Int) = (xT + 1).toInt := znat (by first | omega | decide)
      have hb222 := hb203.si ((hsi32.tr hsi35).tr hsi57)
      have hb223 : zU w57 (m + 276 + 2 * (g 1).toNatClampNeg) 1000 G9 := hUG.ag (fun x hx1 hx2 => ((heq57 x (by omega)).trans ((heq35 x (zx_X16_makeRecord_200 hx1 hx2 hsz9 hsz8 hgb1)).trans (heq32 x (by omega)))))
      have ho70_to := zU.o hb223
      refine zr_callV (idx := 125) (j := 270) (by decide +kernel) (by decide +kernel) (show zMe 270 = some zq_X16_gcd from rfl) rfl rfl (Nat.le_of_ble_eq_true rfl) rfl rfl hb219 (Nat.le_of_ble_eq_true rfl) (Nat.le_of_ble_eq_true rfl) (c_X16_gcd (w := w57) (g1 := (xT + 1)) m (m + 276 + 2 * (g 1).toNatClampNeg) (m + 276 + 2 * (g 1).toNatClampNeg) (m + 276 + 2 * xT.toNatClampNeg) hb219 hb222 ho70_to hb223 hp57_0 (by first | omega | decide | assumption | exact zr1_1 | exact zr1_0 | fail "num") (by first | omega | decide | assumption | exact zr1_1 | exact zr1_0 | fail "num") (by first | omega | decide | assumption | exact zr1_1 | exact zr1_0 | fail "num") (by first | omega | decide | assumption | exact zr1_1 | exact zr1_0 | fail "num") (by first | omega | decide | assumption | exact zr1_1 | exact zr1_0 | fail "num") (by first | omega | decide | assumption | exact zr1_1 | exact zr1_0 | fail "num") (by first | omega | decide | assumption | exact zr1_1 | exact zr1_0 | fail "num") rfl) (by omega) (fun v70 w70 hp70 => ?_)
      obtain ⟨hsi70, heq70, hp70_0, rfl⟩ := hp70
      show zP _ _ _ _ [] _ _ _ _ _
      refine zp_seg (pc' := 76) (lv' := [(6, .int (y6_21 + 1)), (0, .ref m), (1, .int from9), (2, .int last9), (3, .ref q), (4, .ref (m + 276 + 2 * (g 1).toNatClampNeg)), (5, .ref sz)]) (st' := []) [(73, .iinc 6 1)] (by decide +kernel) rfl ?_
      have k224 := zaddC y6_21 1 (n := 1) (by decide) (by omega) (by omega)
      generalize ev76 : (y6_21 + 1 : Int32) = v76 at k224 ⊢
      have kv76 := zrng v76
      refine zp_seg (pc' := 21) (lv' := [(6, .int v76), (0, .ref m), (1, .int from9), (2, .int last9), (3, .ref q), (4, .ref (m + 276 + 2 * (g 1).toNatClampNeg)), (5, .ref sz)]) (st' := []) [(76, .goto (-55))] (by decide +kernel) rfl ?_
      have hz225 : (v76.toNatClampNeg : Int) = v76.toInt := znat (by first | omega | decide)
      have hb226 : w70 m = some (.inl (15, zMo m (zs g 1 (xT + 1)) r)) := (heq70 m (by omega)).trans hb219
      have hb227 : w70 sz = some (.inr (4, 4, .inr (va_up fa (y6_21.toNatClampNeg) (some (m + 276 + 2 * xT.toNatClampNeg))))) := (heq70 sz (by omega)).trans hb218
      have hb228 : zU w70 (m + 276 + 2 * xT.toNatClampNeg) 1000 (zaM (Pg (from9.toNatClampNeg + y6_21.toNatClampNeg)) (Dn y6_21.toNatClampNeg)) := hp57_0.ag (fun x hx1 hx2 => (heq70 x (by omega)))
      exact (ih21 w70 v76 (((xT + 1))) ((va_up fa (y6_21.toNatClampNeg) (some (m + 276 + 2 * xT.toNatClampNeg)))) ((zgcd G9 (zaM (Pg (from9.toNatClampNeg + y6_21.toNatClampNeg)) (Dn y6_21.toNatClampNeg)))) ((((hsiL21.tr hsi32).tr hsi35).tr hsi57).tr hsi70) (fun x hx => ((heq70 x (by omega)).trans ((heq57 x (by omega)).trans ((heq35 x (zx_X16_makeRecord_201 hx.1.2.1 hsz9 hsz8)).trans ((heq32 x (by omega)).trans (heqL21 x ⟨⟨hx.1.1, hx.1.2.1, hx.1.2.2⟩, hx.2⟩)))))) (by first | assumption | omega | decide) (by first | assumption | omega | decide) (by
            exact hb226) hb227 hp70_0 (by
            have z9 := zaddC xT 1 (n := 1) (by decide) (by omega) (by omega)
            omega) (by
            intro t ht
            have hzT := znat (x := xT) (by omega)
            by_cases e : t = y6_21.toNatClampNeg
            · rw [e, va_up_self, show m + 276 + 2 * xT.toNatClampNeg = m + 276 + 2 * (g 1 + 1).toNatClampNeg + 2 * y6_21.toNatClampNeg by omega]
            · rw [va_up_ne _ _ e]; exact hfa t (by omega)) (by
            intro t ht
            have hzT := znat (x := xT) (by omega)
            by_cases e : t = y6_21.toNatClampNeg
            · rw [e, ← show m + 276 + 2 * xT.toNatClampNeg = m + 276 + 2 * (g 1 + 1).toNatClampNeg + 2 * y6_21.toNatClampNeg by omega]; exact hb228
            · exact (hPa t (by omega)).ag (fun x g1 g2 => ((heq70 x (by omega)).trans ((heq57 x (by omega)).trans ((heq35 x (by omega)).trans (heq32 x (by omega))))))) (by
            refine ⟨by omega, fun h9 => ?_⟩
            have h8 : last9.toNatClampNeg = y6_21.toNatClampNeg := by omega
            rw [h8] at hsl ⊢
            have h7 := zln_M (p := Pg (from9.toNatClampNeg + y6_21.toNatClampNeg)) (q := Dn y6_21.toNatClampNeg) hsl hdn9.2.2.1
            exact zgcd_le2 (p := G9) (q := zaM (Pg (from9.toNatClampNeg + y6_21.toNatClampNeg)) (Dn y6_21.toNatClampNeg)) (by omega)) (by omega)).more (zfa1 rfl (zfa1 rfl (zfa1 rfl (zfa1 rfl (zfa1 rfl (zfa1 rfl (zfa1 rfl (zfa0))))))))
  have hl229 : (0 : Int32).toInt = 0 := by decide
  have hz230 : ((0 : Int32).toNatClampNeg : Int) = 0 := by decide
  have hb231 : w15 sz = some (.inr (4, 4, .inr ((fun _ => none)))) := (heq15 sz (zx_X16_makeRecord_203 hsz9 hsz8 hgb1)).trans hc7
  exact (hL21 _ w15 0 (((g 1 + 1))) (((fun _ => none))) (zaZ) zSI.rf (fun _ _ => rfl) (by first | assumption | omega | decide) (by first | assumption | omega | decide) (by
        exact hb22) hb231 hUg0 (by
        omega) (by
        exact fun t ht => absurd ht (by omega)) (by
        exact fun t ht => absurd ht (by omega)) (by
        exact ⟨by rw [zln_Z]; omega, fun h9 => absurd h9 (by omega)⟩) (Nat.lt_succ_self _)).more (zfa1 rfl (zfa1 rfl (zfa1 rfl (zfa1 rfl (zfa1 rfl (zfa1 rfl (zfa1 rfl (zfa0))))))))
