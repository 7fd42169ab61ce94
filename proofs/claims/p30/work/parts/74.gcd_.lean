theorem zx_X16_gcd__0 {G3_0 m to x : Nat} (h0 : to ≤ x) (h1 : x < to + 130) (h2 : m + 596 ≤ to ∧ to + 130 ≤ m + 596 + 130 * G3_0) (h3 : G3_0 + 4 ≤ 44) : x ≠ m := by omega
theorem zx_X16_gcd__1 {G3_0 m to : Nat} (h0 : m + 596 ≤ to ∧ to + 130 ≤ m + 596 + 130 * G3_0) (h1 : G3_0 + 4 ≤ 44) : m < to ∨ to + 130 ≤ m := by omega
theorem zx_X16_gcd__2 {G3_0 m x : Nat} (h0 : m + 596 + 130 * G3_0 ≤ x) (h1 : x < m + 596 + 130 * G3_0 + 130) (h2 : G3_0 + 4 ≤ 44) : x < m ∨ m + 1 ≤ x := by omega
theorem zx_X16_gcd__3 {G3_0 G3_1 m x : Nat} (h0 : m + 596 + 130 * G3_0 ≤ x) (h1 : x < m + 596 + 130 * G3_0 + 130) (h2 : G3_1 = G3_0 + 1) (h3 : G3_0 + 4 ≤ 44) : x < m + 596 + 130 * G3_1 ∨ m + 596 + 130 * G3_1 + 130 ≤ x := by omega
theorem zx_X16_gcd__4 {G3_0 a m x : Nat} (h0 : a ≤ x) (h1 : x < a + 130) (h2 : m + 596 ≤ a ∧ a + 130 ≤ m + 596 + 130 * G3_0) (h3 : G3_0 + 4 ≤ 44) : x < m ∨ m + 1 ≤ x := by omega
theorem zx_X16_gcd__5 {G1_0 G3_0 a m x : Nat} (h0 : a ≤ x) (h1 : x < a + 130) (h2 : m + 596 ≤ a ∧ a + 130 ≤ m + 596 + 130 * G3_0) (h3 : G1_0 + 9 ≤ 160) (h4 : G3_0 + 4 ≤ 44) : x < m + 276 + 2 * G1_0 ∨ m + 276 + 2 * G1_0 + 2 ≤ x := by omega
theorem zx_X16_gcd__6 {G1_0 G1_1 G3_0 a m x : Nat} (h0 : a ≤ x) (h1 : x < a + 130) (h2 : m + 596 ≤ a ∧ a + 130 ≤ m + 596 + 130 * G3_0) (h3 : G1_1 = G1_0 + 1) (h4 : G1_0 + 9 ≤ 160) (h5 : G3_0 + 4 ≤ 44) : x < m + 276 + 2 * G1_1 ∨ m + 276 + 2 * G1_1 + 2 ≤ x := by omega
theorem zx_X16_gcd__7 {G3_0 a m x : Nat} (h0 : a ≤ x) (h1 : x < a + 130) (h2 : m + 596 ≤ a ∧ a + 130 ≤ m + 596 + 130 * G3_0) (h3 : G3_0 + 4 ≤ 44) : x < m + 596 + 130 * G3_0 ∨ m + 596 + 130 * G3_0 + 130 ≤ x := by omega
theorem zx_X16_gcd__8 {G3_0 G3_1 a m x : Nat} (h0 : a ≤ x) (h1 : x < a + 130) (h2 : m + 596 ≤ a ∧ a + 130 ≤ m + 596 + 130 * G3_0) (h3 : G3_1 = G3_0 + 1) (h4 : G3_0 + 4 ≤ 44) : x < m + 596 + 130 * G3_1 ∨ m + 596 + 130 * G3_1 + 130 ≤ x := by omega
theorem zx_X16_gcd__9 {G1_0 m x : Nat} (h0 : m + 276 + 2 * G1_0 ≤ x) (h1 : x < m + 276 + 2 * G1_0 + 2) (h2 : G1_0 + 9 ≤ 160) : x < m ∨ m + 1 ≤ x := by omega
theorem zx_X16_gcd__10 {G1_0 G1_1 m x : Nat} (h0 : m + 276 + 2 * G1_0 ≤ x) (h1 : x < m + 276 + 2 * G1_0 + 2) (h2 : G1_1 = G1_0 + 1) (h3 : G1_0 + 9 ≤ 160) : x < m + 276 + 2 * G1_1 ∨ m + 276 + 2 * G1_1 + 2 ≤ x := by omega
theorem zx_X16_gcd__11 {G1_0 G3_0 m x : Nat} (h0 : m + 276 + 2 * G1_0 ≤ x) (h1 : x < m + 276 + 2 * G1_0 + 2) (h2 : G1_0 + 9 ≤ 160) (h3 : G3_0 + 4 ≤ 44) : x < m + 596 + 130 * G3_0 ∨ m + 596 + 130 * G3_0 + 130 ≤ x := by omega
theorem zx_X16_gcd__12 {G1_0 G3_0 G3_1 m x : Nat} (h0 : m + 276 + 2 * G1_0 ≤ x) (h1 : x < m + 276 + 2 * G1_0 + 2) (h2 : G3_1 = G3_0 + 1) (h3 : G1_0 + 9 ≤ 160) (h4 : G3_0 + 4 ≤ 44) : x < m + 596 + 130 * G3_1 ∨ m + 596 + 130 * G3_1 + 130 ≤ x := by omega
theorem zx_X16_gcd__13 {G3_0 m : Nat} (h0 : G3_0 + 4 ≤ 44) : m < m + 596 + 130 * G3_0 ∨ m + 596 + 130 * G3_0 + 130 ≤ m := by omega
theorem zx_X16_gcd__14 {G1_0 m : Nat} (h0 : G1_0 + 9 ≤ 160) : m < m + 276 + 2 * G1_0 ∨ m + 276 + 2 * G1_0 + 2 ≤ m := by omega
theorem zx_X16_gcd__15 {G1_0 G1_2 m : Nat} (h0 : G1_2 = G1_0 + 2) (h1 : G1_0 + 9 ≤ 160) : m < m + 276 + 2 * G1_2 ∨ m + 276 + 2 * G1_2 + (320 - 2 * G1_2) ≤ m := by omega
theorem zx_X16_gcd__16 {G3_0 G3_1 m x : Nat} (h0 : m + 596 + 130 * G3_1 ≤ x) (h1 : x < m + 596 + 130 * G3_1 + 130) (h2 : G3_1 = G3_0 + 1) (h3 : G3_0 + 4 ≤ 44) : x < m + 596 + 130 * G3_0 ∨ m + 596 + 130 * G3_0 + 130 ≤ x := by omega
theorem zx_X16_gcd__17 {G1_0 G3_0 G3_1 m x : Nat} (h0 : m + 596 + 130 * G3_1 ≤ x) (h1 : x < m + 596 + 130 * G3_1 + 130) (h2 : G3_1 = G3_0 + 1) (h3 : G1_0 + 9 ≤ 160) (h4 : G3_0 + 4 ≤ 44) : x < m + 276 + 2 * G1_0 ∨ m + 276 + 2 * G1_0 + 2 ≤ x := by omega
theorem zx_X16_gcd__18 {G1_0 G1_2 G3_0 G3_1 m x : Nat} (h0 : m + 596 + 130 * G3_1 ≤ x) (h1 : x < m + 596 + 130 * G3_1 + 130) (h2 : G1_2 = G1_0 + 2) (h3 : G3_1 = G3_0 + 1) (h4 : G1_0 + 9 ≤ 160) (h5 : G3_0 + 4 ≤ 44) : x < m + 276 + 2 * G1_2 ∨ m + 276 + 2 * G1_2 + (320 - 2 * G1_2) ≤ x := by omega
theorem zx_X16_gcd__19 {G3_0 b m x : Nat} (h0 : b ≤ x) (h1 : x < b + 130) (h2 : m + 596 ≤ b ∧ b + 130 ≤ m + 596 + 130 * G3_0) (h3 : G3_0 + 4 ≤ 44) : x < m ∨ m + 1 ≤ x := by omega
theorem zx_X16_gcd__20 {G1_0 G3_0 b m x : Nat} (h0 : b ≤ x) (h1 : x < b + 130) (h2 : m + 596 ≤ b ∧ b + 130 ≤ m + 596 + 130 * G3_0) (h3 : G1_0 + 9 ≤ 160) (h4 : G3_0 + 4 ≤ 44) : x < m + 276 + 2 * G1_0 ∨ m + 276 + 2 * G1_0 + 2 ≤ x := by omega
theorem zx_X16_gcd__21 {G1_0 G1_1 G3_0 b m x : Nat} (h0 : b ≤ x) (h1 : x < b + 130) (h2 : m + 596 ≤ b ∧ b + 130 ≤ m + 596 + 130 * G3_0) (h3 : G1_1 = G1_0 + 1) (h4 : G1_0 + 9 ≤ 160) (h5 : G3_0 + 4 ≤ 44) : x < m + 276 + 2 * G1_1 ∨ m + 276 + 2 * G1_1 + 2 ≤ x := by omega
theorem zx_X16_gcd__22 {G3_0 b m x : Nat} (h0 : b ≤ x) (h1 : x < b + 130) (h2 : m + 596 ≤ b ∧ b + 130 ≤ m + 596 + 130 * G3_0) (h3 : G3_0 + 4 ≤ 44) : x < m + 596 + 130 * G3_0 ∨ m + 596 + 130 * G3_0 + 130 ≤ x := by omega
theorem zx_X16_gcd__23 {G3_0 G3_1 b m x : Nat} (h0 : b ≤ x) (h1 : x < b + 130) (h2 : m + 596 ≤ b ∧ b + 130 ≤ m + 596 + 130 * G3_0) (h3 : G3_1 = G3_0 + 1) (h4 : G3_0 + 4 ≤ 44) : x < m + 596 + 130 * G3_1 ∨ m + 596 + 130 * G3_1 + 130 ≤ x := by omega
theorem zx_X16_gcd__24 {G1_0 G1_2 G3_0 b m x : Nat} (h0 : b ≤ x) (h1 : x < b + 130) (h2 : m + 596 ≤ b ∧ b + 130 ≤ m + 596 + 130 * G3_0) (h3 : G1_2 = G1_0 + 2) (h4 : G1_0 + 9 ≤ 160) (h5 : G3_0 + 4 ≤ 44) : x < m + 276 + 2 * G1_2 ∨ m + 276 + 2 * G1_2 + (320 - 2 * G1_2) ≤ x := by omega
theorem zx_X16_gcd__25 {G1_0 G1_1 m x : Nat} (h0 : m + 276 + 2 * G1_1 ≤ x) (h1 : x < m + 276 + 2 * G1_1 + 2) (h2 : G1_1 = G1_0 + 1) (h3 : G1_0 + 9 ≤ 160) : x < m ∨ m + 1 ≤ x := by omega
theorem zx_X16_gcd__26 {G1_0 G1_1 G3_0 m x : Nat} (h0 : m + 276 + 2 * G1_1 ≤ x) (h1 : x < m + 276 + 2 * G1_1 + 2) (h2 : G1_1 = G1_0 + 1) (h3 : G1_0 + 9 ≤ 160) (h4 : G3_0 + 4 ≤ 44) : x < m + 596 + 130 * G3_0 ∨ m + 596 + 130 * G3_0 + 130 ≤ x := by omega
theorem zx_X16_gcd__27 {G1_0 G1_1 G3_0 G3_1 m x : Nat} (h0 : m + 276 + 2 * G1_1 ≤ x) (h1 : x < m + 276 + 2 * G1_1 + 2) (h2 : G1_1 = G1_0 + 1) (h3 : G3_1 = G3_0 + 1) (h4 : G1_0 + 9 ≤ 160) (h5 : G3_0 + 4 ≤ 44) : x < m + 596 + 130 * G3_1 ∨ m + 596 + 130 * G3_1 + 130 ≤ x := by omega
theorem zx_X16_gcd__28 {G1_0 G1_1 m x : Nat} (h0 : m + 276 + 2 * G1_1 ≤ x) (h1 : x < m + 276 + 2 * G1_1 + 2) (h2 : G1_1 = G1_0 + 1) (h3 : G1_0 + 9 ≤ 160) : x < m + 276 + 2 * G1_0 ∨ m + 276 + 2 * G1_0 + 2 ≤ x := by omega
theorem zx_X16_gcd__29 {G1_0 G1_1 G1_2 m x : Nat} (h0 : m + 276 + 2 * G1_1 ≤ x) (h1 : x < m + 276 + 2 * G1_1 + 2) (h2 : G1_1 = G1_0 + 1) (h3 : G1_2 = G1_0 + 2) (h4 : G1_0 + 9 ≤ 160) : x < m + 276 + 2 * G1_2 ∨ m + 276 + 2 * G1_2 + (320 - 2 * G1_2) ≤ x := by omega
theorem zx_X16_gcd__30 {G3_0 G3_1 m : Nat} (h0 : G3_1 = G3_0 + 1) (h1 : G3_0 + 4 ≤ 44) : (m + 596 + 130 * G3_0) < m + 596 + 130 * G3_1 ∨ m + 596 + 130 * G3_1 + 130 ≤ (m + 596 + 130 * G3_0) := by omega
theorem zx_X16_gcd__31 {G1_0 G1_1 G3_0 m : Nat} (h0 : G1_1 = G1_0 + 1) (h1 : G1_0 + 9 ≤ 160) (h2 : G3_0 + 4 ≤ 44) : (m + 596 + 130 * G3_0) < m + 276 + 2 * G1_1 ∨ m + 276 + 2 * G1_1 + 2 ≤ (m + 596 + 130 * G3_0) := by omega
theorem zx_X16_gcd__32 {G1_0 G1_2 G3_0 m : Nat} (h0 : G1_2 = G1_0 + 2) (h1 : G1_0 + 9 ≤ 160) (h2 : G3_0 + 4 ≤ 44) : (m + 596 + 130 * G3_0) < m + 276 + 2 * G1_2 ∨ m + 276 + 2 * G1_2 + (320 - 2 * G1_2) ≤ (m + 596 + 130 * G3_0) := by omega
theorem zx_X16_gcd__33 {G3_0 G3_1 m : Nat} (h0 : G3_1 = G3_0 + 1) (h1 : G3_0 + 4 ≤ 44) : m < m + 596 + 130 * G3_1 ∨ m + 596 + 130 * G3_1 + 130 ≤ m := by omega
theorem zx_X16_gcd__34 {G1_0 G1_1 m : Nat} (h0 : G1_1 = G1_0 + 1) (h1 : G1_0 + 9 ≤ 160) : m < m + 276 + 2 * G1_1 ∨ m + 276 + 2 * G1_1 + 2 ≤ m := by omega
theorem zx_X16_gcd__35 {G1_0 G1_2 m x : Nat} (h0 : m + 276 + 2 * G1_0 ≤ x) (h1 : x < m + 276 + 2 * G1_0 + 2) (h2 : G1_2 = G1_0 + 2) (h3 : G1_0 + 9 ≤ 160) : x < m + 276 + 2 * G1_2 ∨ m + 276 + 2 * G1_2 + (320 - 2 * G1_2) ≤ x := by omega
theorem zx_X16_gcd__36 {G1_0 G3_0 m to x : Nat} (h0 : m + 276 + 2 * G1_0 ≤ x) (h1 : x < m + 276 + 2 * G1_0 + 2) (h2 : m + 596 ≤ to ∧ to + 130 ≤ m + 596 + 130 * G3_0) (h3 : G1_0 + 9 ≤ 160) (h4 : G3_0 + 4 ≤ 44) : x < to ∨ to + 130 ≤ x := by omega
theorem zx_X16_gcd__37 {G1_0 G3_0 G3_2 m x : Nat} (h0 : m + 276 + 2 * G1_0 ≤ x) (h1 : x < m + 276 + 2 * G1_0 + 2) (h2 : G3_2 = G3_0 + 2) (h3 : G1_0 + 9 ≤ 160) (h4 : G3_0 + 4 ≤ 44) : x < m + 596 + 130 * G3_2 ∨ m + 596 + 130 * G3_2 + (5720 - 130 * G3_2) ≤ x := by omega
theorem zx_X16_gcd__38 {G1_0 m x : Nat} (h0 : m + 276 + 2 * G1_0 ≤ x) (h1 : x < m + 276 + 2 * G1_0 + 2) (h2 : G1_0 + 9 ≤ 160) : x < m + 3 ∨ m + 3 + 1 ≤ x := by omega
theorem zx_X16_gcd__39 {G1_0 m x : Nat} (h0 : m + 276 + 2 * G1_0 ≤ x) (h1 : x < m + 276 + 2 * G1_0 + 2) (h2 : G1_0 + 9 ≤ 160) : x < m + 5 ∨ m + 5 + 64 ≤ x := by omega
theorem zx_X16_gcd__40 {G1_0 m x : Nat} (h0 : m + 276 + 2 * G1_0 ≤ x) (h1 : x < m + 276 + 2 * G1_0 + 2) (h2 : G1_0 + 9 ≤ 160) : x ≠ m := by omega
theorem zx_X16_gcd__41 {G1_0 G1_1 G3_0 m to x : Nat} (h0 : m + 276 + 2 * G1_1 ≤ x) (h1 : x < m + 276 + 2 * G1_1 + 2) (h2 : m + 596 ≤ to ∧ to + 130 ≤ m + 596 + 130 * G3_0) (h3 : G1_1 = G1_0 + 1) (h4 : G1_0 + 9 ≤ 160) (h5 : G3_0 + 4 ≤ 44) : x < to ∨ to + 130 ≤ x := by omega
theorem zx_X16_gcd__42 {G1_0 G1_1 G3_0 G3_2 m x : Nat} (h0 : m + 276 + 2 * G1_1 ≤ x) (h1 : x < m + 276 + 2 * G1_1 + 2) (h2 : G1_1 = G1_0 + 1) (h3 : G3_2 = G3_0 + 2) (h4 : G1_0 + 9 ≤ 160) (h5 : G3_0 + 4 ≤ 44) : x < m + 596 + 130 * G3_2 ∨ m + 596 + 130 * G3_2 + (5720 - 130 * G3_2) ≤ x := by omega
theorem zx_X16_gcd__43 {G1_0 G1_1 m x : Nat} (h0 : m + 276 + 2 * G1_1 ≤ x) (h1 : x < m + 276 + 2 * G1_1 + 2) (h2 : G1_1 = G1_0 + 1) (h3 : G1_0 + 9 ≤ 160) : x < m + 3 ∨ m + 3 + 1 ≤ x := by omega
theorem zx_X16_gcd__44 {G1_0 G1_1 m x : Nat} (h0 : m + 276 + 2 * G1_1 ≤ x) (h1 : x < m + 276 + 2 * G1_1 + 2) (h2 : G1_1 = G1_0 + 1) (h3 : G1_0 + 9 ≤ 160) : x < m + 5 ∨ m + 5 + 64 ≤ x := by omega
theorem zx_X16_gcd__45 {G1_0 G1_1 m x : Nat} (h0 : m + 276 + 2 * G1_1 ≤ x) (h1 : x < m + 276 + 2 * G1_1 + 2) (h2 : G1_1 = G1_0 + 1) (h3 : G1_0 + 9 ≤ 160) : x ≠ m := by omega
theorem zx_X16_gcd__46 {G1_0 G3_0 m to x : Nat} (h0 : to ≤ x) (h1 : x < to + 130) (h2 : m + 596 ≤ to ∧ to + 130 ≤ m + 596 + 130 * G3_0) (h3 : G1_0 + 9 ≤ 160) (h4 : G3_0 + 4 ≤ 44) : x < m + 276 + 2 * G1_0 ∨ m + 276 + 2 * G1_0 + 2 ≤ x := by omega
theorem zx_X16_gcd__47 {G1_0 G1_2 G3_0 m to x : Nat} (h0 : to ≤ x) (h1 : x < to + 130) (h2 : m + 596 ≤ to ∧ to + 130 ≤ m + 596 + 130 * G3_0) (h3 : G1_2 = G1_0 + 2) (h4 : G1_0 + 9 ≤ 160) (h5 : G3_0 + 4 ≤ 44) : x < m + 276 + 2 * G1_2 ∨ m + 276 + 2 * G1_2 + (320 - 2 * G1_2) ≤ x := by omega
theorem zx_X16_gcd__48 {m x : Nat} (h0 : x ≠ m) : x < m ∨ m + 1 ≤ x := by omega
theorem zx_X16_gcd__49 {G1_0 m x : Nat} (h0 : x < m + 276 + 2 * G1_0 ∨ m + 276 + 2 * G1_0 + (320 - 2 * G1_0) ≤ x) (h1 : G1_0 + 9 ≤ 160) : x < m + 276 + 2 * G1_0 ∨ m + 276 + 2 * G1_0 + 2 ≤ x := by omega
theorem zx_X16_gcd__50 {G1_0 G1_1 m x : Nat} (h0 : x < m + 276 + 2 * G1_0 ∨ m + 276 + 2 * G1_0 + (320 - 2 * G1_0) ≤ x) (h1 : G1_1 = G1_0 + 1) (h2 : G1_0 + 9 ≤ 160) : x < m + 276 + 2 * G1_1 ∨ m + 276 + 2 * G1_1 + 2 ≤ x := by omega
theorem zx_X16_gcd__51 {G3_0 m x : Nat} (h0 : x < m + 596 + 130 * G3_0 ∨ m + 596 + 130 * G3_0 + (5720 - 130 * G3_0) ≤ x) (h1 : x < m + 5 ∨ m + 5 + 64 ≤ x) (h2 : G3_0 + 4 ≤ 44) : x < m + 596 + 130 * G3_0 ∨ m + 596 + 130 * G3_0 + 130 ≤ x := by omega
theorem zx_X16_gcd__52 {G3_0 G3_1 m x : Nat} (h0 : x < m + 596 + 130 * G3_0 ∨ m + 596 + 130 * G3_0 + (5720 - 130 * G3_0) ≤ x) (h1 : x < m + 5 ∨ m + 5 + 64 ≤ x) (h2 : G3_1 = G3_0 + 1) (h3 : G3_0 + 4 ≤ 44) : x < m + 596 + 130 * G3_1 ∨ m + 596 + 130 * G3_1 + 130 ≤ x := by omega
theorem zx_X16_gcd__53 {G1_0 G1_2 m x : Nat} (h0 : x < m + 276 + 2 * G1_0 ∨ m + 276 + 2 * G1_0 + (320 - 2 * G1_0) ≤ x) (h1 : G1_2 = G1_0 + 2) (h2 : G1_0 + 9 ≤ 160) : x < m + 276 + 2 * G1_2 ∨ m + 276 + 2 * G1_2 + (320 - 2 * G1_2) ≤ x := by omega
theorem zx_X16_gcd__54 {G3_0 G3_2 m x : Nat} (h0 : x < m + 596 + 130 * G3_0 ∨ m + 596 + 130 * G3_0 + (5720 - 130 * G3_0) ≤ x) (h1 : x < m + 5 ∨ m + 5 + 64 ≤ x) (h2 : G3_2 = G3_0 + 2) (h3 : G3_0 + 4 ≤ 44) : x < m + 596 + 130 * G3_2 ∨ m + 596 + 130 * G3_2 + (5720 - 130 * G3_2) ≤ x := by omega
theorem zx_X16_gcd__55 {G1_0 G1_1 G3_0 m x : Nat} (h0 : m + 596 + 130 * G3_0 ≤ x) (h1 : x < m + 596 + 130 * G3_0 + 130) (h2 : G1_1 = G1_0 + 1) (h3 : G1_0 + 9 ≤ 160) (h4 : G3_0 + 4 ≤ 44) : x < m + 276 + 2 * G1_1 ∨ m + 276 + 2 * G1_1 + 2 ≤ x := by omega
theorem zx_X16_gcd__56 {G1_0 G1_2 G3_0 m x : Nat} (h0 : m + 596 + 130 * G3_0 ≤ x) (h1 : x < m + 596 + 130 * G3_0 + 130) (h2 : G1_2 = G1_0 + 2) (h3 : G1_0 + 9 ≤ 160) (h4 : G3_0 + 4 ≤ 44) : x < m + 276 + 2 * G1_2 ∨ m + 276 + 2 * G1_2 + (320 - 2 * G1_2) ≤ x := by omega
theorem zx_X16_gcd__57 {G3_0 G3_2 m : Nat} (h0 : G3_2 = G3_0 + 2) (h1 : G3_0 + 4 ≤ 44) : m < m + 596 + 130 * G3_2 ∨ m + 596 + 130 * G3_2 + (5720 - 130 * G3_2) ≤ m := by omega
theorem zx_X16_gcd__58 {m : Nat}  : m < m + 3 ∨ m + 3 + 1 ≤ m := by omega
theorem zx_X16_gcd__59 {m : Nat}  : m < m + 5 ∨ m + 5 + 64 ≤ m := by omega
set_option maxHeartbeats 8000000 in
set_option maxRecDepth 100000 in
theorem c_X16_gcd_ {w : zM} {g : Nat → Int32} {r : Nat → Value} {p q : zA2} {g1 : Int32} {g3 : Int32} (m : Nat) (to : Nat) (a : Nat) (b : Nat) (hm : w m = some (.inl (15, zMo m g r))) (hR_m : zR m w) (hBo_to : zBo w to) (hB_a : zB w a p) (hB_b : zB w b q) (hut : 0 ≤ g1.toInt ∧ g1.toInt + 9 ≤ 160) (hbt : 0 ≤ g3.toInt ∧ g3.toInt + 4 ≤ 44) (hta : to + 130 ≤ a ∨ a + 130 ≤ to) (htb : to + 130 ≤ b ∨ b + 130 ≤ to) (hmt : m + 596 ≤ to ∧ to + 130 ≤ m + 596 + 130 * g3.toNatClampNeg) (hma : m + 596 ≤ a ∧ a + 130 ≤ m + 596 + 130 * g3.toNatClampNeg) (hmb : m + 596 ≤ b ∧ b + 130 ≤ m + 596 + 130 * g3.toNatClampNeg) (hpd : zdn p ≤ 99) (hqd : zdn q ≤ 99) (hpq : zdn p ≤ 50 ∨ zdn q ≤ 50) (hg1 : g 1 = g1) (hg3 : g 3 = g3) : zCon 8 zq_X16_gcd_ [.ref m, .ref to, .ref a, .ref b] w (fun v9 w9' => ∃ Gn : zA2, zSI w w9' ∧ (∀ x, (x < to ∨ to + 130 ≤ x) ∧ (x < m + 276 + 2 * g1.toNatClampNeg ∨ m + 276 + 2 * g1.toNatClampNeg + (320 - 2 * g1.toNatClampNeg) ≤ x) ∧ (x < m + 596 + 130 * g3.toNatClampNeg ∨ m + 596 + 130 * g3.toNatClampNeg + (5720 - 130 * g3.toNatClampNeg) ≤ x) ∧ (x < m + 3 ∨ m + 3 + 1 ≤ x) ∧ (x < m + 5 ∨ m + 5 + 64 ≤ x) → w9' x = w x) ∧ zB w9' to Gn ∧ zCd p q Gn ∧ v9 = none) := by
  subst hg1
  subst hg3
  intro d sz hd
  obtain ⟨d, rfl⟩ : ∃ d9, d = d9 + 1 := ⟨d - 1, by omega⟩
  generalize hPost : (fun (r9' : Option (Option Value)) (w9' : zM) (z9 : Nat) => z9 = sz ∧ ∃ v9, r9' = some v9 ∧ (∃ Gn : zA2, zSI w w9' ∧ (∀ x, (x < to ∨ to + 130 ≤ x) ∧ (x < m + 276 + 2 * (g 1).toNatClampNeg ∨ m + 276 + 2 * (g 1).toNatClampNeg + (320 - 2 * (g 1).toNatClampNeg) ≤ x) ∧ (x < m + 596 + 130 * (g 3).toNatClampNeg ∨ m + 596 + 130 * (g 3).toNatClampNeg + (5720 - 130 * (g 3).toNatClampNeg) ≤ x) ∧ (x < m + 3 ∨ m + 3 + 1 ≤ x) ∧ (x < m + 5 ∨ m + 5 + 64 ≤ x) → w9' x = w x) ∧ zB w9' to Gn ∧ zCd p q Gn ∧ v9 = none)) = Post
  show zP (d + 1) zq_X16_gcd_ 0 [(0, .ref m), (1, .ref to), (2, .ref a), (3, .ref b)] [] w sz 0 0 Post
  have k1 := zrng (g 1)
  have hz2 : ((g 1).toNatClampNeg : Int) = (g 1).toInt := znat (by first | omega | decide)
  have hgb1 : (g 1).toNatClampNeg + 9 ≤ 160 := by omega
  have k3 := zrng (g 3)
  have hz4 : ((g 3).toNatClampNeg : Int) = (g 3).toInt := znat (by first | omega | decide)
  have hgb3 : (g 3).toNatClampNeg + 4 ≤ 44 := by omega
  have hpq9 : zHid (zdn p ≤ 50 ∨ zdn q ≤ 50) := zHid.i hpq
  clear hpq
  have hp1 := zprim_dn p
  have hp2 := zprim_rw p
  have hp3 := zcont_le p
  have hq1 := zprim_dn q
  have hq2 := zprim_rw q
  have hq3 := zcont_le q
  have hgc9 : zln (zgcd (zcont p) (zcont q)) ≤ 100 := by
    have h9 := @zgcd_le (zcont p) (zcont q)
    omega
  refine zp_seg (pc' := 1) (lv' := [(0, .ref m), (1, .ref to), (2, .ref a), (3, .ref b)]) (st' := [.ref m]) [(0, .aload_n 0)] (by decide +kernel) rfl ?_
  refine zr_get (idx := 21) (k := 1) (v := .int (g 1)) (by decide +kernel) (by decide +kernel) hm rfl ?_
  refine zp_seg (pc' := 7) (lv' := [(4, .int (g 1)), (0, .ref m), (1, .ref to), (2, .ref a), (3, .ref b)]) (st' := [.ref m]) [(4, .istore 4), (6, .aload_n 0)] (by decide +kernel) rfl ?_
  refine zr_get (idx := 90) (k := 3) (v := .int (g 3)) (by decide +kernel) (by decide +kernel) hm rfl ?_
  refine zp_seg (pc' := 13) (lv' := [(5, .int (g 3)), (4, .int (g 1)), (0, .ref m), (1, .ref to), (2, .ref a), (3, .ref b)]) (st' := [.ref a]) [(10, .istore 5), (12, .aload_n 2)] (by decide +kernel) rfl ?_
  obtain ⟨n5, hb6, hb7, hb8, hb9, -⟩ := id hB_a
  have kn5 := zrng n5
  refine zr_get (idx := 93) (k := 1) (v := .int n5) (by decide +kernel) (by decide +kernel) hb6 rfl ?_
  have hJ140 : ∀ (wL140 : zM) (An : zA2) (x1 : Int32) (x3 : Int32), (zSI w wL140) → (∀ x, ((x < to ∨ to + 130 ≤ x) ∧ (x < m + 276 + 2 * (g 1).toNatClampNeg ∨ m + 276 + 2 * (g 1).toNatClampNeg + (320 - 2 * (g 1).toNatClampNeg) ≤ x) ∧ (x < m + 596 + 130 * (g 3).toNatClampNeg ∨ m + 596 + 130 * (g 3).toNatClampNeg + (5720 - 130 * (g 3).toNatClampNeg) ≤ x) ∧ (x < m + 3 ∨ m + 3 + 1 ≤ x) ∧ (x < m + 5 ∨ m + 5 + 64 ≤ x)) ∧ x ≠ m → wL140 x = w x) → (zB wL140 to An) → (wL140 m = some (.inl (15, zMo m (zs (zs g 1 x1) 3 x3) r))) → (zCd p q An) → zP (d + 1) zq_X16_gcd_ 140 [(0, .ref m), (1, .ref to), (4, .int (g 1)), (5, .int (g 3))] [] wL140 sz 0 0 Post := by
    intro wL140 An x1 x3 hsiL140 heqL140 hBn9 hmx hCd
    refine zp_seg (pc' := 141) (lv' := [(0, .ref m), (1, .ref to), (4, .int (g 1)), (5, .int (g 3))]) (st' := [.ref to]) [(140, .aload_n 1)] (by decide +kernel) rfl ?_
    obtain ⟨n10, hb11, hb12, hb13, hb14, -⟩ := id hBn9
    have kn10 := zrng n10
    refine zr_get (idx := 93) (k := 1) (v := .int n10) (by decide +kernel) (by decide +kernel) hb11 rfl ?_
    refine zp_if (i := .ifCond .le 15) (c := n10 ≤ 0) (t := 159) (e := 147) (lv' := [(0, .ref m), (1, .ref to), (4, .int (g 1)), (5, .int (g 3))]) (st' := []) (by decide +kernel) rfl (fun cc144 => ?_) (fun cc144 => ?_)
    ·
      have f16 := zleI cc144
      rw [show (0 : Int32).toInt = 0 from by decide] at f16
      refine zp_seg (pc' := 162) (lv' := [(0, .ref m), (1, .ref to), (4, .int (g 1)), (5, .int (g 3))]) (st' := [.int (g 3), .ref m]) [(159, .aload_n 0), (160, .iload 5)] (by decide +kernel) rfl ?_
      refine zr_put2 (idx := 90) (k := 3) (fs2 := zMo m (zs g 1 x1) r) (by decide +kernel) (by decide +kernel) hmx (Nat.le_of_ble_eq_true rfl) rfl rfl rfl ?_
      show zP (d + 1) zq_X16_gcd_ 165 [(0, .ref m), (1, .ref to), (4, .int (g 1)), (5, .int (g 3))] [] (zup wL140 m (.inl (15, zMo m (zs g 1 x1) r))) sz 0 0 Post
      obtain ⟨w162, ew162⟩ : ∃ wz9, wz9 = zup wL140 m (.inl (15, zMo m (zs g 1 x1) r)) := ⟨_, rfl⟩
      have hsi162 : zSI wL140 w162 := by rw [ew162]; exact zSI.setG hmx _ _
      have heq162 : ∀ x, x ≠ m → w162 x = wL140 x := fun x hx => by rw [ew162]; exact zup_n hx
      have hc162 : w162 m = some (.inl (15, zMo m (zs g 1 x1) r)) := by rw [ew162]; exact zup_s
      rw [← ew162]
      clear ew162
      refine zp_seg (pc' := 168) (lv' := [(0, .ref m), (1, .ref to), (4, .int (g 1)), (5, .int (g 3))]) (st' := [.int (g 1), .ref m]) [(165, .aload_n 0), (166, .iload 4)] (by decide +kernel) rfl ?_
      refine zr_put2 (idx := 21) (k := 1) (fs2 := zMo m g r) (by decide +kernel) (by decide +kernel) hc162 (Nat.le_of_ble_eq_true rfl) rfl rfl rfl ?_
      show zP (d + 1) zq_X16_gcd_ 171 [(0, .ref m), (1, .ref to), (4, .int (g 1)), (5, .int (g 3))] [] (zup w162 m (.inl (15, zMo m g r))) sz 0 0 Post
      obtain ⟨w168, ew168⟩ : ∃ wz9, wz9 = zup w162 m (.inl (15, zMo m g r)) := ⟨_, rfl⟩
      have hsi168 : zSI w162 w168 := by rw [ew168]; exact zSI.setG hc162 _ _
      have heq168 : ∀ x, x ≠ m → w168 x = w162 x := fun x hx => by rw [ew168]; exact zup_n hx
      have hc168 : w168 m = some (.inl (15, zMo m g r)) := by rw [ew168]; exact zup_s
      rw [← ew168]
      clear ew168
      have hmend : w168 m = w m := by rw [hc168, hm]
      have hoffend : ∀ x, (x < to ∨ to + 130 ≤ x) ∧ (x < m + 276 + 2 * (g 1).toNatClampNeg ∨ m + 276 + 2 * (g 1).toNatClampNeg + (320 - 2 * (g 1).toNatClampNeg) ≤ x) ∧ (x < m + 596 + 130 * (g 3).toNatClampNeg ∨ m + 596 + 130 * (g 3).toNatClampNeg + (5720 - 130 * (g 3).toNatClampNeg) ≤ x) ∧ (x < m + 3 ∨ m + 3 + 1 ≤ x) ∧ (x < m + 5 ∨ m + 5 + 64 ≤ x) → w168 x = w x := fun x hx => by
          by_cases ex : x = m
          · rw [ex]; exact hmend
          · exact ((heq168 x ex).trans ((heq162 x ex).trans (heqL140 x ⟨⟨hx.1, hx.2.1, hx.2.2.1, hx.2.2.2.1, hx.2.2.2.2⟩, ex⟩)))
      have hb17 : zB w168 to An := hBn9.ag (fun x hx1 hx2 => ((heq168 x (zx_X16_gcd__0 hx1 hx2 hmt hgb3)).trans (heq162 x (zx_X16_gcd__0 hx1 hx2 hmt hgb3))))
      refine zr_retV (by decide +kernel) rfl ?_
      rw [← hPost]; exact ⟨rfl, _, rfl, An, ((hsiL140.tr hsi162).tr hsi168), hoffend, (by first | exact hb17 | (have z9 := hb17; simpa using z9)), (by
            first
            | exact hCd
            | exact zCd_s (by rw [hr153.2, hr150.2]; exact zinvF_nz (zhB_nz (by omega))) hCd), rfl⟩
    ·
      have f19 := znleI cc144
      rw [show (0 : Int32).toInt = 0 from by decide] at f19
      refine zp_seg (pc' := 150) (lv' := [(0, .ref m), (1, .ref to), (4, .int (g 1)), (5, .int (g 3))]) (st' := [.ref to, .ref to, .ref to]) [(147, .aload_n 1), (148, .aload_n 1), (149, .aload_n 1)] (by decide +kernel) rfl ?_
      refine zr_callV (idx := 181) (j := 247) (by decide +kernel) (by decide +kernel) (show zMe 247 = some zq_X12_head from rfl) rfl rfl (Nat.le_of_ble_eq_true rfl) rfl rfl hb11 (Nat.le_of_ble_eq_true rfl) (Nat.le_of_ble_eq_true rfl) (c_X12_head (w := wL140) to hBn9) (by omega) (fun v150 w150 hp150 => ?_)
      obtain ⟨hpw150, r150, rfl, hr150⟩ := hp150
      replace hpw150 := hpw150.symm
      subst hpw150
      have kr150 := zrng r150
      show zP _ _ _ _ [.int r150, .ref to, .ref to] _ _ _ _ _
      refine zr_callS (idx := 13) (j := 259) (by decide +kernel) (by decide +kernel) (by decide) (show zMe 259 = some zq_X16_inv from rfl) rfl rfl (Nat.le_of_ble_eq_true rfl) rfl rfl (Nat.le_of_ble_eq_true rfl) (Nat.le_of_ble_eq_true rfl) (c_X16_inv (w := wL140) r150 (by exact hr150.1)) (by omega) (fun v153 w153 hp153 => ?_)
      obtain ⟨hpw153, r153, rfl, hr153⟩ := hp153
      replace hpw153 := hpw153.symm
      subst hpw153
      have kr153 := zrng r153
      show zP _ _ _ _ [.int r153, .ref to, .ref to] _ _ _ _ _
      have ho156_to := zB.o hBn9
      refine zr_callS (idx := 182) (j := 277) (by decide +kernel) (by decide +kernel) (by decide) (show zMe 277 = some zq_X16_scale_ from rfl) rfl rfl (Nat.le_of_ble_eq_true rfl) rfl rfl (Nat.le_of_ble_eq_true rfl) (Nat.le_of_ble_eq_true rfl) (c_X16_scale_ (w := wL140) to to r153 ho156_to hBn9 (by first | omega | decide | assumption | exact zr1_1 | exact zr1_0) (by exact hr153.1)) (by omega) (fun v156 w156 hp156 => ?_)
      obtain ⟨hsi156, heq156, hp156_0, rfl⟩ := hp156
      show zP _ _ _ _ [] _ _ _ _ _
      refine zp_seg (pc' := 162) (lv' := [(0, .ref m), (1, .ref to), (4, .int (g 1)), (5, .int (g 3))]) (st' := [.int (g 3), .ref m]) [(159, .aload_n 0), (160, .iload 5)] (by decide +kernel) rfl ?_
      have hb20 : w156 m = some (.inl (15, zMo m (zs (zs g 1 x1) 3 x3) r)) := (heq156 m (zx_X16_gcd__1 hmt hgb3)).trans hmx
      refine zr_put2 (idx := 90) (k := 3) (fs2 := zMo m (zs g 1 x1) r) (by decide +kernel) (by decide +kernel) hb20 (Nat.le_of_ble_eq_true rfl) rfl rfl rfl ?_
      show zP (d + 1) zq_X16_gcd_ 165 [(0, .ref m), (1, .ref to), (4, .int (g 1)), (5, .int (g 3))] [] (zup w156 m (.inl (15, zMo m (zs g 1 x1) r))) sz 0 0 Post
      obtain ⟨w162, ew162⟩ : ∃ wz9, wz9 = zup w156 m (.inl (15, zMo m (zs g 1 x1) r)) := ⟨_, rfl⟩
      have hsi162 : zSI w156 w162 := by rw [ew162]; exact zSI.setG hb20 _ _
      have heq162 : ∀ x, x ≠ m → w162 x = w156 x := fun x hx => by rw [ew162]; exact zup_n hx
      have hc162 : w162 m = some (.inl (15, zMo m (zs g 1 x1) r)) := by rw [ew162]; exact zup_s
      rw [← ew162]
      clear ew162
      refine zp_seg (pc' := 168) (lv' := [(0, .ref m), (1, .ref to), (4, .int (g 1)), (5, .int (g 3))]) (st' := [.int (g 1), .ref m]) [(165, .aload_n 0), (166, .iload 4)] (by decide +kernel) rfl ?_
      refine zr_put2 (idx := 21) (k := 1) (fs2 := zMo m g r) (by decide +kernel) (by decide +kernel) hc162 (Nat.le_of_ble_eq_true rfl) rfl rfl rfl ?_
      show zP (d + 1) zq_X16_gcd_ 171 [(0, .ref m), (1, .ref to), (4, .int (g 1)), (5, .int (g 3))] [] (zup w162 m (.inl (15, zMo m g r))) sz 0 0 Post
      obtain ⟨w168, ew168⟩ : ∃ wz9, wz9 = zup w162 m (.inl (15, zMo m g r)) := ⟨_, rfl⟩
      have hsi168 : zSI w162 w168 := by rw [ew168]; exact zSI.setG hc162 _ _
      have heq168 : ∀ x, x ≠ m → w168 x = w162 x := fun x hx => by rw [ew168]; exact zup_n hx
      have hc168 : w168 m = some (.inl (15, zMo m g r)) := by rw [ew168]; exact zup_s
      rw [← ew168]
      clear ew168
      have hmend : w168 m = w m := by rw [hc168, hm]
      have hoffend : ∀ x, (x < to ∨ to + 130 ≤ x) ∧ (x < m + 276 + 2 * (g 1).toNatClampNeg ∨ m + 276 + 2 * (g 1).toNatClampNeg + (320 - 2 * (g 1).toNatClampNeg) ≤ x) ∧ (x < m + 596 + 130 * (g 3).toNatClampNeg ∨ m + 596 + 130 * (g 3).toNatClampNeg + (5720 - 130 * (g 3).toNatClampNeg) ≤ x) ∧ (x < m + 3 ∨ m + 3 + 1 ≤ x) ∧ (x < m + 5 ∨ m + 5 + 64 ≤ x) → w168 x = w x := fun x hx => by
          by_cases ex : x = m
          · rw [ex]; exact hmend
          · exact ((heq168 x ex).trans ((heq162 x ex).trans ((heq156 x hx.1).trans (heqL140 x ⟨⟨hx.1, hx.2.1, hx.2.2.1, hx.2.2.2.1, hx.2.2.2.2⟩, ex⟩))))
      have hb21 : zB w168 to (zbM (zbC (zaC (zf r153))) An) := hp156_0.ag (fun x hx1 hx2 => ((heq168 x (zx_X16_gcd__0 hx1 hx2 hmt hgb3)).trans (heq162 x (zx_X16_gcd__0 hx1 hx2 hmt hgb3))))
      refine zr_retV (by decide +kernel) rfl ?_
      rw [← hPost]; exact ⟨rfl, _, rfl, (zbM (zbC (zaC (zf r153))) An), (((hsiL140.tr hsi156).tr hsi162).tr hsi168), hoffend, (by first | exact hb21 | (have z9 := hb21; simpa using z9)), (by
            first
            | exact hCd
            | exact zCd_s (by rw [hr153.2, hr150.2]; exact zinvF_nz (zhB_nz (by omega))) hCd), rfl⟩
  refine zp_if (i := .ifCond .eq 10) (c := n5 = 0) (t := 26) (e := 19) (lv' := [(5, .int (g 3)), (4, .int (g 1)), (0, .ref m), (1, .ref to), (2, .ref a), (3, .ref b)]) (st' := []) (by decide +kernel) rfl (fun cc16 => ?_) (fun cc16 => ?_)
  ·
    have f23 := zeqI cc16
    rw [show (0 : Int32).toInt = 0 from by decide] at f23
    refine zp_seg (pc' := 28) (lv' := [(5, .int (g 3)), (4, .int (g 1)), (0, .ref m), (1, .ref to), (2, .ref a), (3, .ref b)]) (st' := [.ref a, .ref to]) [(26, .aload_n 1), (27, .aload_n 2)] (by decide +kernel) rfl ?_
    refine zr_get (idx := 93) (k := 1) (v := .int n5) (by decide +kernel) (by decide +kernel) hb6 rfl ?_
    refine zp_if (i := .ifCond .ne 7) (c := ¬ n5 = 0) (t := 38) (e := 34) (lv' := [(5, .int (g 3)), (4, .int (g 1)), (0, .ref m), (1, .ref to), (2, .ref a), (3, .ref b)]) (st' := [.ref to]) (by decide +kernel) rfl (fun cc31 => ?_) (fun cc31 => ?_)
    ·
      have f24 := zneI cc31
      rw [show (0 : Int32).toInt = 0 from by decide] at f24
      refine zp_seg (pc' := 39) (lv' := [(5, .int (g 3)), (4, .int (g 1)), (0, .ref m), (1, .ref to), (2, .ref a), (3, .ref b)]) (st' := [.ref a, .ref to]) [(38, .aload_n 2)] (by decide +kernel) rfl ?_
      refine zr_callS (idx := 113) (j := 275) (by decide +kernel) (by decide +kernel) (by decide) (show zMe 275 = some zq_X16_set_ from rfl) rfl rfl (Nat.le_of_ble_eq_true rfl) rfl rfl (Nat.le_of_ble_eq_true rfl) (Nat.le_of_ble_eq_true rfl) (c_X16_set_ (w := w) to a hBo_to hB_a (by first | omega | decide | assumption | exact zr1_1 | exact zr1_0)) (by omega) (fun v39 w39 hp39 => ?_)
      obtain ⟨hsi39, heq39, hp39_0, rfl⟩ := hp39
      show zP _ _ _ _ [] _ _ _ _ _
      refine zp_seg (pc' := 140) (lv' := [(5, .int (g 3)), (4, .int (g 1)), (0, .ref m), (1, .ref to), (2, .ref a), (3, .ref b)]) (st' := []) [(42, .goto 98)] (by decide +kernel) rfl ?_
      have hb25 : w39 m = some (.inl (15, zMo m g r)) := (heq39 m (zx_X16_gcd__1 hmt hgb3)).trans hm
      exact (hJ140 w39 (p) ((g 1)) ((g 3)) hsi39 (fun x hx => (heq39 x hx.1.1)) hp39_0 (by
            exact hb25) (by
            first
            | exact zCd_0l (by omega)
            | exact zCd_0r (by omega)
            | exact zCd_p (by omega) hCp)).more (zfa1 rfl (zfa1 rfl (zfa1 rfl (zfa1 rfl (zfa0)))))
    ·
      replace cc31 := Classical.not_not.mp cc31
      have f26 := zeqI cc31
      rw [show (0 : Int32).toInt = 0 from by decide] at f26
      refine zp_seg (pc' := 39) (lv' := [(5, .int (g 3)), (4, .int (g 1)), (0, .ref m), (1, .ref to), (2, .ref a), (3, .ref b)]) (st' := [.ref b, .ref to]) [(34, .aload_n 3), (35, .goto 4)] (by decide +kernel) rfl ?_
      refine zr_callS (idx := 113) (j := 275) (by decide +kernel) (by decide +kernel) (by decide) (show zMe 275 = some zq_X16_set_ from rfl) rfl rfl (Nat.le_of_ble_eq_true rfl) rfl rfl (Nat.le_of_ble_eq_true rfl) (Nat.le_of_ble_eq_true rfl) (c_X16_set_ (w := w) to b hBo_to hB_b (by first | omega | decide | assumption | exact zr1_1 | exact zr1_0)) (by omega) (fun v39 w39 hp39 => ?_)
      obtain ⟨hsi39, heq39, hp39_0, rfl⟩ := hp39
      show zP _ _ _ _ [] _ _ _ _ _
      refine zp_seg (pc' := 140) (lv' := [(5, .int (g 3)), (4, .int (g 1)), (0, .ref m), (1, .ref to), (2, .ref a), (3, .ref b)]) (st' := []) [(42, .goto 98)] (by decide +kernel) rfl ?_
      have hb27 : w39 m = some (.inl (15, zMo m g r)) := (heq39 m (zx_X16_gcd__1 hmt hgb3)).trans hm
      exact (hJ140 w39 (q) ((g 1)) ((g 3)) hsi39 (fun x hx => (heq39 x hx.1.1)) hp39_0 (by
            exact hb27) (by
            first
            | exact zCd_0l (by omega)
            | exact zCd_0r (by omega)
            | exact zCd_p (by omega) hCp)).more (zfa1 rfl (zfa1 rfl (zfa1 rfl (zfa1 rfl (zfa0)))))
  ·
    have f29 := zneI cc16
    rw [show (0 : Int32).toInt = 0 from by decide] at f29
    refine zp_seg (pc' := 20) (lv' := [(5, .int (g 3)), (4, .int (g 1)), (0, .ref m), (1, .ref to), (2, .ref a), (3, .ref b)]) (st' := [.ref b]) [(19, .aload_n 3)] (by decide +kernel) rfl ?_
    obtain ⟨n30, hb31, hb32, hb33, hb34, -⟩ := id hB_b
    have kn30 := zrng n30
    refine zr_get (idx := 93) (k := 1) (v := .int n30) (by decide +kernel) (by decide +kernel) hb31 rfl ?_
    refine zp_if (i := .ifCond .ne 22) (c := ¬ n30 = 0) (t := 45) (e := 26) (lv' := [(5, .int (g 3)), (4, .int (g 1)), (0, .ref m), (1, .ref to), (2, .ref a), (3, .ref b)]) (st' := []) (by decide +kernel) rfl (fun cc23 => ?_) (fun cc23 => ?_)
    ·
      have f35 := zneI cc23
      rw [show (0 : Int32).toInt = 0 from by decide] at f35
      refine zp_seg (pc' := 46) (lv' := [(5, .int (g 3)), (4, .int (g 1)), (0, .ref m), (1, .ref to), (2, .ref a), (3, .ref b)]) (st' := [.ref m]) [(45, .aload_n 0)] (by decide +kernel) rfl ?_
      refine zr_callV (idx := 74) (j := 263) (by decide +kernel) (by decide +kernel) (show zMe 263 = some zq_X16_newU from rfl) rfl rfl (Nat.le_of_ble_eq_true rfl) rfl rfl hm (Nat.le_of_ble_eq_true rfl) (Nat.le_of_ble_eq_true rfl) (c_X16_newU (w := w) (g1 := (g 1)) m hm hR_m (by first | omega | decide | assumption | exact zr1_1 | exact zr1_0) rfl) (by omega) (fun v46 w46 hp46 => ?_)
      obtain ⟨hsi46, heq46, hp46_0, hp46_1, rfl⟩ := hp46
      have hM46 : w46 m = some (.inl (15, zMo m (zs g 1 (g 1 + 1)) r)) := hp46_0
      show zP _ _ _ _ [.ref (m + 276 + 2 * (g 1).toNatClampNeg)] _ _ _ _ _
      refine zp_seg (pc' := 52) (lv' := [(6, .ref (m + 276 + 2 * (g 1).toNatClampNeg)), (5, .int (g 3)), (4, .int (g 1)), (0, .ref m), (1, .ref to), (2, .ref a), (3, .ref b)]) (st' := [.ref m]) [(49, .astore 6), (51, .aload_n 0)] (by decide +kernel) rfl ?_
      have k37 := zaddC (g 1) 1 (n := 1) (by decide) (by omega) (by omega)
      have hz38 : ((g 1 + 1).toNatClampNeg : Int) = (g 1 + 1).toInt := znat (by first | omega | decide)
      have hgn1_1 : (g 1 + 1).toNatClampNeg = (g 1).toNatClampNeg + 1 := by omega
      have hb39 := hR_m.si hsi46
      refine zr_callV (idx := 74) (j := 263) (by decide +kernel) (by decide +kernel) (show zMe 263 = some zq_X16_newU from rfl) rfl rfl (Nat.le_of_ble_eq_true rfl) rfl rfl hM46 (Nat.le_of_ble_eq_true rfl) (Nat.le_of_ble_eq_true rfl) (c_X16_newU (w := w46) (g1 := (g 1 + 1)) m hM46 hb39 (by first | omega | decide | assumption | exact zr1_1 | exact zr1_0) rfl) (by omega) (fun v52 w52 hp52 => ?_)
      obtain ⟨hsi52, heq52, hp52_0, hp52_1, rfl⟩ := hp52
      have hM52 : w52 m = some (.inl (15, zMo m (zs g 1 (g 1 + 1 + 1)) r)) := hp52_0
      show zP _ _ _ _ [.ref (m + 276 + 2 * (g 1 + 1).toNatClampNeg)] _ _ _ _ _
      refine zp_seg (pc' := 58) (lv' := [(7, .ref (m + 276 + 2 * (g 1 + 1).toNatClampNeg)), (6, .ref (m + 276 + 2 * (g 1).toNatClampNeg)), (5, .int (g 3)), (4, .int (g 1)), (0, .ref m), (1, .ref to), (2, .ref a), (3, .ref b)]) (st' := [.ref m]) [(55, .astore 7), (57, .aload_n 0)] (by decide +kernel) rfl ?_
      have hb40 := hb39.si hsi52
      refine zr_callV (idx := 140) (j := 274) (by decide +kernel) (by decide +kernel) (show zMe 274 = some zq_X16_newB from rfl) rfl rfl (Nat.le_of_ble_eq_true rfl) rfl rfl hM52 (Nat.le_of_ble_eq_true rfl) (Nat.le_of_ble_eq_true rfl) (c_X16_newB (w := w52) (g3 := (g 3)) m hM52 hb40 (by first | omega | decide | assumption | exact zr1_1 | exact zr1_0) rfl) (by omega) (fun v58 w58 hp58 => ?_)
      obtain ⟨hsi58, heq58, hp58_0, hp58_1, rfl⟩ := hp58
      have hM58 : w58 m = some (.inl (15, zMo m (zs (zs g 1 (g 1 + 1 + 1)) 3 (g 3 + 1)) r)) := hp58_0
      show zP _ _ _ _ [.ref (m + 596 + 130 * (g 3).toNatClampNeg)] _ _ _ _ _
      refine zp_seg (pc' := 64) (lv' := [(8, .ref (m + 596 + 130 * (g 3).toNatClampNeg)), (7, .ref (m + 276 + 2 * (g 1 + 1).toNatClampNeg)), (6, .ref (m + 276 + 2 * (g 1).toNatClampNeg)), (5, .int (g 3)), (4, .int (g 1)), (0, .ref m), (1, .ref to), (2, .ref a), (3, .ref b)]) (st' := [.ref m]) [(61, .astore 8), (63, .aload_n 0)] (by decide +kernel) rfl ?_
      have k41 := zaddC (g 3) 1 (n := 1) (by decide) (by omega) (by omega)
      have hz42 : ((g 3 + 1).toNatClampNeg : Int) = (g 3 + 1).toInt := znat (by first | omega | decide)
      have hgn3_1 : (g 3 + 1).toNatClampNeg = (g 3).toNatClampNeg + 1 := by omega
      have hb43 := hb40.si hsi58
      refine zr_callV (idx := 140) (j := 274) (by decide +kernel) (by decide +kernel) (show zMe 274 = some zq_X16_newB from rfl) rfl rfl (Nat.le_of_ble_eq_true rfl) rfl rfl hM58 (Nat.le_of_ble_eq_true rfl) (Nat.le_of_ble_eq_true rfl) (c_X16_newB (w := w58) (g3 := (g 3 + 1)) m hM58 hb43 (by first | omega | decide | assumption | exact zr1_1 | exact zr1_0) rfl) (by omega) (fun v64 w64 hp64 => ?_)
      obtain ⟨hsi64, heq64, hp64_0, hp64_1, rfl⟩ := hp64
      have hM64 : w64 m = some (.inl (15, zMo m (zs (zs g 1 (g 1 + 1 + 1)) 3 (g 3 + 1 + 1)) r)) := hp64_0
      show zP _ _ _ _ [.ref (m + 596 + 130 * (g 3 + 1).toNatClampNeg)] _ _ _ _ _
      refine zp_seg (pc' := 69) (lv' := [(9, .ref (m + 596 + 130 * (g 3 + 1).toNatClampNeg)), (8, .ref (m + 596 + 130 * (g 3).toNatClampNeg)), (7, .ref (m + 276 + 2 * (g 1 + 1).toNatClampNeg)), (6, .ref (m + 276 + 2 * (g 1).toNatClampNeg)), (5, .int (g 3)), (4, .int (g 1)), (0, .ref m), (1, .ref to), (2, .ref a), (3, .ref b)]) (st' := []) [(67, .astore 9)] (by decide +kernel) rfl ?_
      have k44 := zaddC (g 1 + 1) 1 (n := 1) (by decide) (by omega) (by omega)
      have hz45 : ((g 1 + 1 + 1).toNatClampNeg : Int) = (g 1 + 1 + 1).toInt := znat (by first | omega | decide)
      have hgn1_2 : (g 1 + 1 + 1).toNatClampNeg = (g 1).toNatClampNeg + 2 := by omega
      have k46 := zaddC (g 3 + 1) 1 (n := 1) (by decide) (by omega) (by omega)
      have hz47 : ((g 3 + 1 + 1).toNatClampNeg : Int) = (g 3 + 1 + 1).toInt := znat (by first | omega | decide)
      have hgn3_2 : (g 3 + 1 + 1).toNatClampNeg = (g 3).toNatClampNeg + 2 := by omega
      refine zp_seg (pc' := 75) (lv' := [(9, .ref (m + 596 + 130 * (g 3 + 1).toNatClampNeg)), (8, .ref (m + 596 + 130 * (g 3).toNatClampNeg)), (7, .ref (m + 276 + 2 * (g 1 + 1).toNatClampNeg)), (6, .ref (m + 276 + 2 * (g 1).toNatClampNeg)), (5, .int (g 3)), (4, .int (g 1)), (0, .ref m), (1, .ref to), (2, .ref a), (3, .ref b)]) (st' := [.ref (m + 276 + 2 * (g 1).toNatClampNeg), .ref a, .ref (m + 596 + 130 * (g 3).toNatClampNeg), .ref m]) [(69, .aload_n 0), (70, .aload 8), (72, .aload_n 2), (73, .aload 6)] (by decide +kernel) rfl ?_
      have hb48 := hb43.si hsi64
      have hb49 : zB w64 (m + 596 + 130 * (g 3).toNatClampNeg) zbZ := hp58_1.ag (fun x hx1 hx2 => (heq64 x ⟨(zx_X16_gcd__2 hx1 hx2 hgb3), (zx_X16_gcd__3 hx1 hx2 hgn3_1 hgb3)⟩))
      have ho75_to := zB.o hb49
      have hb50 : zB w64 a p := hB_a.ag (fun x hx1 hx2 => ((heq64 x ⟨(zx_X16_gcd__4 hx1 hx2 hma hgb3), (zx_X16_gcd__8 hx1 hx2 hma hgn3_1 hgb3)⟩).trans ((heq58 x ⟨(zx_X16_gcd__4 hx1 hx2 hma hgb3), (zx_X16_gcd__7 hx1 hx2 hma hgb3)⟩).trans ((heq52 x ⟨(zx_X16_gcd__4 hx1 hx2 hma hgb3), (zx_X16_gcd__6 hx1 hx2 hma hgn1_1 hgb1 hgb3)⟩).trans (heq46 x ⟨(zx_X16_gcd__4 hx1 hx2 hma hgb3), (zx_X16_gcd__5 hx1 hx2 hma hgb1 hgb3)⟩)))))
      have hb51 : zU w64 (m + 276 + 2 * (g 1).toNatClampNeg) 1000 zaZ := hp46_1.ag (fun x hx1 hx2 => ((heq64 x ⟨(zx_X16_gcd__9 hx1 hx2 hgb1), (zx_X16_gcd__12 hx1 hx2 hgn3_1 hgb1 hgb3)⟩).trans ((heq58 x ⟨(zx_X16_gcd__9 hx1 hx2 hgb1), (zx_X16_gcd__11 hx1 hx2 hgb1 hgb3)⟩).trans (heq52 x ⟨(zx_X16_gcd__9 hx1 hx2 hgb1), (zx_X16_gcd__10 hx1 hx2 hgn1_1 hgb1)⟩))))
      have ho75_c := zU.o hb51
      refine zr_callV (idx := 167) (j := 285) (by decide +kernel) (by decide +kernel) (show zMe 285 = some zq_X16_primitive from rfl) rfl rfl (Nat.le_of_ble_eq_true rfl) rfl rfl hM64 (Nat.le_of_ble_eq_true rfl) (Nat.le_of_ble_eq_true rfl) (c_X16_primitive (w := w64) (g1 := (g 1 + 1 + 1)) m (m + 596 + 130 * (g 3).toNatClampNeg) a (m + 276 + 2 * (g 1).toNatClampNeg) hM64 hb48 ho75_to hb50 ho75_c (by first | omega | decide | assumption | exact zr1_1 | exact zr1_0) (by first | omega | decide | assumption | exact zr1_1 | exact zr1_0) (by first | omega | decide | assumption | exact zr1_1 | exact zr1_0) (by first | omega | decide | assumption | exact zr1_1 | exact zr1_0) (by first | omega | decide | assumption | exact zr1_1 | exact zr1_0) (by first | omega | decide | assumption | exact zr1_1 | exact zr1_0) (by first | omega | decide | assumption | exact zr1_1 | exact zr1_0) (by first | omega | decide | assumption | exact zr1_1 | exact zr1_0) rfl) (by omega) (fun v75 w75 hp75 => ?_)
      obtain ⟨hsi75, heq75, hp75_0, hp75_1, rfl⟩ := hp75
      show zP _ _ _ _ [] _ _ _ _ _
      refine zp_seg (pc' := 84) (lv' := [(9, .ref (m + 596 + 130 * (g 3 + 1).toNatClampNeg)), (8, .ref (m + 596 + 130 * (g 3).toNatClampNeg)), (7, .ref (m + 276 + 2 * (g 1 + 1).toNatClampNeg)), (6, .ref (m + 276 + 2 * (g 1).toNatClampNeg)), (5, .int (g 3)), (4, .int (g 1)), (0, .ref m), (1, .ref to), (2, .ref a), (3, .ref b)]) (st' := [.ref (m + 276 + 2 * (g 1 + 1).toNatClampNeg), .ref b, .ref (m + 596 + 130 * (g 3 + 1).toNatClampNeg), .ref m]) [(78, .aload_n 0), (79, .aload 9), (81, .aload_n 3), (82, .aload 7)] (by decide +kernel) rfl ?_
      have hb52 : w75 m = some (.inl (15, zMo m (zs (zs g 1 (g 1 + 1 + 1)) 3 (g 3 + 1 + 1)) r)) := (heq75 m ⟨(zx_X16_gcd__13 hgb3), (zx_X16_gcd__14 hgb1), (zx_X16_gcd__15 hgn1_2 hgb1)⟩).trans hM64
      have hb53 := hb48.si hsi75
      have hb54 : zB w75 (m + 596 + 130 * (g 3 + 1).toNatClampNeg) zbZ := hp64_1.ag (fun x hx1 hx2 => (heq75 x ⟨(zx_X16_gcd__16 hx1 hx2 hgn3_1 hgb3), (zx_X16_gcd__17 hx1 hx2 hgn3_1 hgb1 hgb3), (zx_X16_gcd__18 hx1 hx2 hgn1_2 hgn3_1 hgb1 hgb3)⟩))
      have ho84_to := zB.o hb54
      have hb55 : zB w75 b q := hB_b.ag (fun x hx1 hx2 => ((heq75 x ⟨(zx_X16_gcd__22 hx1 hx2 hmb hgb3), (zx_X16_gcd__20 hx1 hx2 hmb hgb1 hgb3), (zx_X16_gcd__24 hx1 hx2 hmb hgn1_2 hgb1 hgb3)⟩).trans ((heq64 x ⟨(zx_X16_gcd__19 hx1 hx2 hmb hgb3), (zx_X16_gcd__23 hx1 hx2 hmb hgn3_1 hgb3)⟩).trans ((heq58 x ⟨(zx_X16_gcd__19 hx1 hx2 hmb hgb3), (zx_X16_gcd__22 hx1 hx2 hmb hgb3)⟩).trans ((heq52 x ⟨(zx_X16_gcd__19 hx1 hx2 hmb hgb3), (zx_X16_gcd__21 hx1 hx2 hmb hgn1_1 hgb1 hgb3)⟩).trans (heq46 x ⟨(zx_X16_gcd__19 hx1 hx2 hmb hgb3), (zx_X16_gcd__20 hx1 hx2 hmb hgb1 hgb3)⟩))))))
      have hb56 : zU w75 (m + 276 + 2 * (g 1 + 1).toNatClampNeg) 1000 zaZ := hp52_1.ag (fun x hx1 hx2 => ((heq75 x ⟨(zx_X16_gcd__26 hx1 hx2 hgn1_1 hgb1 hgb3), (zx_X16_gcd__28 hx1 hx2 hgn1_1 hgb1), (zx_X16_gcd__29 hx1 hx2 hgn1_1 hgn1_2 hgb1)⟩).trans ((heq64 x ⟨(zx_X16_gcd__25 hx1 hx2 hgn1_1 hgb1), (zx_X16_gcd__27 hx1 hx2 hgn1_1 hgn3_1 hgb1 hgb3)⟩).trans (heq58 x ⟨(zx_X16_gcd__25 hx1 hx2 hgn1_1 hgb1), (zx_X16_gcd__26 hx1 hx2 hgn1_1 hgb1 hgb3)⟩))))
      have ho84_c := zU.o hb56
      refine zr_callV (idx := 167) (j := 285) (by decide +kernel) (by decide +kernel) (show zMe 285 = some zq_X16_primitive from rfl) rfl rfl (Nat.le_of_ble_eq_true rfl) rfl rfl hb52 (Nat.le_of_ble_eq_true rfl) (Nat.le_of_ble_eq_true rfl) (c_X16_primitive (w := w75) (g1 := (g 1 + 1 + 1)) m (m + 596 + 130 * (g 3 + 1).toNatClampNeg) b (m + 276 + 2 * (g 1 + 1).toNatClampNeg) hb52 hb53 ho84_to hb55 ho84_c (by first | omega | decide | assumption | exact zr1_1 | exact zr1_0) (by first | omega | decide | assumption | exact zr1_1 | exact zr1_0) (by first | omega | decide | assumption | exact zr1_1 | exact zr1_0) (by first | omega | decide | assumption | exact zr1_1 | exact zr1_0) (by first | omega | decide | assumption | exact zr1_1 | exact zr1_0) (by first | omega | decide | assumption | exact zr1_1 | exact zr1_0) (by first | omega | decide | assumption | exact zr1_1 | exact zr1_0) (by first | omega | decide | assumption | exact zr1_1 | exact zr1_0) rfl) (by omega) (fun v84 w84 hp84 => ?_)
      obtain ⟨hsi84, heq84, hp84_0, hp84_1, rfl⟩ := hp84
      show zP _ _ _ _ [] _ _ _ _ _
      refine zp_seg (pc' := 89) (lv' := [(9, .ref (m + 596 + 130 * (g 3 + 1).toNatClampNeg)), (8, .ref (m + 596 + 130 * (g 3).toNatClampNeg)), (7, .ref (m + 276 + 2 * (g 1 + 1).toNatClampNeg)), (6, .ref (m + 276 + 2 * (g 1).toNatClampNeg)), (5, .int (g 3)), (4, .int (g 1)), (0, .ref m), (1, .ref to), (2, .ref a), (3, .ref b)]) (st' := [.ref (m + 596 + 130 * (g 3).toNatClampNeg)]) [(87, .aload 8)] (by decide +kernel) rfl ?_
      obtain ⟨n57, hb58, hb59, hb60, hb61, -⟩ := id hp75_0
      have kn57 := zrng n57
      have hb62 : w84 (m + 596 + 130 * (g 3).toNatClampNeg) = some (.inl (11, [.ref (m + 596 + 130 * (g 3).toNatClampNeg + 1), .int n57])) := (heq84 (m + 596 + 130 * (g 3).toNatClampNeg) ⟨(zx_X16_gcd__30 hgn3_1 hgb3), (zx_X16_gcd__31 hgn1_1 hgb1 hgb3), (zx_X16_gcd__32 hgn1_2 hgb1 hgb3)⟩).trans hb58
      refine zr_get (idx := 93) (k := 1) (v := .int n57) (by decide +kernel) (by decide +kernel) hb62 rfl ?_
      refine zp_seg (pc' := 93) (lv' := [(9, .ref (m + 596 + 130 * (g 3 + 1).toNatClampNeg)), (8, .ref (m + 596 + 130 * (g 3).toNatClampNeg)), (7, .ref (m + 276 + 2 * (g 1 + 1).toNatClampNeg)), (6, .ref (m + 276 + 2 * (g 1).toNatClampNeg)), (5, .int (g 3)), (4, .int (g 1)), (0, .ref m), (1, .ref to), (2, .ref a), (3, .ref b)]) (st' := [.int 1, .int n57]) [(92, .iconst 1)] (by decide +kernel) rfl ?_
      have hb63 : w84 m = some (.inl (15, zMo m (zs (zs g 1 (g 1 + 1 + 1)) 3 (g 3 + 1 + 1)) r)) := (heq84 m ⟨(zx_X16_gcd__33 hgn3_1 hgb3), (zx_X16_gcd__34 hgn1_1 hgb1), (zx_X16_gcd__15 hgn1_2 hgb1)⟩).trans hb52
      have hJ122 : ∀ (wL122 : zM) (Ap : zA2), (zSI w84 wL122) → (∀ x, ((x < to ∨ to + 130 ≤ x) ∧ (x < m + 276 + 2 * (g 1 + 1 + 1).toNatClampNeg ∨ m + 276 + 2 * (g 1 + 1 + 1).toNatClampNeg + (320 - 2 * (g 1 + 1 + 1).toNatClampNeg) ≤ x) ∧ (x < m + 596 + 130 * (g 3 + 1 + 1).toNatClampNeg ∨ m + 596 + 130 * (g 3 + 1 + 1).toNatClampNeg + (5720 - 130 * (g 3 + 1 + 1).toNatClampNeg) ≤ x) ∧ (x < m + 3 ∨ m + 3 + 1 ≤ x) ∧ (x < m + 5 ∨ m + 5 + 64 ≤ x)) ∧ x ≠ m → wL122 x = w84 x) → (zB wL122 to Ap) → (wL122 m = some (.inl (15, zMo m (zs (zs g 1 (g 1 + 1 + 1)) 3 (g 3 + 1 + 1)) r))) → (zCd (zprim p) (zprim q) Ap) → zP (d + 1) zq_X16_gcd_ 122 [(0, .ref m), (1, .ref to), (4, .int (g 1)), (5, .int (g 3)), (6, .ref (m + 276 + 2 * (g 1).toNatClampNeg)), (7, .ref (m + 276 + 2 * (g 1 + 1).toNatClampNeg))] [] wL122 sz 0 0 Post := by
        intro wL122 Ap hsiL122 heqL122 hBp hmL122 hCp
        refine zp_seg (pc' := 129) (lv' := [(0, .ref m), (1, .ref to), (4, .int (g 1)), (5, .int (g 3)), (6, .ref (m + 276 + 2 * (g 1).toNatClampNeg)), (7, .ref (m + 276 + 2 * (g 1 + 1).toNatClampNeg))]) (st' := [.ref (m + 276 + 2 * (g 1 + 1).toNatClampNeg), .ref (m + 276 + 2 * (g 1).toNatClampNeg), .ref (m + 276 + 2 * (g 1).toNatClampNeg), .ref m]) [(122, .aload_n 0), (123, .aload 6), (125, .aload 6), (127, .aload 7)] (by decide +kernel) rfl ?_
        have hb64 := hb53.si (hsi84.tr hsiL122)
        have hb65 : zU wL122 (m + 276 + 2 * (g 1).toNatClampNeg) 1000 (zcont p) := hp75_1.ag (fun x hx1 hx2 => ((heqL122 x ⟨⟨(zx_X16_gcd__36 hx1 hx2 hmt hgb1 hgb3), (zx_X16_gcd__35 hx1 hx2 hgn1_2 hgb1), (zx_X16_gcd__37 hx1 hx2 hgn3_2 hgb1 hgb3), (zx_X16_gcd__38 hx1 hx2 hgb1), (zx_X16_gcd__39 hx1 hx2 hgb1)⟩, (zx_X16_gcd__40 hx1 hx2 hgb1)⟩).trans (heq84 x ⟨(zx_X16_gcd__12 hx1 hx2 hgn3_1 hgb1 hgb3), (zx_X16_gcd__10 hx1 hx2 hgn1_1 hgb1), (zx_X16_gcd__35 hx1 hx2 hgn1_2 hgb1)⟩)))
        have ho129_to := zU.o hb65
        have hb66 : zU wL122 (m + 276 + 2 * (g 1 + 1).toNatClampNeg) 1000 (zcont q) := hp84_1.ag (fun x hx1 hx2 => (heqL122 x ⟨⟨(zx_X16_gcd__41 hx1 hx2 hmt hgn1_1 hgb1 hgb3), (zx_X16_gcd__29 hx1 hx2 hgn1_1 hgn1_2 hgb1), (zx_X16_gcd__42 hx1 hx2 hgn1_1 hgn3_2 hgb1 hgb3), (zx_X16_gcd__43 hx1 hx2 hgn1_1 hgb1), (zx_X16_gcd__44 hx1 hx2 hgn1_1 hgb1)⟩, (zx_X16_gcd__45 hx1 hx2 hgn1_1 hgb1)⟩))
        refine zr_callV (idx := 125) (j := 270) (by decide +kernel) (by decide +kernel) (show zMe 270 = some zq_X16_gcd from rfl) rfl rfl (Nat.le_of_ble_eq_true rfl) rfl rfl hmL122 (Nat.le_of_ble_eq_true rfl) (Nat.le_of_ble_eq_true rfl) (c_X16_gcd (w := wL122) (g1 := (g 1 + 1 + 1)) m (m + 276 + 2 * (g 1).toNatClampNeg) (m + 276 + 2 * (g 1).toNatClampNeg) (m + 276 + 2 * (g 1 + 1).toNatClampNeg) hmL122 hb64 ho129_to hb65 hb66 (by first | omega | decide | assumption | exact zr1_1 | exact zr1_0) (by first | omega | decide | assumption | exact zr1_1 | exact zr1_0) (by first | omega | decide | assumption | exact zr1_1 | exact zr1_0) (by first | omega | decide | assumption | exact zr1_1 | exact zr1_0) (by first | omega | decide | assumption | exact zr1_1 | exact zr1_0) (by first | omega | decide | assumption | exact zr1_1 | exact zr1_0) (by first | omega | decide | assumption | exact zr1_1 | exact zr1_0) rfl) (by omega) (fun v129 w129 hp129 => ?_)
        obtain ⟨hsi129, heq129, hp129_0, rfl⟩ := hp129
        show zP _ _ _ _ [] _ _ _ _ _
        have hA9 := (hCp.l (by omega)).2.2
        refine zp_seg (pc' := 137) (lv' := [(0, .ref m), (1, .ref to), (4, .int (g 1)), (5, .int (g 3)), (6, .ref (m + 276 + 2 * (g 1).toNatClampNeg)), (7, .ref (m + 276 + 2 * (g 1 + 1).toNatClampNeg))]) (st' := [.ref (m + 276 + 2 * (g 1).toNatClampNeg), .ref to, .ref to, .ref m]) [(132, .aload_n 0), (133, .aload_n 1), (134, .aload_n 1), (135, .aload 6)] (by decide +kernel) rfl ?_
        have hb67 : w129 m = some (.inl (15, zMo m (zs (zs g 1 (g 1 + 1 + 1)) 3 (g 3 + 1 + 1)) r)) := (heq129 m ⟨(zx_X16_gcd__14 hgb1), (zx_X16_gcd__15 hgn1_2 hgb1)⟩).trans hmL122
        have hb68 := hb64.si hsi129
        have hb69 : zB w129 to Ap := hBp.ag (fun x hx1 hx2 => (heq129 x ⟨(zx_X16_gcd__46 hx1 hx2 hmt hgb1 hgb3), (zx_X16_gcd__47 hx1 hx2 hmt hgn1_2 hgb1 hgb3)⟩))
        have ho137_to := zB.o hb69
        refine zr_callV (idx := 178) (j := 279) (by decide +kernel) (by decide +kernel) (show zMe 279 = some zq_X16_timesU from rfl) rfl rfl (Nat.le_of_ble_eq_true rfl) rfl rfl hb67 (Nat.le_of_ble_eq_true rfl) (Nat.le_of_ble_eq_true rfl) (c_X16_timesU (w := w129) (g1 := (g 1 + 1 + 1)) m to to (m + 276 + 2 * (g 1).toNatClampNeg) hb67 hb68 ho137_to hb69 hp129_0 (by first | omega | decide | assumption | exact zr1_1 | exact zr1_0) (by first | omega | decide | assumption | exact zr1_1 | exact zr1_0) (by first | omega | decide | assumption | exact zr1_1 | exact zr1_0) (by first | omega | decide | assumption | exact zr1_1 | exact zr1_0) (by first | omega | decide | assumption | exact zr1_1 | exact zr1_0) (by first | omega | decide | assumption | exact zr1_1 | exact zr1_0) (by first | omega | decide | assumption | exact zr1_1 | exact zr1_0) rfl) (by omega) (fun v137 w137 hp137 => ?_)
        obtain ⟨hsi137, heq137, hp137_0, rfl⟩ := hp137
        show zP _ _ _ _ [] _ _ _ _ _
        have hb70 : w137 m = some (.inl (15, zMo m (zs (zs g 1 (g 1 + 1 + 1)) 3 (g 3 + 1 + 1)) r)) := (heq137 m ⟨(zx_X16_gcd__1 hmt hgb3), (zx_X16_gcd__15 hgn1_2 hgb1)⟩).trans hb67
        exact (hJ140 w137 ((zbM (zbC (zgcd (zcont p) (zcont q))) Ap)) (((g 1 + 1 + 1))) (((g 3 + 1 + 1))) ((((((((hsi46.tr hsi52).tr hsi58).tr hsi64).tr hsi75).tr hsi84).tr hsiL122).tr hsi129).tr hsi137) (fun x hx => ((heq137 x ⟨hx.1.1, (zx_X16_gcd__53 hx.1.2.1 hgn1_2 hgb1)⟩).trans ((heq129 x ⟨(zx_X16_gcd__49 hx.1.2.1 hgb1), (zx_X16_gcd__53 hx.1.2.1 hgn1_2 hgb1)⟩).trans ((heqL122 x ⟨⟨hx.1.1, (zx_X16_gcd__53 hx.1.2.1 hgn1_2 hgb1), (zx_X16_gcd__54 hx.1.2.2.1 hx.1.2.2.2.2 hgn3_2 hgb3), hx.1.2.2.2.1, hx.1.2.2.2.2⟩, hx.2⟩).trans ((heq84 x ⟨(zx_X16_gcd__52 hx.1.2.2.1 hx.1.2.2.2.2 hgn3_1 hgb3), (zx_X16_gcd__50 hx.1.2.1 hgn1_1 hgb1), (zx_X16_gcd__53 hx.1.2.1 hgn1_2 hgb1)⟩).trans ((heq75 x ⟨(zx_X16_gcd__51 hx.1.2.2.1 hx.1.2.2.2.2 hgb3), (zx_X16_gcd__49 hx.1.2.1 hgb1), (zx_X16_gcd__53 hx.1.2.1 hgn1_2 hgb1)⟩).trans ((heq64 x ⟨(zx_X16_gcd__48 hx.2), (zx_X16_gcd__52 hx.1.2.2.1 hx.1.2.2.2.2 hgn3_1 hgb3)⟩).trans ((heq58 x ⟨(zx_X16_gcd__48 hx.2), (zx_X16_gcd__51 hx.1.2.2.1 hx.1.2.2.2.2 hgb3)⟩).trans ((heq52 x ⟨(zx_X16_gcd__48 hx.2), (zx_X16_gcd__50 hx.1.2.1 hgn1_1 hgb1)⟩).trans (heq46 x ⟨(zx_X16_gcd__48 hx.2), (zx_X16_gcd__49 hx.1.2.1 hgb1)⟩)))))))))) hp137_0 (by
              exact hb70) (by
              first
              | exact zCd_0l (by omega)
              | exact zCd_0r (by omega)
              | exact zCd_p (by omega) hCp)).more (zfa1 rfl (zfa1 rfl (zfa1 rfl (zfa1 rfl (zfa0)))))
      refine zp_if (i := .if_icmp .eq 12) (c := n57 = 1) (t := 105) (e := 96) (lv' := [(9, .ref (m + 596 + 130 * (g 3 + 1).toNatClampNeg)), (8, .ref (m + 596 + 130 * (g 3).toNatClampNeg)), (7, .ref (m + 276 + 2 * (g 1 + 1).toNatClampNeg)), (6, .ref (m + 276 + 2 * (g 1).toNatClampNeg)), (5, .int (g 3)), (4, .int (g 1)), (0, .ref m), (1, .ref to), (2, .ref a), (3, .ref b)]) (st' := []) (by decide +kernel) rfl (fun cc93 => ?_) (fun cc93 => ?_)
      ·
        have f71 := zeqI cc93
        rw [show (1 : Int32).toInt = 1 from by decide] at f71
        refine zp_seg (pc' := 107) (lv' := [(9, .ref (m + 596 + 130 * (g 3 + 1).toNatClampNeg)), (8, .ref (m + 596 + 130 * (g 3).toNatClampNeg)), (7, .ref (m + 276 + 2 * (g 1 + 1).toNatClampNeg)), (6, .ref (m + 276 + 2 * (g 1).toNatClampNeg)), (5, .int (g 3)), (4, .int (g 1)), (0, .ref m), (1, .ref to), (2, .ref a), (3, .ref b)]) (st' := [.int 1, .ref to]) [(105, .aload_n 1), (106, .iconst 1)] (by decide +kernel) rfl ?_
        have hb72 := hBo_to.si (((((hsi46.tr hsi52).tr hsi58).tr hsi64).tr hsi75).tr hsi84)
        obtain ⟨n73, hb74, hb75, -⟩ := id hb72
        have kn73 := zrng n73
        refine zr_callV (idx := 158) (j := 245) (by decide +kernel) (by decide +kernel) (show zMe 245 = some zq_X12_number from rfl) rfl rfl (Nat.le_of_ble_eq_true rfl) rfl rfl hb74 (Nat.le_of_ble_eq_true rfl) (Nat.le_of_ble_eq_true rfl) (c_X12_number (w := w84) to 1 hb72 (by first | omega | decide | assumption | exact zr1_1 | exact zr1_0)) (by omega) (fun v107 w107 hp107 => ?_)
        obtain ⟨hsi107, heq107, hp107_0, rfl⟩ := hp107
        show zP _ _ _ _ [] _ _ _ _ _
        refine zp_seg (pc' := 122) (lv' := [(9, .ref (m + 596 + 130 * (g 3 + 1).toNatClampNeg)), (8, .ref (m + 596 + 130 * (g 3).toNatClampNeg)), (7, .ref (m + 276 + 2 * (g 1 + 1).toNatClampNeg)), (6, .ref (m + 276 + 2 * (g 1).toNatClampNeg)), (5, .int (g 3)), (4, .int (g 1)), (0, .ref m), (1, .ref to), (2, .ref a), (3, .ref b)]) (st' := []) [(110, .goto 12)] (by decide +kernel) rfl ?_
        have hb78 : w107 m = some (.inl (15, zMo m (zs (zs g 1 (g 1 + 1 + 1)) 3 (g 3 + 1 + 1)) r)) := (heq107 m (zx_X16_gcd__1 hmt hgb3)).trans hb63
        exact (hJ122 w107 ((zbC (zaC (zf 1)))) hsi107 (fun x hx => (heq107 x hx.1.1)) hp107_0 hb78 (by
              first
              | exact ⟨hp119_1.1, hp119_1.2.1, fun _ => hp119_1.2.2.1⟩
              | (rw [zf_1]; exact zCd_1 _ _))).more (zfa1 rfl (zfa1 rfl (zfa1 rfl (zfa1 rfl (zfa1 rfl (zfa1 rfl (zfa0)))))))
      ·
        have f79 := zneI cc93
        rw [show (1 : Int32).toInt = 1 from by decide] at f79
        refine zp_seg (pc' := 98) (lv' := [(9, .ref (m + 596 + 130 * (g 3 + 1).toNatClampNeg)), (8, .ref (m + 596 + 130 * (g 3).toNatClampNeg)), (7, .ref (m + 276 + 2 * (g 1 + 1).toNatClampNeg)), (6, .ref (m + 276 + 2 * (g 1).toNatClampNeg)), (5, .int (g 3)), (4, .int (g 1)), (0, .ref m), (1, .ref to), (2, .ref a), (3, .ref b)]) (st' := [.ref (m + 596 + 130 * (g 3 + 1).toNatClampNeg)]) [(96, .aload 9)] (by decide +kernel) rfl ?_
        obtain ⟨n80, hb81, hb82, hb83, hb84, -⟩ := id hp84_0
        have kn80 := zrng n80
        refine zr_get (idx := 93) (k := 1) (v := .int n80) (by decide +kernel) (by decide +kernel) hb81 rfl ?_
        refine zp_seg (pc' := 102) (lv' := [(9, .ref (m + 596 + 130 * (g 3 + 1).toNatClampNeg)), (8, .ref (m + 596 + 130 * (g 3).toNatClampNeg)), (7, .ref (m + 276 + 2 * (g 1 + 1).toNatClampNeg)), (6, .ref (m + 276 + 2 * (g 1).toNatClampNeg)), (5, .int (g 3)), (4, .int (g 1)), (0, .ref m), (1, .ref to), (2, .ref a), (3, .ref b)]) (st' := [.int 1, .int n80]) [(101, .iconst 1)] (by decide +kernel) rfl ?_
        refine zp_if (i := .if_icmp .ne 11) (c := ¬ n80 = 1) (t := 113) (e := 105) (lv' := [(9, .ref (m + 596 + 130 * (g 3 + 1).toNatClampNeg)), (8, .ref (m + 596 + 130 * (g 3).toNatClampNeg)), (7, .ref (m + 276 + 2 * (g 1 + 1).toNatClampNeg)), (6, .ref (m + 276 + 2 * (g 1).toNatClampNeg)), (5, .int (g 3)), (4, .int (g 1)), (0, .ref m), (1, .ref to), (2, .ref a), (3, .ref b)]) (st' := []) (by decide +kernel) rfl (fun cc102 => ?_) (fun cc102 => ?_)
        ·
          have f85 := zneI cc102
          rw [show (1 : Int32).toInt = 1 from by decide] at f85
          refine zp_seg (pc' := 119) (lv' := [(9, .ref (m + 596 + 130 * (g 3 + 1).toNatClampNeg)), (8, .ref (m + 596 + 130 * (g 3).toNatClampNeg)), (7, .ref (m + 276 + 2 * (g 1 + 1).toNatClampNeg)), (6, .ref (m + 276 + 2 * (g 1).toNatClampNeg)), (5, .int (g 3)), (4, .int (g 1)), (0, .ref m), (1, .ref to), (2, .ref a), (3, .ref b)]) (st' := [.ref (m + 596 + 130 * (g 3 + 1).toNatClampNeg), .ref (m + 596 + 130 * (g 3).toNatClampNeg), .ref to, .ref m]) [(113, .aload_n 0), (114, .aload_n 1), (115, .aload 8), (117, .aload 9)] (by decide +kernel) rfl ?_
          have hb86 := hb53.si hsi84
          have hb87 := hBo_to.si (((((hsi46.tr hsi52).tr hsi58).tr hsi64).tr hsi75).tr hsi84)
          have hb88 : zB w84 (m + 596 + 130 * (g 3).toNatClampNeg) (zprim p) := hp75_0.ag (fun x hx1 hx2 => (heq84 x ⟨(zx_X16_gcd__3 hx1 hx2 hgn3_1 hgb3), (zx_X16_gcd__55 hx1 hx2 hgn1_1 hgb1 hgb3), (zx_X16_gcd__56 hx1 hx2 hgn1_2 hgb1 hgb3)⟩))
          refine zr_callV (idx := 174) (j := 290) (by decide +kernel) (by decide +kernel) (show zMe 290 = some zq_X16_gcdK from rfl) rfl rfl (Nat.le_of_ble_eq_true rfl) rfl rfl hb63 (Nat.le_of_ble_eq_true rfl) (Nat.le_of_ble_eq_true rfl) (c_X16_gcdK (w := w84) (g1 := (g 1 + 1 + 1)) (g3 := (g 3 + 1 + 1)) m to (m + 596 + 130 * (g 3).toNatClampNeg) (m + 596 + 130 * (g 3 + 1).toNatClampNeg) hb63 hb86 hb87 hb88 hp84_0 (by first | omega | decide | assumption | exact zr1_1 | exact zr1_0) (by first | omega | decide | assumption | exact zr1_1 | exact zr1_0) (by first | omega | decide | assumption | exact zr1_1 | exact zr1_0) (by first | omega | decide | assumption | exact zr1_1 | exact zr1_0) (by first | omega | decide | assumption | exact zr1_1 | exact zr1_0) (by first | omega | decide | assumption | exact zr1_1 | exact zr1_0) (by first | omega | decide | assumption | exact zr1_1 | exact zr1_0) (by first | omega | decide | assumption | exact zr1_1 | exact zr1_0) (by first | omega | decide | assumption | exact zr1_1 | exact zr1_0) (by first | omega | decide | assumption | exact zr1_1 | exact zr1_0) (by first | omega | decide | assumption | exact zr1_1 | exact zr1_0) (by have h9 := hpq9.o; omega) rfl rfl) (by omega) (fun v119 w119 hp119 => ?_)
          obtain ⟨An_119, hsi119, heq119, hp119_0, hp119_1, rfl⟩ := hp119
          show zP _ _ _ _ [] _ _ _ _ _
          have hb89 : w119 m = some (.inl (15, zMo m (zs (zs g 1 (g 1 + 1 + 1)) 3 (g 3 + 1 + 1)) r)) := (heq119 m ⟨(zx_X16_gcd__1 hmt hgb3), (zx_X16_gcd__15 hgn1_2 hgb1), (zx_X16_gcd__57 hgn3_2 hgb3), (zx_X16_gcd__58), (zx_X16_gcd__59)⟩).trans hb63
          exact (hJ122 w119 (An_119) hsi119 (fun x hx => (heq119 x ⟨hx.1.1, hx.1.2.1, hx.1.2.2.1, hx.1.2.2.2.1, hx.1.2.2.2.2⟩)) hp119_0 hb89 (by
                first
                | exact ⟨hp119_1.1, hp119_1.2.1, fun _ => hp119_1.2.2.1⟩
                | (rw [zf_1]; exact zCd_1 _ _))).more (zfa1 rfl (zfa1 rfl (zfa1 rfl (zfa1 rfl (zfa1 rfl (zfa1 rfl (zfa0)))))))
        ·
          replace cc102 := Classical.not_not.mp cc102
          have f90 := zeqI cc102
          rw [show (1 : Int32).toInt = 1 from by decide] at f90
          refine zp_seg (pc' := 107) (lv' := [(9, .ref (m + 596 + 130 * (g 3 + 1).toNatClampNeg)), (8, .ref (m + 596 + 130 * (g 3).toNatClampNeg)), (7, .ref (m + 276 + 2 * (g 1 + 1).toNatClampNeg)), (6, .ref (m + 276 + 2 * (g 1).toNatClampNeg)), (5, .int (g 3)), (4, .int (g 1)), (0, .ref m), (1, .ref to), (2, .ref a), (3, .ref b)]) (st' := [.int 1, .ref to]) [(105, .aload_n 1), (106, .iconst 1)] (by decide +kernel) rfl ?_
          have hb91 := hBo_to.si (((((hsi46.tr hsi52).tr hsi58).tr hsi64).tr hsi75).tr hsi84)
          obtain ⟨n92, hb93, hb94, -⟩ := id hb91
          have kn92 := zrng n92
          refine zr_callV (idx := 158) (j := 245) (by decide +kernel) (by decide +kernel) (show zMe 245 = some zq_X12_number from rfl) rfl rfl (Nat.le_of_ble_eq_true rfl) rfl rfl hb93 (Nat.le_of_ble_eq_true rfl) (Nat.le_of_ble_eq_true rfl) (c_X12_number (w := w84) to 1 hb91 (by first | omega | decide | assumption | exact zr1_1 | exact zr1_0)) (by omega) (fun v107 w107 hp107 => ?_)
          obtain ⟨hsi107, heq107, hp107_0, rfl⟩ := hp107
          show zP _ _ _ _ [] _ _ _ _ _
          refine zp_seg (pc' := 122) (lv' := [(9, .ref (m + 596 + 130 * (g 3 + 1).toNatClampNeg)), (8, .ref (m + 596 + 130 * (g 3).toNatClampNeg)), (7, .ref (m + 276 + 2 * (g 1 + 1).toNatClampNeg)), (6, .ref (m + 276 + 2 * (g 1).toNatClampNeg)), (5, .int (g 3)), (4, .int (g 1)), (0, .ref m), (1, .ref to), (2, .ref a), (3, .ref b)]) (st' := []) [(110, .goto 12)] (by decide +kernel) rfl ?_
          have hb97 : w107 m = some (.inl (15, zMo m (zs (zs g 1 (g 1 + 1 + 1)) 3 (g 3 + 1 + 1)) r)) := (heq107 m (zx_X16_gcd__1 hmt hgb3)).trans hb63
          exact (hJ122 w107 ((zbC (zaC (zf 1)))) hsi107 (fun x hx => (heq107 x hx.1.1)) hp107_0 hb97 (by
                first
                | exact ⟨hp119_1.1, hp119_1.2.1, fun _ => hp119_1.2.2.1⟩
                | (rw [zf_1]; exact zCd_1 _ _))).more (zfa1 rfl (zfa1 rfl (zfa1 rfl (zfa1 rfl (zfa1 rfl (zfa1 rfl (zfa0)))))))
    ·
      replace cc23 := Classical.not_not.mp cc23
      have f98 := zeqI cc23
      rw [show (0 : Int32).toInt = 0 from by decide] at f98
      refine zp_seg (pc' := 28) (lv' := [(5, .int (g 3)), (4, .int (g 1)), (0, .ref m), (1, .ref to), (2, .ref a), (3, .ref b)]) (st' := [.ref a, .ref to]) [(26, .aload_n 1), (27, .aload_n 2)] (by decide +kernel) rfl ?_
      refine zr_get (idx := 93) (k := 1) (v := .int n5) (by decide +kernel) (by decide +kernel) hb6 rfl ?_
      refine zp_if (i := .ifCond .ne 7) (c := ¬ n5 = 0) (t := 38) (e := 34) (lv' := [(5, .int (g 3)), (4, .int (g 1)), (0, .ref m), (1, .ref to), (2, .ref a), (3, .ref b)]) (st' := [.ref to]) (by decide +kernel) rfl (fun cc31 => ?_) (fun cc31 => ?_)
      ·
        have f99 := zneI cc31
        rw [show (0 : Int32).toInt = 0 from by decide] at f99
        refine zp_seg (pc' := 39) (lv' := [(5, .int (g 3)), (4, .int (g 1)), (0, .ref m), (1, .ref to), (2, .ref a), (3, .ref b)]) (st' := [.ref a, .ref to]) [(38, .aload_n 2)] (by decide +kernel) rfl ?_
        refine zr_callS (idx := 113) (j := 275) (by decide +kernel) (by decide +kernel) (by decide) (show zMe 275 = some zq_X16_set_ from rfl) rfl rfl (Nat.le_of_ble_eq_true rfl) rfl rfl (Nat.le_of_ble_eq_true rfl) (Nat.le_of_ble_eq_true rfl) (c_X16_set_ (w := w) to a hBo_to hB_a (by first | omega | decide | assumption | exact zr1_1 | exact zr1_0)) (by omega) (fun v39 w39 hp39 => ?_)
        obtain ⟨hsi39, heq39, hp39_0, rfl⟩ := hp39
        show zP _ _ _ _ [] _ _ _ _ _
        refine zp_seg (pc' := 140) (lv' := [(5, .int (g 3)), (4, .int (g 1)), (0, .ref m), (1, .ref to), (2, .ref a), (3, .ref b)]) (st' := []) [(42, .goto 98)] (by decide +kernel) rfl ?_
        have hb100 : w39 m = some (.inl (15, zMo m g r)) := (heq39 m (zx_X16_gcd__1 hmt hgb3)).trans hm
        exact (hJ140 w39 (p) ((g 1)) ((g 3)) hsi39 (fun x hx => (heq39 x hx.1.1)) hp39_0 (by
              exact hb100) (by
              first
              | exact zCd_0l (by omega)
              | exact zCd_0r (by omega)
              | exact zCd_p (by omega) hCp)).more (zfa1 rfl (zfa1 rfl (zfa1 rfl (zfa1 rfl (zfa0)))))
      ·
        replace cc31 := Classical.not_not.mp cc31
        have f101 := zeqI cc31
        rw [show (0 : Int32).toInt = 0 from by decide] at f101
        refine zp_seg (pc' := 39) (lv' := [(5, .int (g 3)), (4, .int (g 1)), (0, .ref m), (1, .ref to), (2, .ref a), (3, .ref b)]) (st' := [.ref b, .ref to]) [(34, .aload_n 3), (35, .goto 4)] (by decide +kernel) rfl ?_
        refine zr_callS (idx := 113) (j := 275) (by decide +kernel) (by decide +kernel) (by decide) (show zMe 275 = some zq_X16_set_ from rfl) rfl rfl (Nat.le_of_ble_eq_true rfl) rfl rfl (Nat.le_of_ble_eq_true rfl) (Nat.le_of_ble_eq_true rfl) (c_X16_set_ (w := w) to b hBo_to hB_b (by first | omega | decide | assumption | exact zr1_1 | exact zr1_0)) (by omega) (fun v39 w39 hp39 => ?_)
        obtain ⟨hsi39, heq39, hp39_0, rfl⟩ := hp39
        show zP _ _ _ _ [] _ _ _ _ _
        refine zp_seg (pc' := 140) (lv' := [(5, .int (g 3)), (4, .int (g 1)), (0, .ref m), (1, .ref to), (2, .ref a), (3, .ref b)]) (st' := []) [(42, .goto 98)] (by decide +kernel) rfl ?_
        have hb102 : w39 m = some (.inl (15, zMo m g r)) := (heq39 m (zx_X16_gcd__1 hmt hgb3)).trans hm
        exact (hJ140 w39 (q) ((g 1)) ((g 3)) hsi39 (fun x hx => (heq39 x hx.1.1)) hp39_0 (by
              exact hb102) (by
              first
              | exact zCd_0l (by omega)
              | exact zCd_0r (by omega)
              | exact zCd_p (by omega) hCp)).more (zfa1 rfl (zfa1 rfl (zfa1 rfl (zfa1 rfl (zfa0)))))
