theorem zx_X16_poke_0 {GZ9_138_0 m x : Nat} (h0 : m + 596 + 130 * GZ9_138_0 ≤ x) (h1 : x < m + 596 + 130 * GZ9_138_0 + 130) (h2 : GZ9_138_0 = 0) : x < m ∨ m + 1 ≤ x := by omega
theorem zx_X16_poke_1 {GZ9_138_0 GZ9_138_1 m x : Nat} (h0 : m + 596 + 130 * GZ9_138_0 ≤ x) (h1 : x < m + 596 + 130 * GZ9_138_0 + 130) (h2 : GZ9_138_0 = 0) (h3 : GZ9_138_1 = 1) : x < m + 596 + 130 * GZ9_138_1 ∨ m + 596 + 130 * GZ9_138_1 + 130 ≤ x := by omega
theorem zx_X16_poke_2 {GZ9_138_0 GZ9_138_1 m x : Nat} (h0 : m + 596 + 130 * GZ9_138_1 ≤ x) (h1 : x < m + 596 + 130 * GZ9_138_1 + 130) (h2 : GZ9_138_0 = 0) (h3 : GZ9_138_1 = 1) : x < m + 596 + 130 * GZ9_138_0 ∨ m + 596 + 130 * GZ9_138_0 + 130 ≤ x := by omega
theorem zx_X16_poke_3 {GZ9_138_0 m : Nat} (h0 : GZ9_138_0 = 0) : m < m + 596 + 130 * GZ9_138_0 ∨ m + 596 + 130 * GZ9_138_0 + 130 ≤ m := by omega
theorem zx_X16_poke_4 {GZ9_138_1 m : Nat} (h0 : GZ9_138_1 = 1) : m < m + 596 + 130 * GZ9_138_1 ∨ m + 596 + 130 * GZ9_138_1 + 130 ≤ m := by omega
theorem zx_X16_poke_5 {GZ9_138_0 m : Nat} (h0 : GZ9_138_0 = 0) : m < m + 276 + 2 * GZ9_138_0 ∨ m + 276 + 2 * GZ9_138_0 + (320 - 2 * GZ9_138_0) ≤ m := by omega
theorem zx_X16_poke_6 {GZ9_138_2 m : Nat} (h0 : GZ9_138_2 = 2) : m < m + 596 + 130 * GZ9_138_2 ∨ m + 596 + 130 * GZ9_138_2 + (5720 - 130 * GZ9_138_2) ≤ m := by omega
theorem zx_X16_poke_7 {m : Nat}  : m < m + 3 ∨ m + 3 + 1 ≤ m := by omega
theorem zx_X16_poke_8 {m : Nat}  : m < m + 5 ∨ m + 5 + 64 ≤ m := by omega
theorem zx_X16_poke_9 {m x : Nat} (h0 : x < m + 0 ∨ m + 0 + 8322 ≤ x) : x < m ∨ m + 1 ≤ x := by omega
theorem zx_X16_poke_10 {GZ9_138_0 m x : Nat} (h0 : x < m + 0 ∨ m + 0 + 8322 ≤ x) (h1 : GZ9_138_0 = 0) : x < m + 596 + 130 * GZ9_138_0 ∨ m + 596 + 130 * GZ9_138_0 + 130 ≤ x := by omega
theorem zx_X16_poke_11 {GZ9_138_1 m x : Nat} (h0 : x < m + 0 ∨ m + 0 + 8322 ≤ x) (h1 : GZ9_138_1 = 1) : x < m + 596 + 130 * GZ9_138_1 ∨ m + 596 + 130 * GZ9_138_1 + 130 ≤ x := by omega
theorem zx_X16_poke_12 {GZ9_138_0 m x : Nat} (h0 : x < m + 0 ∨ m + 0 + 8322 ≤ x) (h1 : GZ9_138_0 = 0) : x < m + 276 + 2 * GZ9_138_0 ∨ m + 276 + 2 * GZ9_138_0 + (320 - 2 * GZ9_138_0) ≤ x := by omega
theorem zx_X16_poke_13 {GZ9_138_2 m x : Nat} (h0 : x < m + 0 ∨ m + 0 + 8322 ≤ x) (h1 : GZ9_138_2 = 2) : x < m + 596 + 130 * GZ9_138_2 ∨ m + 596 + 130 * GZ9_138_2 + (5720 - 130 * GZ9_138_2) ≤ x := by omega
theorem zx_X16_poke_14 {m x : Nat} (h0 : x < m + 0 ∨ m + 0 + 8322 ≤ x) : x < m + 3 ∨ m + 3 + 1 ≤ x := by omega
theorem zx_X16_poke_15 {m x : Nat} (h0 : x < m + 0 ∨ m + 0 + 8322 ≤ x) : x < m + 5 ∨ m + 5 + 64 ≤ x := by omega
theorem zx_X16_poke_16 {m x : Nat} (h0 : m + 83 ≤ x) (h1 : x < m + 83 + 9) : x < m ∨ m + 1 ≤ x := by omega
theorem zx_X16_poke_17 {GZ9_138_0 m x : Nat} (h0 : m + 83 ≤ x) (h1 : x < m + 83 + 9) (h2 : GZ9_138_0 = 0) : x < m + 596 + 130 * GZ9_138_0 ∨ m + 596 + 130 * GZ9_138_0 + 130 ≤ x := by omega
theorem zx_X16_poke_18 {GZ9_138_1 m x : Nat} (h0 : m + 83 ≤ x) (h1 : x < m + 83 + 9) (h2 : GZ9_138_1 = 1) : x < m + 596 + 130 * GZ9_138_1 ∨ m + 596 + 130 * GZ9_138_1 + 130 ≤ x := by omega
theorem zx_X16_poke_19 {GZ9_138_0 m x : Nat} (h0 : m + 83 ≤ x) (h1 : x < m + 83 + 9) (h2 : GZ9_138_0 = 0) : x < m + 276 + 2 * GZ9_138_0 ∨ m + 276 + 2 * GZ9_138_0 + (320 - 2 * GZ9_138_0) ≤ x := by omega
theorem zx_X16_poke_20 {GZ9_138_2 m x : Nat} (h0 : m + 83 ≤ x) (h1 : x < m + 83 + 9) (h2 : GZ9_138_2 = 2) : x < m + 596 + 130 * GZ9_138_2 ∨ m + 596 + 130 * GZ9_138_2 + (5720 - 130 * GZ9_138_2) ≤ x := by omega
theorem zx_X16_poke_21 {m x : Nat} (h0 : m + 83 ≤ x) (h1 : x < m + 83 + 9) : x < m + 3 ∨ m + 3 + 1 ≤ x := by omega
theorem zx_X16_poke_22 {m x : Nat} (h0 : m + 83 ≤ x) (h1 : x < m + 83 + 9) : x < m + 5 ∨ m + 5 + 64 ≤ x := by omega
theorem zx_X16_poke_23 {m x : Nat} (h0 : m + 6316 ≤ x) (h1 : x < m + 6316 + 1170) : x < m ∨ m + 1 ≤ x := by omega
theorem zx_X16_poke_24 {GZ9_138_0 m x : Nat} (h0 : m + 6316 ≤ x) (h1 : x < m + 6316 + 1170) (h2 : GZ9_138_0 = 0) : x < m + 596 + 130 * GZ9_138_0 ∨ m + 596 + 130 * GZ9_138_0 + 130 ≤ x := by omega
theorem zx_X16_poke_25 {GZ9_138_1 m x : Nat} (h0 : m + 6316 ≤ x) (h1 : x < m + 6316 + 1170) (h2 : GZ9_138_1 = 1) : x < m + 596 + 130 * GZ9_138_1 ∨ m + 596 + 130 * GZ9_138_1 + 130 ≤ x := by omega
theorem zx_X16_poke_26 {GZ9_138_0 m x : Nat} (h0 : m + 6316 ≤ x) (h1 : x < m + 6316 + 1170) (h2 : GZ9_138_0 = 0) : x < m + 276 + 2 * GZ9_138_0 ∨ m + 276 + 2 * GZ9_138_0 + (320 - 2 * GZ9_138_0) ≤ x := by omega
theorem zx_X16_poke_27 {GZ9_138_2 m x : Nat} (h0 : m + 6316 ≤ x) (h1 : x < m + 6316 + 1170) (h2 : GZ9_138_2 = 2) : x < m + 596 + 130 * GZ9_138_2 ∨ m + 596 + 130 * GZ9_138_2 + (5720 - 130 * GZ9_138_2) ≤ x := by omega
theorem zx_X16_poke_28 {m x : Nat} (h0 : m + 6316 ≤ x) (h1 : x < m + 6316 + 1170) : x < m + 3 ∨ m + 3 + 1 ≤ x := by omega
theorem zx_X16_poke_29 {m x : Nat} (h0 : m + 6316 ≤ x) (h1 : x < m + 6316 + 1170) : x < m + 5 ∨ m + 5 + 64 ≤ x := by omega
theorem zx_X16_poke_30 {m x : Nat} (h0 : m + 92 ≤ x) (h1 : x < m + 92 + 1) : x < m ∨ m + 1 ≤ x := by omega
theorem zx_X16_poke_31 {GZ9_138_0 m x : Nat} (h0 : m + 92 ≤ x) (h1 : x < m + 92 + 1) (h2 : GZ9_138_0 = 0) : x < m + 596 + 130 * GZ9_138_0 ∨ m + 596 + 130 * GZ9_138_0 + 130 ≤ x := by omega
theorem zx_X16_poke_32 {GZ9_138_1 m x : Nat} (h0 : m + 92 ≤ x) (h1 : x < m + 92 + 1) (h2 : GZ9_138_1 = 1) : x < m + 596 + 130 * GZ9_138_1 ∨ m + 596 + 130 * GZ9_138_1 + 130 ≤ x := by omega
theorem zx_X16_poke_33 {GZ9_138_0 m x : Nat} (h0 : m + 92 ≤ x) (h1 : x < m + 92 + 1) (h2 : GZ9_138_0 = 0) : x < m + 276 + 2 * GZ9_138_0 ∨ m + 276 + 2 * GZ9_138_0 + (320 - 2 * GZ9_138_0) ≤ x := by omega
theorem zx_X16_poke_34 {GZ9_138_2 m x : Nat} (h0 : m + 92 ≤ x) (h1 : x < m + 92 + 1) (h2 : GZ9_138_2 = 2) : x < m + 596 + 130 * GZ9_138_2 ∨ m + 596 + 130 * GZ9_138_2 + (5720 - 130 * GZ9_138_2) ≤ x := by omega
theorem zx_X16_poke_35 {m x : Nat} (h0 : m + 92 ≤ x) (h1 : x < m + 92 + 1) : x < m + 3 ∨ m + 3 + 1 ≤ x := by omega
theorem zx_X16_poke_36 {m x : Nat} (h0 : m + 92 ≤ x) (h1 : x < m + 92 + 1) : x < m + 5 ∨ m + 5 + 64 ≤ x := by omega
theorem zx_X16_poke_37 {m x : Nat} (h0 : m + 93 ≤ x) (h1 : x < m + 93 + 1) : x < m ∨ m + 1 ≤ x := by omega
theorem zx_X16_poke_38 {GZ9_138_0 m x : Nat} (h0 : m + 93 ≤ x) (h1 : x < m + 93 + 1) (h2 : GZ9_138_0 = 0) : x < m + 596 + 130 * GZ9_138_0 ∨ m + 596 + 130 * GZ9_138_0 + 130 ≤ x := by omega
theorem zx_X16_poke_39 {GZ9_138_1 m x : Nat} (h0 : m + 93 ≤ x) (h1 : x < m + 93 + 1) (h2 : GZ9_138_1 = 1) : x < m + 596 + 130 * GZ9_138_1 ∨ m + 596 + 130 * GZ9_138_1 + 130 ≤ x := by omega
theorem zx_X16_poke_40 {GZ9_138_0 m x : Nat} (h0 : m + 93 ≤ x) (h1 : x < m + 93 + 1) (h2 : GZ9_138_0 = 0) : x < m + 276 + 2 * GZ9_138_0 ∨ m + 276 + 2 * GZ9_138_0 + (320 - 2 * GZ9_138_0) ≤ x := by omega
theorem zx_X16_poke_41 {GZ9_138_2 m x : Nat} (h0 : m + 93 ≤ x) (h1 : x < m + 93 + 1) (h2 : GZ9_138_2 = 2) : x < m + 596 + 130 * GZ9_138_2 ∨ m + 596 + 130 * GZ9_138_2 + (5720 - 130 * GZ9_138_2) ≤ x := by omega
theorem zx_X16_poke_42 {m x : Nat} (h0 : m + 93 ≤ x) (h1 : x < m + 93 + 1) : x < m + 3 ∨ m + 3 + 1 ≤ x := by omega
theorem zx_X16_poke_43 {m x : Nat} (h0 : m + 93 ≤ x) (h1 : x < m + 93 + 1) : x < m + 5 ∨ m + 5 + 64 ≤ x := by omega
theorem zx_X16_poke_44 {m x : Nat} (h0 : m + 100 ≤ x) (h1 : x < m + 100 + 49) : x < m ∨ m + 1 ≤ x := by omega
theorem zx_X16_poke_45 {GZ9_138_0 m x : Nat} (h0 : m + 100 ≤ x) (h1 : x < m + 100 + 49) (h2 : GZ9_138_0 = 0) : x < m + 596 + 130 * GZ9_138_0 ∨ m + 596 + 130 * GZ9_138_0 + 130 ≤ x := by omega
theorem zx_X16_poke_46 {GZ9_138_1 m x : Nat} (h0 : m + 100 ≤ x) (h1 : x < m + 100 + 49) (h2 : GZ9_138_1 = 1) : x < m + 596 + 130 * GZ9_138_1 ∨ m + 596 + 130 * GZ9_138_1 + 130 ≤ x := by omega
theorem zx_X16_poke_47 {GZ9_138_0 m x : Nat} (h0 : m + 100 ≤ x) (h1 : x < m + 100 + 49) (h2 : GZ9_138_0 = 0) : x < m + 276 + 2 * GZ9_138_0 ∨ m + 276 + 2 * GZ9_138_0 + (320 - 2 * GZ9_138_0) ≤ x := by omega
theorem zx_X16_poke_48 {GZ9_138_2 m x : Nat} (h0 : m + 100 ≤ x) (h1 : x < m + 100 + 49) (h2 : GZ9_138_2 = 2) : x < m + 596 + 130 * GZ9_138_2 ∨ m + 596 + 130 * GZ9_138_2 + (5720 - 130 * GZ9_138_2) ≤ x := by omega
theorem zx_X16_poke_49 {m x : Nat} (h0 : m + 100 ≤ x) (h1 : x < m + 100 + 49) : x < m + 3 ∨ m + 3 + 1 ≤ x := by omega
theorem zx_X16_poke_50 {m x : Nat} (h0 : m + 100 ≤ x) (h1 : x < m + 100 + 49) : x < m + 5 ∨ m + 5 + 64 ≤ x := by omega
theorem zx_X16_poke_51 {m x : Nat} (h0 : m + 212 ≤ x) (h1 : x < m + 212 + 61) : x < m ∨ m + 1 ≤ x := by omega
theorem zx_X16_poke_52 {GZ9_138_0 m x : Nat} (h0 : m + 212 ≤ x) (h1 : x < m + 212 + 61) (h2 : GZ9_138_0 = 0) : x < m + 596 + 130 * GZ9_138_0 ∨ m + 596 + 130 * GZ9_138_0 + 130 ≤ x := by omega
theorem zx_X16_poke_53 {GZ9_138_1 m x : Nat} (h0 : m + 212 ≤ x) (h1 : x < m + 212 + 61) (h2 : GZ9_138_1 = 1) : x < m + 596 + 130 * GZ9_138_1 ∨ m + 596 + 130 * GZ9_138_1 + 130 ≤ x := by omega
theorem zx_X16_poke_54 {GZ9_138_0 m x : Nat} (h0 : m + 212 ≤ x) (h1 : x < m + 212 + 61) (h2 : GZ9_138_0 = 0) : x < m + 276 + 2 * GZ9_138_0 ∨ m + 276 + 2 * GZ9_138_0 + (320 - 2 * GZ9_138_0) ≤ x := by omega
theorem zx_X16_poke_55 {GZ9_138_2 m x : Nat} (h0 : m + 212 ≤ x) (h1 : x < m + 212 + 61) (h2 : GZ9_138_2 = 2) : x < m + 596 + 130 * GZ9_138_2 ∨ m + 596 + 130 * GZ9_138_2 + (5720 - 130 * GZ9_138_2) ≤ x := by omega
theorem zx_X16_poke_56 {m x : Nat} (h0 : m + 212 ≤ x) (h1 : x < m + 212 + 61) : x < m + 3 ∨ m + 3 + 1 ≤ x := by omega
theorem zx_X16_poke_57 {m x : Nat} (h0 : m + 212 ≤ x) (h1 : x < m + 212 + 61) : x < m + 5 ∨ m + 5 + 64 ≤ x := by omega
theorem zx_X16_poke_58 {m x : Nat} (h0 : m + 149 ≤ x) (h1 : x < m + 149 + 27) : x < m ∨ m + 1 ≤ x := by omega
theorem zx_X16_poke_59 {GZ9_138_0 m x : Nat} (h0 : m + 149 ≤ x) (h1 : x < m + 149 + 27) (h2 : GZ9_138_0 = 0) : x < m + 596 + 130 * GZ9_138_0 ∨ m + 596 + 130 * GZ9_138_0 + 130 ≤ x := by omega
theorem zx_X16_poke_60 {GZ9_138_1 m x : Nat} (h0 : m + 149 ≤ x) (h1 : x < m + 149 + 27) (h2 : GZ9_138_1 = 1) : x < m + 596 + 130 * GZ9_138_1 ∨ m + 596 + 130 * GZ9_138_1 + 130 ≤ x := by omega
theorem zx_X16_poke_61 {GZ9_138_0 m x : Nat} (h0 : m + 149 ≤ x) (h1 : x < m + 149 + 27) (h2 : GZ9_138_0 = 0) : x < m + 276 + 2 * GZ9_138_0 ∨ m + 276 + 2 * GZ9_138_0 + (320 - 2 * GZ9_138_0) ≤ x := by omega
theorem zx_X16_poke_62 {GZ9_138_2 m x : Nat} (h0 : m + 149 ≤ x) (h1 : x < m + 149 + 27) (h2 : GZ9_138_2 = 2) : x < m + 596 + 130 * GZ9_138_2 ∨ m + 596 + 130 * GZ9_138_2 + (5720 - 130 * GZ9_138_2) ≤ x := by omega
theorem zx_X16_poke_63 {m x : Nat} (h0 : m + 149 ≤ x) (h1 : x < m + 149 + 27) : x < m + 3 ∨ m + 3 + 1 ≤ x := by omega
theorem zx_X16_poke_64 {m x : Nat} (h0 : m + 149 ≤ x) (h1 : x < m + 149 + 27) : x < m + 5 ∨ m + 5 + 64 ≤ x := by omega
theorem zx_X16_poke_65 {m : Nat}  : (m + 94) < m ∨ m + 1 ≤ (m + 94) := by omega
theorem zx_X16_poke_66 {GZ9_138_0 m : Nat} (h0 : GZ9_138_0 = 0) : (m + 94) < m + 596 + 130 * GZ9_138_0 ∨ m + 596 + 130 * GZ9_138_0 + 130 ≤ (m + 94) := by omega
theorem zx_X16_poke_67 {GZ9_138_1 m : Nat} (h0 : GZ9_138_1 = 1) : (m + 94) < m + 596 + 130 * GZ9_138_1 ∨ m + 596 + 130 * GZ9_138_1 + 130 ≤ (m + 94) := by omega
theorem zx_X16_poke_68 {GZ9_138_0 m : Nat} (h0 : GZ9_138_0 = 0) : (m + 94) < m + 276 + 2 * GZ9_138_0 ∨ m + 276 + 2 * GZ9_138_0 + (320 - 2 * GZ9_138_0) ≤ (m + 94) := by omega
theorem zx_X16_poke_69 {GZ9_138_2 m : Nat} (h0 : GZ9_138_2 = 2) : (m + 94) < m + 596 + 130 * GZ9_138_2 ∨ m + 596 + 130 * GZ9_138_2 + (5720 - 130 * GZ9_138_2) ≤ (m + 94) := by omega
theorem zx_X16_poke_70 {m : Nat}  : (m + 94) < m + 3 ∨ m + 3 + 1 ≤ (m + 94) := by omega
theorem zx_X16_poke_71 {m : Nat}  : (m + 94) < m + 5 ∨ m + 5 + 64 ≤ (m + 94) := by omega
set_option maxHeartbeats 8000000 in
set_option maxRecDepth 100000 in
theorem c_X16_poke {w : zM} {n9 : Int32} (m : Nat) (s9 : Int32) (mm : Int32) (i : Int32) (j : Int32) (v : Int32) (hI : zInv w m n9) : zCon 10 zq_X16_poke [.ref m, .int s9, .int mm, .int i, .int j, .int v] w (fun v9 w9' => zSI w w9' ∧ (∀ x, (x < m + 0 ∨ m + 0 + 8322 ≤ x) → w9' x = w x) ∧ zInv w9' m n9 ∧ ∃ r9 : Int32, v9 = some (.int r9) ∧ True) := by
  intro d sz hd
  obtain ⟨d, rfl⟩ : ∃ d9, d = d9 + 1 := ⟨d - 1, by omega⟩
  generalize hPost : (fun (r9' : Option (Option Value)) (w9' : zM) (z9 : Nat) => z9 = sz ∧ ∃ v9, r9' = some v9 ∧ (zSI w w9' ∧ (∀ x, (x < m + 0 ∨ m + 0 + 8322 ≤ x) → w9' x = w x) ∧ zInv w9' m n9 ∧ ∃ r9 : Int32, v9 = some (.int r9) ∧ True)) = Post
  show zP (d + 1) zq_X16_poke 0 [(0, .ref m), (1, .int s9), (2, .int mm), (3, .int i), (4, .int j), (5, .int v)] [] w sz 0 0 Post
  have k1 := zrng s9
  have k2 := zrng mm
  have k3 := zrng i
  have k4 := zrng j
  have k5 := zrng v
  obtain ⟨g, r, hm, hR_m, hSl0, hMd0, hPl0, ⟨ff, hAf0, hff⟩, hBo0, hBl0, hGa0, hGb0, hBd0, hI12, hI24, hI29, hI31, hIn⟩ := hI
  have k6 := zrng (g 12)
  have hz7 : ((g 12).toNatClampNeg : Int) = (g 12).toInt := znat (by first | omega | decide)
  have k8 := zrng (g 24)
  have hz9 : ((g 24).toNatClampNeg : Int) = (g 24).toInt := znat (by first | omega | decide)
  have k10 := zrng (g 29)
  have hz11 : ((g 29).toNatClampNeg : Int) = (g 29).toInt := znat (by first | omega | decide)
  have k12 := zrng (g 31)
  have hz13 : ((g 31).toNatClampNeg : Int) = (g 31).toInt := znat (by first | omega | decide)
  refine zp_seg (pc' := 1) (lv' := [(0, .ref m), (1, .int s9), (2, .int mm), (3, .int i), (4, .int j), (5, .int v)]) (st' := [.int s9]) [(0, .iload_n 1)] (by decide +kernel) rfl ?_
  refine zr_callS (idx := 551) (j := 336) (by decide +kernel) (by decide +kernel) (by decide) (show zMe 336 = some zq_X16_isSlot from rfl) rfl rfl (Nat.le_of_ble_eq_true rfl) rfl rfl (Nat.le_of_ble_eq_true rfl) (Nat.le_of_ble_eq_true rfl) (c_X16_isSlot (w := w) s9 ) (by omega) (fun v1 w1 hp1 => ?_)
  obtain ⟨hpw1, r1, rfl, hrb1, hr1⟩ := hp1
  replace hpw1 := hpw1.symm
  subst hpw1
  have kr1 := zrng r1
  show zP _ _ _ _ [.int r1] _ _ _ _ _
  refine zp_if (i := .ifCond .ne 5) (c := ¬ r1 = 0) (t := 9) (e := 7) (lv' := [(0, .ref m), (1, .int s9), (2, .int mm), (3, .int i), (4, .int j), (5, .int v)]) (st' := []) (by decide +kernel) rfl (fun cc4 => ?_) (fun cc4 => ?_)
  ·
    have f15 := zneI cc4
    rw [show (0 : Int32).toInt = 0 from by decide] at f15
    have his1 := hr1 (hrb1.resolve_left cc4)
    refine zp_seg (pc' := 10) (lv' := [(0, .ref m), (1, .int s9), (2, .int mm), (3, .int i), (4, .int j), (5, .int v)]) (st' := [.ref m]) [(9, .aload_n 0)] (by decide +kernel) rfl ?_
    refine zr_get (idx := 450) (k := 20) (v := .ref (m + 82)) (by decide +kernel) (by decide +kernel) hm rfl ?_
    refine zp_seg (pc' := 14) (lv' := [(0, .ref m), (1, .int s9), (2, .int mm), (3, .int i), (4, .int j), (5, .int v)]) (st' := [.int s9, .ref (m + 82)]) [(13, .iload_n 1)] (by decide +kernel) rfl ?_
    have hb17 := hR_m.slots
    have hz18 : (s9.toNatClampNeg : Int) = s9.toInt := znat (by first | omega | decide)
    refine zr_aald (v := .ref (m + 7486 + 9 * s9.toNatClampNeg)) (by decide +kernel) hb17 (by decide) (zin (by first | omega | decide) (by first | omega | decide)) (zsl_at (by omega)) ?_
    refine zp_seg (pc' := 17) (lv' := [(6, .ref (m + 7486 + 9 * s9.toNatClampNeg)), (0, .ref m), (1, .int s9), (2, .int mm), (3, .int i), (4, .int j), (5, .int v)]) (st' := []) [(15, .astore 6)] (by decide +kernel) rfl ?_
    obtain ⟨kS1, hkS1⟩ := hSl0 s9.toNatClampNeg (by omega)
    obtain ⟨g1, fn1, fd1, fa1, fb1, fc1, fe1, fr1, fu1, hT1, hAn1, hAd1, hAa1, hAb1, hAc1, hAe1, hAr1, hAu1, hK1⟩ := id hkS1
    obtain ⟨hK10, hKn1, hKd1, hKx1, hKm1, hKl1, hKr1, hKu1, hKk1⟩ := id hK1
    refine zp_seg (pc' := 19) (lv' := [(6, .ref (m + 7486 + 9 * s9.toNatClampNeg)), (0, .ref m), (1, .int s9), (2, .int mm), (3, .int i), (4, .int j), (5, .int v)]) (st' := [.ref (m + 7486 + 9 * s9.toNatClampNeg)]) [(17, .aload 6)] (by decide +kernel) rfl ?_
    refine zr_get (idx := 202) (k := 0) (v := .int (g1 0)) (by decide +kernel) (by decide +kernel) hT1 rfl ?_
    refine zp_seg (pc' := 23) (lv' := [(6, .ref (m + 7486 + 9 * s9.toNatClampNeg)), (0, .ref m), (1, .int s9), (2, .int mm), (3, .int i), (4, .int j), (5, .int v)]) (st' := [.int 3, .int (g1 0)]) [(22, .iconst 3)] (by decide +kernel) rfl ?_
    refine zp_if (i := .if_icmp .eq 6) (c := (g1 0) = 3) (t := 29) (e := 26) (lv' := [(6, .ref (m + 7486 + 9 * s9.toNatClampNeg)), (0, .ref m), (1, .int s9), (2, .int mm), (3, .int i), (4, .int j), (5, .int v)]) (st' := []) (by decide +kernel) rfl (fun cc23 => ?_) (fun cc23 => ?_)
    ·
      have k19 := zrng (g1 0)
      have f21 := zeqI cc23
      rw [show (3 : Int32).toInt = 3 from by decide] at f21
      have hk39 : kS1 = 3 := hK10.symm.trans cc23
      have hord9 := hKk1.2.2.2.2.1 hk39
      refine zp_seg (pc' := 31) (lv' := [(6, .ref (m + 7486 + 9 * s9.toNatClampNeg)), (0, .ref m), (1, .int s9), (2, .int mm), (3, .int i), (4, .int j), (5, .int v)]) (st' := [.int (Int32.ofInt (-1)), .int mm]) [(29, .iload_n 2), (30, .iconst (-1))] (by decide +kernel) rfl ?_
      refine zp_if (i := .if_icmp .lt 42) (c := mm < (Int32.ofInt (-1))) (t := 73) (e := 34) (lv' := [(6, .ref (m + 7486 + 9 * s9.toNatClampNeg)), (0, .ref m), (1, .int s9), (2, .int mm), (3, .int i), (4, .int j), (5, .int v)]) (st' := []) (by decide +kernel) rfl (fun cc31 => ?_) (fun cc31 => ?_)
      ·
        have f23 := zltI cc31
        rw [show (Int32.ofInt (-1) : Int32).toInt = (-1) from by decide] at f23
        refine zp_seg (pc' := 74) (lv' := [(6, .ref (m + 7486 + 9 * s9.toNatClampNeg)), (0, .ref m), (1, .int s9), (2, .int mm), (3, .int i), (4, .int j), (5, .int v)]) (st' := [.int (Int32.ofInt (-1))]) [(73, .iconst (-1))] (by decide +kernel) rfl ?_
        have hoffend : ∀ x, (x < m + 0 ∨ m + 0 + 8322 ≤ x) → w x = w x := fun x hx => rfl
        refine zr_retI (by decide +kernel) rfl ?_
        rw [← hPost]; exact ⟨rfl, _, rfl, zSI.rf, hoffend, ⟨_, _, hm, hR_m, hSl0, hMd0, hPl0, ⟨_, hAf0, hff⟩, hBo0, hBl0, hGa0, hGb0, hBd0, hI12, hI24, hI29, hI31, hIn⟩, _, rfl, trivial⟩
      ·
        have f25 := znltI cc31
        rw [show (Int32.ofInt (-1) : Int32).toInt = (-1) from by decide] at f25
        refine zp_seg (pc' := 37) (lv' := [(6, .ref (m + 7486 + 9 * s9.toNatClampNeg)), (0, .ref m), (1, .int s9), (2, .int mm), (3, .int i), (4, .int j), (5, .int v)]) (st' := [.ref (m + 7486 + 9 * s9.toNatClampNeg), .int mm]) [(34, .iload_n 2), (35, .aload 6)] (by decide +kernel) rfl ?_
        refine zr_get (idx := 234) (k := 10) (v := .int (g1 10)) (by decide +kernel) (by decide +kernel) hT1 rfl ?_
        refine zp_if (i := .if_icmp .gt 33) (c := (g1 10) < mm) (t := 73) (e := 43) (lv' := [(6, .ref (m + 7486 + 9 * s9.toNatClampNeg)), (0, .ref m), (1, .int s9), (2, .int mm), (3, .int i), (4, .int j), (5, .int v)]) (st' := []) (by decide +kernel) rfl (fun cc40 => ?_) (fun cc40 => ?_)
        ·
          have k26 := zrng (g1 10)
          have f27 := zltI cc40
          refine zp_seg (pc' := 74) (lv' := [(6, .ref (m + 7486 + 9 * s9.toNatClampNeg)), (0, .ref m), (1, .int s9), (2, .int mm), (3, .int i), (4, .int j), (5, .int v)]) (st' := [.int (Int32.ofInt (-1))]) [(73, .iconst (-1))] (by decide +kernel) rfl ?_
          have hoffend : ∀ x, (x < m + 0 ∨ m + 0 + 8322 ≤ x) → w x = w x := fun x hx => rfl
          refine zr_retI (by decide +kernel) rfl ?_
          rw [← hPost]; exact ⟨rfl, _, rfl, zSI.rf, hoffend, ⟨_, _, hm, hR_m, hSl0, hMd0, hPl0, ⟨_, hAf0, hff⟩, hBo0, hBl0, hGa0, hGb0, hBd0, hI12, hI24, hI29, hI31, hIn⟩, _, rfl, trivial⟩
        ·
          have k28 := zrng (g1 10)
          have f29 := znltI cc40
          refine zp_seg (pc' := 44) (lv' := [(6, .ref (m + 7486 + 9 * s9.toNatClampNeg)), (0, .ref m), (1, .int s9), (2, .int mm), (3, .int i), (4, .int j), (5, .int v)]) (st' := [.int i]) [(43, .iload_n 3)] (by decide +kernel) rfl ?_
          refine zp_if (i := .ifCond .lt 29) (c := i < 0) (t := 73) (e := 47) (lv' := [(6, .ref (m + 7486 + 9 * s9.toNatClampNeg)), (0, .ref m), (1, .int s9), (2, .int mm), (3, .int i), (4, .int j), (5, .int v)]) (st' := []) (by decide +kernel) rfl (fun cc44 => ?_) (fun cc44 => ?_)
          ·
            have f30 := zltI cc44
            rw [show (0 : Int32).toInt = 0 from by decide] at f30
            refine zp_seg (pc' := 74) (lv' := [(6, .ref (m + 7486 + 9 * s9.toNatClampNeg)), (0, .ref m), (1, .int s9), (2, .int mm), (3, .int i), (4, .int j), (5, .int v)]) (st' := [.int (Int32.ofInt (-1))]) [(73, .iconst (-1))] (by decide +kernel) rfl ?_
            have hoffend : ∀ x, (x < m + 0 ∨ m + 0 + 8322 ≤ x) → w x = w x := fun x hx => rfl
            refine zr_retI (by decide +kernel) rfl ?_
            rw [← hPost]; exact ⟨rfl, _, rfl, zSI.rf, hoffend, ⟨_, _, hm, hR_m, hSl0, hMd0, hPl0, ⟨_, hAf0, hff⟩, hBo0, hBl0, hGa0, hGb0, hBd0, hI12, hI24, hI29, hI31, hIn⟩, _, rfl, trivial⟩
          ·
            have f31 := znltI cc44
            rw [show (0 : Int32).toInt = 0 from by decide] at f31
            refine zp_seg (pc' := 50) (lv' := [(6, .ref (m + 7486 + 9 * s9.toNatClampNeg)), (0, .ref m), (1, .int s9), (2, .int mm), (3, .int i), (4, .int j), (5, .int v)]) (st' := [.int 24, .int i]) [(47, .iload_n 3), (48, .bipush 24)] (by decide +kernel) rfl ?_
            refine zp_if (i := .if_icmp .gt 23) (c := 24 < i) (t := 73) (e := 53) (lv' := [(6, .ref (m + 7486 + 9 * s9.toNatClampNeg)), (0, .ref m), (1, .int s9), (2, .int mm), (3, .int i), (4, .int j), (5, .int v)]) (st' := []) (by decide +kernel) rfl (fun cc50 => ?_) (fun cc50 => ?_)
            ·
              have f33 := zltI cc50
              rw [show (24 : Int32).toInt = 24 from by decide] at f33
              refine zp_seg (pc' := 74) (lv' := [(6, .ref (m + 7486 + 9 * s9.toNatClampNeg)), (0, .ref m), (1, .int s9), (2, .int mm), (3, .int i), (4, .int j), (5, .int v)]) (st' := [.int (Int32.ofInt (-1))]) [(73, .iconst (-1))] (by decide +kernel) rfl ?_
              have hoffend : ∀ x, (x < m + 0 ∨ m + 0 + 8322 ≤ x) → w x = w x := fun x hx => rfl
              refine zr_retI (by decide +kernel) rfl ?_
              rw [← hPost]; exact ⟨rfl, _, rfl, zSI.rf, hoffend, ⟨_, _, hm, hR_m, hSl0, hMd0, hPl0, ⟨_, hAf0, hff⟩, hBo0, hBl0, hGa0, hGb0, hBd0, hI12, hI24, hI29, hI31, hIn⟩, _, rfl, trivial⟩
            ·
              have f35 := znltI cc50
              rw [show (24 : Int32).toInt = 24 from by decide] at f35
              refine zp_seg (pc' := 55) (lv' := [(6, .ref (m + 7486 + 9 * s9.toNatClampNeg)), (0, .ref m), (1, .int s9), (2, .int mm), (3, .int i), (4, .int j), (5, .int v)]) (st' := [.int j]) [(53, .iload 4)] (by decide +kernel) rfl ?_
              refine zp_if (i := .ifCond .lt 18) (c := j < 0) (t := 73) (e := 58) (lv' := [(6, .ref (m + 7486 + 9 * s9.toNatClampNeg)), (0, .ref m), (1, .int s9), (2, .int mm), (3, .int i), (4, .int j), (5, .int v)]) (st' := []) (by decide +kernel) rfl (fun cc55 => ?_) (fun cc55 => ?_)
              ·
                have f36 := zltI cc55
                rw [show (0 : Int32).toInt = 0 from by decide] at f36
                refine zp_seg (pc' := 74) (lv' := [(6, .ref (m + 7486 + 9 * s9.toNatClampNeg)), (0, .ref m), (1, .int s9), (2, .int mm), (3, .int i), (4, .int j), (5, .int v)]) (st' := [.int (Int32.ofInt (-1))]) [(73, .iconst (-1))] (by decide +kernel) rfl ?_
                have hoffend : ∀ x, (x < m + 0 ∨ m + 0 + 8322 ≤ x) → w x = w x := fun x hx => rfl
                refine zr_retI (by decide +kernel) rfl ?_
                rw [← hPost]; exact ⟨rfl, _, rfl, zSI.rf, hoffend, ⟨_, _, hm, hR_m, hSl0, hMd0, hPl0, ⟨_, hAf0, hff⟩, hBo0, hBl0, hGa0, hGb0, hBd0, hI12, hI24, hI29, hI31, hIn⟩, _, rfl, trivial⟩
              ·
                have f37 := znltI cc55
                rw [show (0 : Int32).toInt = 0 from by decide] at f37
                refine zp_seg (pc' := 61) (lv' := [(6, .ref (m + 7486 + 9 * s9.toNatClampNeg)), (0, .ref m), (1, .int s9), (2, .int mm), (3, .int i), (4, .int j), (5, .int v)]) (st' := [.int mm, .int j]) [(58, .iload 4), (60, .iload_n 2)] (by decide +kernel) rfl ?_
                refine zp_if (i := .ifCond .ge 8) (c := 0 ≤ mm) (t := 69) (e := 64) (lv' := [(6, .ref (m + 7486 + 9 * s9.toNatClampNeg)), (0, .ref m), (1, .int s9), (2, .int mm), (3, .int i), (4, .int j), (5, .int v)]) (st' := [.int j]) (by decide +kernel) rfl (fun cc61 => ?_) (fun cc61 => ?_)
                ·
                  have f38 := zleI cc61
                  rw [show (0 : Int32).toInt = 0 from by decide] at f38
                  refine zp_seg (pc' := 70) (lv' := [(6, .ref (m + 7486 + 9 * s9.toNatClampNeg)), (0, .ref m), (1, .int s9), (2, .int mm), (3, .int i), (4, .int j), (5, .int v)]) (st' := [.int 0, .int j]) [(69, .iconst 0)] (by decide +kernel) rfl ?_
                  refine zp_if (i := .if_icmp .le 5) (c := j ≤ 0) (t := 75) (e := 73) (lv' := [(6, .ref (m + 7486 + 9 * s9.toNatClampNeg)), (0, .ref m), (1, .int s9), (2, .int mm), (3, .int i), (4, .int j), (5, .int v)]) (st' := []) (by decide +kernel) rfl (fun cc70 => ?_) (fun cc70 => ?_)
                  ·
                    have f39 := zleI cc70
                    rw [show (0 : Int32).toInt = 0 from by decide] at f39
                    refine zp_seg (pc' := 76) (lv' := [(6, .ref (m + 7486 + 9 * s9.toNatClampNeg)), (0, .ref m), (1, .int s9), (2, .int mm), (3, .int i), (4, .int j), (5, .int v)]) (st' := [.int mm]) [(75, .iload_n 2)] (by decide +kernel) rfl ?_
                    refine zp_if (i := .ifCond .ge 11) (c := 0 ≤ mm) (t := 87) (e := 79) (lv' := [(6, .ref (m + 7486 + 9 * s9.toNatClampNeg)), (0, .ref m), (1, .int s9), (2, .int mm), (3, .int i), (4, .int j), (5, .int v)]) (st' := []) (by decide +kernel) rfl (fun cc76 => ?_) (fun cc76 => ?_)
                    ·
                      have f40 := zleI cc76
                      rw [show (0 : Int32).toInt = 0 from by decide] at f40
                      refine zp_seg (pc' := 89) (lv' := [(6, .ref (m + 7486 + 9 * s9.toNatClampNeg)), (0, .ref m), (1, .int s9), (2, .int mm), (3, .int i), (4, .int j), (5, .int v)]) (st' := [.ref (m + 7486 + 9 * s9.toNatClampNeg)]) [(87, .aload 6)] (by decide +kernel) rfl ?_
                      refine zr_get (idx := 237) (k := 11) (v := .ref (m + 7486 + 9 * s9.toNatClampNeg + 7)) (by decide +kernel) (by decide +kernel) hT1 rfl ?_
                      refine zp_seg (pc' := 95) (lv' := [(7, .ref (m + 7486 + 9 * s9.toNatClampNeg + 7)), (6, .ref (m + 7486 + 9 * s9.toNatClampNeg)), (0, .ref m), (1, .int s9), (2, .int mm), (3, .int i), (4, .int j), (5, .int v)]) (st' := [.int mm]) [(92, .astore 7), (94, .iload_n 2)] (by decide +kernel) rfl ?_
                      refine zp_if (i := .ifCond .ge 13) (c := 0 ≤ mm) (t := 108) (e := 98) (lv' := [(7, .ref (m + 7486 + 9 * s9.toNatClampNeg + 7)), (6, .ref (m + 7486 + 9 * s9.toNatClampNeg)), (0, .ref m), (1, .int s9), (2, .int mm), (3, .int i), (4, .int j), (5, .int v)]) (st' := []) (by decide +kernel) rfl (fun cc95 => ?_) (fun cc95 => ?_)
                      ·
                        have f41 := zleI cc95
                        rw [show (0 : Int32).toInt = 0 from by decide] at f41
                        refine zp_seg (pc' := 112) (lv' := [(7, .ref (m + 7486 + 9 * s9.toNatClampNeg + 7)), (6, .ref (m + 7486 + 9 * s9.toNatClampNeg)), (0, .ref m), (1, .int s9), (2, .int mm), (3, .int i), (4, .int j), (5, .int v)]) (st' := [.int (25 * mm)]) [(108, .bipush 25), (110, .iload_n 2), (111, .imul)] (by decide +kernel) rfl ?_
                        have k42 := zmulCl 25 mm (n := 25) (by decide) (by omega) (by omega)
                        generalize ev112 : (25 * mm : Int32) = v112 at k42 ⊢
                        have kv112 := zrng v112
                        refine zp_seg (pc' := 114) (lv' := [(7, .ref (m + 7486 + 9 * s9.toNatClampNeg + 7)), (6, .ref (m + 7486 + 9 * s9.toNatClampNeg)), (0, .ref m), (1, .int s9), (2, .int mm), (3, .int i), (4, .int j), (5, .int v)]) (st' := [.int (v112 + i)]) [(112, .iload_n 3), (113, .iadd)] (by decide +kernel) rfl ?_
                        have k43 := zadd v112 i (by omega) (by omega)
                        generalize ev114 : (v112 + i : Int32) = v114 at k43 ⊢
                        have kv114 := zrng v114
                        refine zp_seg (pc' := 120) (lv' := [(8, .int v114), (7, .ref (m + 7486 + 9 * s9.toNatClampNeg + 7)), (6, .ref (m + 7486 + 9 * s9.toNatClampNeg)), (0, .ref m), (1, .int s9), (2, .int mm), (3, .int i), (4, .int j), (5, .int v)]) (st' := [.int v114, .ref (m + 7486 + 9 * s9.toNatClampNeg + 7)]) [(114, .istore 8), (116, .aload 7), (118, .iload 8)] (by decide +kernel) rfl ?_
                        refine zr_iald (by decide +kernel) hAr1 (zin (by first | omega | decide) (by first | omega | decide)) ?_
                        have hz44 : (v114.toNatClampNeg : Int) = v114.toInt := znat (by first | omega | decide)
                        obtain ⟨x120, ex120⟩ : ∃ x9, x9 = fr1 (v114.toNatClampNeg) := ⟨_, rfl⟩
                        rw [← ex120]
                        have kx120 := zrng x120
                        refine zp_seg (pc' := 129) (lv' := [(9, .int x120), (8, .int v114), (7, .ref (m + 7486 + 9 * s9.toNatClampNeg + 7)), (6, .ref (m + 7486 + 9 * s9.toNatClampNeg)), (0, .ref m), (1, .int s9), (2, .int mm), (3, .int i), (4, .int j), (5, .int v)]) (st' := [.int v, .int v114, .ref (m + 7486 + 9 * s9.toNatClampNeg + 7)]) [(121, .istore 9), (123, .aload 7), (125, .iload 8), (127, .iload 5)] (by decide +kernel) rfl ?_
                        refine zr_callS (idx := 600) (j := 260) (by decide +kernel) (by decide +kernel) (by decide) (show zMe 260 = some zq_X16_rest from rfl) rfl rfl (Nat.le_of_ble_eq_true rfl) rfl rfl (Nat.le_of_ble_eq_true rfl) (Nat.le_of_ble_eq_true rfl) (c_X16_rest (w := w) v ) (by omega) (fun v129 w129 hp129 => ?_)
                        obtain ⟨hpw129, r129, rfl, hr129⟩ := hp129
                        replace hpw129 := hpw129.symm
                        subst hpw129
                        have kr129 := zrng r129
                        show zP _ _ _ _ [.int r129, .int v114, .ref (m + 7486 + 9 * s9.toNatClampNeg + 7)] _ _ _ _ _
                        refine zr_iast (by decide +kernel) hAr1 (zin (by first | omega | decide) (by first | omega | decide)) ?_
                        show zP (d + 1) zq_X16_poke 133 [(9, .int x120), (8, .int v114), (7, .ref (m + 7486 + 9 * s9.toNatClampNeg + 7)), (6, .ref (m + 7486 + 9 * s9.toNatClampNeg)), (0, .ref m), (1, .int s9), (2, .int mm), (3, .int i), (4, .int j), (5, .int v)] [] (zup w (m + 7486 + 9 * s9.toNatClampNeg + 7) (.inr (0, 175, .inl (upd fr1 (v114.toNatClampNeg) r129)))) sz 0 0 Post
                        obtain ⟨w132, ew132⟩ : ∃ wz9, wz9 = zup w (m + 7486 + 9 * s9.toNatClampNeg + 7) (.inr (0, 175, .inl (upd fr1 (v114.toNatClampNeg) r129))) := ⟨_, rfl⟩
                        have hsi132 : zSI w w132 := by rw [ew132]; exact zSI.arr _ hAr1
                        have heq132 : ∀ x, x ≠ m + 7486 + 9 * s9.toNatClampNeg + 7 → w132 x = w x := fun x hx => by rw [ew132]; exact zup_n hx
                        have hc132 : w132 (m + 7486 + 9 * s9.toNatClampNeg + 7) = some (.inr (0, 175, .inl (upd fr1 (v114.toNatClampNeg) r129))) := by rw [ew132]; exact zup_s
                        rw [← ew132]
                        clear ew132
                        refine zp_seg (pc' := 134) (lv' := [(9, .int x120), (8, .int v114), (7, .ref (m + 7486 + 9 * s9.toNatClampNeg + 7)), (6, .ref (m + 7486 + 9 * s9.toNatClampNeg)), (0, .ref m), (1, .int s9), (2, .int mm), (3, .int i), (4, .int j), (5, .int v)]) (st' := [.int mm]) [(133, .iload_n 2)] (by decide +kernel) rfl ?_
                        refine zp_if (i := .ifCond .ge 58) (c := 0 ≤ mm) (t := 192) (e := 137) (lv' := [(9, .int x120), (8, .int v114), (7, .ref (m + 7486 + 9 * s9.toNatClampNeg + 7)), (6, .ref (m + 7486 + 9 * s9.toNatClampNeg)), (0, .ref m), (1, .int s9), (2, .int mm), (3, .int i), (4, .int j), (5, .int v)]) (st' := []) (by decide +kernel) rfl (fun cc134 => ?_) (fun cc134 => ?_)
                        ·
                          have f45 := zleI cc134
                          rw [show (0 : Int32).toInt = 0 from by decide] at f45
                          have hb46 : w132 (m + 7486 + 9 * s9.toNatClampNeg) = some (.inl (13, zTo (m + 7486 + 9 * s9.toNatClampNeg) g1)) := (heq132 (m + 7486 + 9 * s9.toNatClampNeg) (by omega)).trans hT1
                          have hb47 : w132 (m + 7486 + 9 * s9.toNatClampNeg + 1) = some (.inr (0, 325, .inl fn1)) := (heq132 (m + 7486 + 9 * s9.toNatClampNeg + 1) (by omega)).trans hAn1
                          have hb48 : w132 (m + 7486 + 9 * s9.toNatClampNeg + 2) = some (.inr (0, 325, .inl fd1)) := (heq132 (m + 7486 + 9 * s9.toNatClampNeg + 2) (by omega)).trans hAd1
                          have hb49 : w132 (m + 7486 + 9 * s9.toNatClampNeg + 3) = some (.inr (0, 13, .inl fa1)) := (heq132 (m + 7486 + 9 * s9.toNatClampNeg + 3) (by omega)).trans hAa1
                          have hb50 : w132 (m + 7486 + 9 * s9.toNatClampNeg + 4) = some (.inr (0, 13, .inl fb1)) := (heq132 (m + 7486 + 9 * s9.toNatClampNeg + 4) (by omega)).trans hAb1
                          have hb51 : w132 (m + 7486 + 9 * s9.toNatClampNeg + 5) = some (.inr (0, 13, .inl fc1)) := (heq132 (m + 7486 + 9 * s9.toNatClampNeg + 5) (by omega)).trans hAc1
                          have hb52 : w132 (m + 7486 + 9 * s9.toNatClampNeg + 6) = some (.inr (0, 13, .inl fe1)) := (heq132 (m + 7486 + 9 * s9.toNatClampNeg + 6) (by omega)).trans hAe1
                          have hb53 : w132 (m + 7486 + 9 * s9.toNatClampNeg + 8) = some (.inr (0, 361, .inl fu1)) := (heq132 (m + 7486 + 9 * s9.toNatClampNeg + 8) (by omega)).trans hAu1
                          have hTi9 : zTi w132 (m + 7486 + 9 * s9.toNatClampNeg) 3 := ⟨_, _, _, _, _, _, _, _, _, hb46, hb47, hb48, hb49, hb50, hb51, hb52, hc132, hb53, ⟨hK10.trans hk39, hKn1, hKd1, hKx1, hKm1, hKl1, zall_up hKr1 hr129.1, hKu1, ⟨by simp, fun _ => hKk1.2.1 (Or.inr (Or.inr hk39)), fun e => absurd e (by decide), fun e => absurd e (by decide), fun _ => hord9, fun e => absurd e (by decide)⟩⟩⟩
                          have hSl192 := hSl0.up (w' := w132) s9.toNatClampNeg hTi9 (fun x h1 h2 h3 => (heq132 x (by omega)))
                          refine zp_seg (pc' := 194) (lv' := [(9, .int x120), (8, .int v114), (7, .ref (m + 7486 + 9 * s9.toNatClampNeg + 7)), (6, .ref (m + 7486 + 9 * s9.toNatClampNeg)), (0, .ref m), (1, .int s9), (2, .int mm), (3, .int i), (4, .int j), (5, .int v)]) (st' := [.int x120]) [(192, .iload 9)] (by decide +kernel) rfl ?_
                          have hb54 : w132 m = some (.inl (15, zMo m g r)) := (heq132 m (by omega)).trans hm
                          have hoffend : ∀ x, (x < m + 0 ∨ m + 0 + 8322 ≤ x) → w132 x = w x := fun x hx => (heq132 x (by omega))
                          have hb55 := hR_m.si hsi132
                          have hb56 : zTm w132 (m + 83) := hMd0.ag (fun x hx1 hx2 => (heq132 x (by omega)))
                          have hb57 : zPil w132 (m + 6316) := hPl0.ag (fun x hx1 hx2 => (heq132 x (by omega)))
                          have hb58 : zBya w132 (m + 92) 4000 := hBo0.ag (fun x hx1 hx2 => (heq132 x (by omega)))
                          have hb59 : zBya w132 (m + 93) 4000 := hBl0.ag (fun x hx1 hx2 => (heq132 x (by omega)))
                          have hb60 : zGr w132 (m + 100) 48 48 := hGa0.ag (fun x hx1 hx2 => (heq132 x (by omega)))
                          have hb61 : zGr w132 (m + 212) 60 46 := hGb0.ag (fun x hx1 hx2 => (heq132 x (by omega)))
                          have hb62 : zBd w132 (m + 149) := hBd0.ag (fun x hx1 hx2 => (heq132 x (by omega)))
                          have hb63 : w132 (m + 94) = some (.inr (0, 60, .inl ff)) := (heq132 (m + 94) (by omega)).trans hAf0
                          refine zr_retI (by decide +kernel) rfl ?_
                          rw [← hPost]; exact ⟨rfl, _, rfl, hsi132, hoffend, ⟨_, _, hb54, hb55, hSl192, hb56, hb57, ⟨_, hb63, hff⟩, hb58, hb59, hb60, hb61, hb62, hI12, hI24, hI29, hI31, hIn⟩, _, rfl, trivial⟩
                        ·
                          exact absurd cc95 cc134
                      ·
                        exact absurd cc76 cc95
                    ·
                      exact absurd cc61 cc76
                  ·
                    have f64 := znleI cc70
                    rw [show (0 : Int32).toInt = 0 from by decide] at f64
                    refine zp_seg (pc' := 74) (lv' := [(6, .ref (m + 7486 + 9 * s9.toNatClampNeg)), (0, .ref m), (1, .int s9), (2, .int mm), (3, .int i), (4, .int j), (5, .int v)]) (st' := [.int (Int32.ofInt (-1))]) [(73, .iconst (-1))] (by decide +kernel) rfl ?_
                    have hoffend : ∀ x, (x < m + 0 ∨ m + 0 + 8322 ≤ x) → w x = w x := fun x hx => rfl
                    refine zr_retI (by decide +kernel) rfl ?_
                    rw [← hPost]; exact ⟨rfl, _, rfl, zSI.rf, hoffend, ⟨_, _, hm, hR_m, hSl0, hMd0, hPl0, ⟨_, hAf0, hff⟩, hBo0, hBl0, hGa0, hGb0, hBd0, hI12, hI24, hI29, hI31, hIn⟩, _, rfl, trivial⟩
                ·
                  have f65 := znleI cc61
                  rw [show (0 : Int32).toInt = 0 from by decide] at f65
                  refine zp_seg (pc' := 70) (lv' := [(6, .ref (m + 7486 + 9 * s9.toNatClampNeg)), (0, .ref m), (1, .int s9), (2, .int mm), (3, .int i), (4, .int j), (5, .int v)]) (st' := [.int 12, .int j]) [(64, .bipush 12), (66, .goto 4)] (by decide +kernel) rfl ?_
                  refine zp_if (i := .if_icmp .le 5) (c := j ≤ 12) (t := 75) (e := 73) (lv' := [(6, .ref (m + 7486 + 9 * s9.toNatClampNeg)), (0, .ref m), (1, .int s9), (2, .int mm), (3, .int i), (4, .int j), (5, .int v)]) (st' := []) (by decide +kernel) rfl (fun cc70 => ?_) (fun cc70 => ?_)
                  ·
                    have f67 := zleI cc70
                    rw [show (12 : Int32).toInt = 12 from by decide] at f67
                    refine zp_seg (pc' := 76) (lv' := [(6, .ref (m + 7486 + 9 * s9.toNatClampNeg)), (0, .ref m), (1, .int s9), (2, .int mm), (3, .int i), (4, .int j), (5, .int v)]) (st' := [.int mm]) [(75, .iload_n 2)] (by decide +kernel) rfl ?_
                    refine zp_if (i := .ifCond .ge 11) (c := 0 ≤ mm) (t := 87) (e := 79) (lv' := [(6, .ref (m + 7486 + 9 * s9.toNatClampNeg)), (0, .ref m), (1, .int s9), (2, .int mm), (3, .int i), (4, .int j), (5, .int v)]) (st' := []) (by decide +kernel) rfl (fun cc76 => ?_) (fun cc76 => ?_)
                    ·
                      exact absurd cc76 cc61
                    ·
                      have f68 := znleI cc76
                      rw [show (0 : Int32).toInt = 0 from by decide] at f68
                      refine zp_seg (pc' := 81) (lv' := [(6, .ref (m + 7486 + 9 * s9.toNatClampNeg)), (0, .ref m), (1, .int s9), (2, .int mm), (3, .int i), (4, .int j), (5, .int v)]) (st' := [.ref (m + 7486 + 9 * s9.toNatClampNeg)]) [(79, .aload 6)] (by decide +kernel) rfl ?_
                      refine zr_get (idx := 207) (k := 1) (v := .ref (m + 7486 + 9 * s9.toNatClampNeg + 1)) (by decide +kernel) (by decide +kernel) hT1 rfl ?_
                      refine zp_seg (pc' := 95) (lv' := [(7, .ref (m + 7486 + 9 * s9.toNatClampNeg + 1)), (6, .ref (m + 7486 + 9 * s9.toNatClampNeg)), (0, .ref m), (1, .int s9), (2, .int mm), (3, .int i), (4, .int j), (5, .int v)]) (st' := [.int mm]) [(84, .goto 8), (92, .astore 7), (94, .iload_n 2)] (by decide +kernel) rfl ?_
                      refine zp_if (i := .ifCond .ge 13) (c := 0 ≤ mm) (t := 108) (e := 98) (lv' := [(7, .ref (m + 7486 + 9 * s9.toNatClampNeg + 1)), (6, .ref (m + 7486 + 9 * s9.toNatClampNeg)), (0, .ref m), (1, .int s9), (2, .int mm), (3, .int i), (4, .int j), (5, .int v)]) (st' := []) (by decide +kernel) rfl (fun cc95 => ?_) (fun cc95 => ?_)
                      ·
                        exact absurd cc95 cc76
                      ·
                        have f69 := znleI cc95
                        rw [show (0 : Int32).toInt = 0 from by decide] at f69
                        refine zp_seg (pc' := 103) (lv' := [(7, .ref (m + 7486 + 9 * s9.toNatClampNeg + 1)), (6, .ref (m + 7486 + 9 * s9.toNatClampNeg)), (0, .ref m), (1, .int s9), (2, .int mm), (3, .int i), (4, .int j), (5, .int v)]) (st' := [.int (25 * j)]) [(98, .bipush 25), (100, .iload 4), (102, .imul)] (by decide +kernel) rfl ?_
                        have k70 := zmulCl 25 j (n := 25) (by decide) (by omega) (by omega)
                        generalize ev103 : (25 * j : Int32) = v103 at k70 ⊢
                        have kv103 := zrng v103
                        refine zp_seg (pc' := 105) (lv' := [(7, .ref (m + 7486 + 9 * s9.toNatClampNeg + 1)), (6, .ref (m + 7486 + 9 * s9.toNatClampNeg)), (0, .ref m), (1, .int s9), (2, .int mm), (3, .int i), (4, .int j), (5, .int v)]) (st' := [.int (v103 + i)]) [(103, .iload_n 3), (104, .iadd)] (by decide +kernel) rfl ?_
                        have k71 := zadd v103 i (by omega) (by omega)
                        generalize ev105 : (v103 + i : Int32) = v105 at k71 ⊢
                        have kv105 := zrng v105
                        refine zp_seg (pc' := 120) (lv' := [(8, .int v105), (7, .ref (m + 7486 + 9 * s9.toNatClampNeg + 1)), (6, .ref (m + 7486 + 9 * s9.toNatClampNeg)), (0, .ref m), (1, .int s9), (2, .int mm), (3, .int i), (4, .int j), (5, .int v)]) (st' := [.int v105, .ref (m + 7486 + 9 * s9.toNatClampNeg + 1)]) [(105, .goto 9), (114, .istore 8), (116, .aload 7), (118, .iload 8)] (by decide +kernel) rfl ?_
                        refine zr_iald (by decide +kernel) hAn1 (zin (by first | omega | decide) (by first | omega | decide)) ?_
                        have hz72 : (v105.toNatClampNeg : Int) = v105.toInt := znat (by first | omega | decide)
                        obtain ⟨x120, ex120⟩ : ∃ x9, x9 = fn1 (v105.toNatClampNeg) := ⟨_, rfl⟩
                        rw [← ex120]
                        have kx120 := zrng x120
                        refine zp_seg (pc' := 129) (lv' := [(9, .int x120), (8, .int v105), (7, .ref (m + 7486 + 9 * s9.toNatClampNeg + 1)), (6, .ref (m + 7486 + 9 * s9.toNatClampNeg)), (0, .ref m), (1, .int s9), (2, .int mm), (3, .int i), (4, .int j), (5, .int v)]) (st' := [.int v, .int v105, .ref (m + 7486 + 9 * s9.toNatClampNeg + 1)]) [(121, .istore 9), (123, .aload 7), (125, .iload 8), (127, .iload 5)] (by decide +kernel) rfl ?_
                        refine zr_callS (idx := 600) (j := 260) (by decide +kernel) (by decide +kernel) (by decide) (show zMe 260 = some zq_X16_rest from rfl) rfl rfl (Nat.le_of_ble_eq_true rfl) rfl rfl (Nat.le_of_ble_eq_true rfl) (Nat.le_of_ble_eq_true rfl) (c_X16_rest (w := w) v ) (by omega) (fun v129 w129 hp129 => ?_)
                        obtain ⟨hpw129, r129, rfl, hr129⟩ := hp129
                        replace hpw129 := hpw129.symm
                        subst hpw129
                        have kr129 := zrng r129
                        show zP _ _ _ _ [.int r129, .int v105, .ref (m + 7486 + 9 * s9.toNatClampNeg + 1)] _ _ _ _ _
                        refine zr_iast (by decide +kernel) hAn1 (zin (by first | omega | decide) (by first | omega | decide)) ?_
                        show zP (d + 1) zq_X16_poke 133 [(9, .int x120), (8, .int v105), (7, .ref (m + 7486 + 9 * s9.toNatClampNeg + 1)), (6, .ref (m + 7486 + 9 * s9.toNatClampNeg)), (0, .ref m), (1, .int s9), (2, .int mm), (3, .int i), (4, .int j), (5, .int v)] [] (zup w (m + 7486 + 9 * s9.toNatClampNeg + 1) (.inr (0, 325, .inl (upd fn1 (v105.toNatClampNeg) r129)))) sz 0 0 Post
                        obtain ⟨w132, ew132⟩ : ∃ wz9, wz9 = zup w (m + 7486 + 9 * s9.toNatClampNeg + 1) (.inr (0, 325, .inl (upd fn1 (v105.toNatClampNeg) r129))) := ⟨_, rfl⟩
                        have hsi132 : zSI w w132 := by rw [ew132]; exact zSI.arr _ hAn1
                        have heq132 : ∀ x, x ≠ m + 7486 + 9 * s9.toNatClampNeg + 1 → w132 x = w x := fun x hx => by rw [ew132]; exact zup_n hx
                        have hc132 : w132 (m + 7486 + 9 * s9.toNatClampNeg + 1) = some (.inr (0, 325, .inl (upd fn1 (v105.toNatClampNeg) r129))) := by rw [ew132]; exact zup_s
                        rw [← ew132]
                        clear ew132
                        refine zp_seg (pc' := 134) (lv' := [(9, .int x120), (8, .int v105), (7, .ref (m + 7486 + 9 * s9.toNatClampNeg + 1)), (6, .ref (m + 7486 + 9 * s9.toNatClampNeg)), (0, .ref m), (1, .int s9), (2, .int mm), (3, .int i), (4, .int j), (5, .int v)]) (st' := [.int mm]) [(133, .iload_n 2)] (by decide +kernel) rfl ?_
                        refine zp_if (i := .ifCond .ge 58) (c := 0 ≤ mm) (t := 192) (e := 137) (lv' := [(9, .int x120), (8, .int v105), (7, .ref (m + 7486 + 9 * s9.toNatClampNeg + 1)), (6, .ref (m + 7486 + 9 * s9.toNatClampNeg)), (0, .ref m), (1, .int s9), (2, .int mm), (3, .int i), (4, .int j), (5, .int v)]) (st' := []) (by decide +kernel) rfl (fun cc134 => ?_) (fun cc134 => ?_)
                        ·
                          exact absurd cc134 cc95
                        ·
                          have f73 := znleI cc134
                          rw [show (0 : Int32).toInt = 0 from by decide] at f73
                          have hcu9 := zCr_up hKn1 v105.toNatClampNeg hr129.1
                          refine zp_seg (pc' := 138) (lv' := [(9, .int x120), (8, .int v105), (7, .ref (m + 7486 + 9 * s9.toNatClampNeg + 1)), (6, .ref (m + 7486 + 9 * s9.toNatClampNeg)), (0, .ref m), (1, .int s9), (2, .int mm), (3, .int i), (4, .int j), (5, .int v)]) (st' := [.ref m]) [(137, .aload_n 0)] (by decide +kernel) rfl ?_
                          have hb74 : w132 m = some (.inl (15, zMo m g r)) := (heq132 m (by omega)).trans hm
                          have hb75 := hR_m.si hsi132
                          refine zr_callV (idx := 555) (j := 337) (by decide +kernel) (by decide +kernel) (show zMe 337 = some zq_X16_begin from rfl) rfl rfl (Nat.le_of_ble_eq_true rfl) rfl rfl hb74 (Nat.le_of_ble_eq_true rfl) (Nat.le_of_ble_eq_true rfl) (c_X16_beginZ (w := w132) m hb74 hb75) (by omega) (fun v138 w138 hp138 => ?_)
                          obtain ⟨Z9_138, hsi138, heq138, hp138_0, hp138_1, rfl⟩ := hp138
                          have hM138 : w138 m = some (.inl (15, zMo m (zs (zs (zs g 1 Z9_138) 3 Z9_138) 16 Z9_138) r)) := hp138_0
                          show zP _ _ _ _ [] _ _ _ _ _
                          have k76 := zrng Z9_138
                          have hz77 : (Z9_138.toNatClampNeg : Int) = Z9_138.toInt := znat (by first | omega | decide)
                          have hgzZ9_138_0 : Z9_138.toNatClampNeg = 0 := by omega
                          refine zp_seg (pc' := 142) (lv' := [(9, .int x120), (8, .int v105), (7, .ref (m + 7486 + 9 * s9.toNatClampNeg + 1)), (6, .ref (m + 7486 + 9 * s9.toNatClampNeg)), (0, .ref m), (1, .int s9), (2, .int mm), (3, .int i), (4, .int j), (5, .int v)]) (st' := [.ref m]) [(141, .aload_n 0)] (by decide +kernel) rfl ?_
                          have hb78 := hb75.si hsi138
                          refine zr_callV (idx := 140) (j := 274) (by decide +kernel) (by decide +kernel) (show zMe 274 = some zq_X16_newB from rfl) rfl rfl (Nat.le_of_ble_eq_true rfl) rfl rfl hM138 (Nat.le_of_ble_eq_true rfl) (Nat.le_of_ble_eq_true rfl) (c_X16_newB (w := w138) (g3 := Z9_138) m hM138 hb78 (by first | omega | decide | assumption | exact zr1_1 | exact zr1_0 | fail "num") rfl) (by omega) (fun v142 w142 hp142 => ?_)
                          obtain ⟨hsi142, heq142, hp142_0, hp142_1, rfl⟩ := hp142
                          have hM142 : w142 m = some (.inl (15, zMo m (zs (zs (zs g 1 Z9_138) 3 (Z9_138 + 1)) 16 Z9_138) r)) := hp142_0
                          show zP _ _ _ _ [.ref (m + 596 + 130 * Z9_138.toNatClampNeg)] _ _ _ _ _
                          refine zp_seg (pc' := 148) (lv' := [(10, .ref (m + 596 + 130 * Z9_138.toNatClampNeg)), (9, .int x120), (8, .int v105), (7, .ref (m + 7486 + 9 * s9.toNatClampNeg + 1)), (6, .ref (m + 7486 + 9 * s9.toNatClampNeg)), (0, .ref m), (1, .int s9), (2, .int mm), (3, .int i), (4, .int j), (5, .int v)]) (st' := [.ref m]) [(145, .astore 10), (147, .aload_n 0)] (by decide +kernel) rfl ?_
                          have k80 := zaddC Z9_138 1 (n := 1) (by decide) (by omega) (by omega)
                          have hz81 : ((Z9_138 + 1).toNatClampNeg : Int) = (Z9_138 + 1).toInt := znat (by first | omega | decide)
                          have hgzZ9_138_1 : (Z9_138 + 1).toNatClampNeg = 1 := by omega
                          have hb82 := hb78.si hsi142
                          refine zr_callV (idx := 140) (j := 274) (by decide +kernel) (by decide +kernel) (show zMe 274 = some zq_X16_newB from rfl) rfl rfl (Nat.le_of_ble_eq_true rfl) rfl rfl hM142 (Nat.le_of_ble_eq_true rfl) (Nat.le_of_ble_eq_true rfl) (c_X16_newB (w := w142) (g3 := (Z9_138 + 1)) m hM142 hb82 (by first | omega | decide | assumption | exact zr1_1 | exact zr1_0 | fail "num") rfl) (by omega) (fun v148 w148 hp148 => ?_)
                          obtain ⟨hsi148, heq148, hp148_0, hp148_1, rfl⟩ := hp148
                          have hM148 : w148 m = some (.inl (15, zMo m (zs (zs (zs g 1 Z9_138) 3 (Z9_138 + 1 + 1)) 16 Z9_138) r)) := hp148_0
                          show zP _ _ _ _ [.ref (m + 596 + 130 * (Z9_138 + 1).toNatClampNeg)] _ _ _ _ _
                          refine zp_seg (pc' := 157) (lv' := [(11, .ref (m + 596 + 130 * (Z9_138 + 1).toNatClampNeg)), (10, .ref (m + 596 + 130 * Z9_138.toNatClampNeg)), (9, .int x120), (8, .int v105), (7, .ref (m + 7486 + 9 * s9.toNatClampNeg + 1)), (6, .ref (m + 7486 + 9 * s9.toNatClampNeg)), (0, .ref m), (1, .int s9), (2, .int mm), (3, .int i), (4, .int j), (5, .int v)]) (st' := [.ref (m + 7486 + 9 * s9.toNatClampNeg), .ref (m + 596 + 130 * Z9_138.toNatClampNeg)]) [(151, .astore 11), (153, .aload 10), (155, .aload 6)] (by decide +kernel) rfl ?_
                          have hb83 : w148 (m + 7486 + 9 * s9.toNatClampNeg) = some (.inl (13, zTo (m + 7486 + 9 * s9.toNatClampNeg) g1)) := ((heq148 (m + 7486 + 9 * s9.toNatClampNeg) (by omega)).trans ((heq142 (m + 7486 + 9 * s9.toNatClampNeg) (by omega)).trans ((heq138 (m + 7486 + 9 * s9.toNatClampNeg) (by omega)).trans (heq132 (m + 7486 + 9 * s9.toNatClampNeg) (by omega))))).trans hT1
                          refine zr_get (idx := 207) (k := 1) (v := .ref (m + 7486 + 9 * s9.toNatClampNeg + 1)) (by decide +kernel) (by decide +kernel) hb83 rfl ?_
                          have hb84 : zB w148 (m + 596 + 130 * Z9_138.toNatClampNeg) zbZ := hp142_1.ag (fun x hx1 hx2 => (heq148 x ⟨(zx_X16_poke_0 hx1 hx2 hgzZ9_138_0), (zx_X16_poke_1 hx1 hx2 hgzZ9_138_0 hgzZ9_138_1)⟩))
                          have ho160_b := zB.o hb84
                          have hb85 : w148 (m + 7486 + 9 * s9.toNatClampNeg + 1) = some (.inr (0, 325, .inl (upd fn1 (v105.toNatClampNeg) r129))) := ((heq148 (m + 7486 + 9 * s9.toNatClampNeg + 1) (by omega)).trans ((heq142 (m + 7486 + 9 * s9.toNatClampNeg + 1) (by omega)).trans (heq138 (m + 7486 + 9 * s9.toNatClampNeg + 1) (by omega)))).trans hc132
                          refine zr_callS (idx := 295) (j := 299) (by decide +kernel) (by decide +kernel) (by decide) (show zMe 299 = some zq_X16_load from rfl) rfl rfl (Nat.le_of_ble_eq_true rfl) rfl rfl (Nat.le_of_ble_eq_true rfl) (Nat.le_of_ble_eq_true rfl) (c_X16_load (w := w148) (m + 596 + 130 * Z9_138.toNatClampNeg) (m + 7486 + 9 * s9.toNatClampNeg + 1) ho160_b hb85 (by exact hcu9) (by first | omega | decide | assumption | exact zr1_1 | exact zr1_0 | fail "num")) (by omega) (fun v160 w160 hp160 => ?_)
                          obtain ⟨hsi160, heq160, hp160_0, rfl⟩ := hp160
                          show zP _ _ _ _ [] _ _ _ _ _
                          refine zp_seg (pc' := 167) (lv' := [(11, .ref (m + 596 + 130 * (Z9_138 + 1).toNatClampNeg)), (10, .ref (m + 596 + 130 * Z9_138.toNatClampNeg)), (9, .int x120), (8, .int v105), (7, .ref (m + 7486 + 9 * s9.toNatClampNeg + 1)), (6, .ref (m + 7486 + 9 * s9.toNatClampNeg)), (0, .ref m), (1, .int s9), (2, .int mm), (3, .int i), (4, .int j), (5, .int v)]) (st' := [.ref (m + 7486 + 9 * s9.toNatClampNeg), .ref (m + 596 + 130 * (Z9_138 + 1).toNatClampNeg)]) [(163, .aload 11), (165, .aload 6)] (by decide +kernel) rfl ?_
                          have hb86 : w160 (m + 7486 + 9 * s9.toNatClampNeg) = some (.inl (13, zTo (m + 7486 + 9 * s9.toNatClampNeg) g1)) := (heq160 (m + 7486 + 9 * s9.toNatClampNeg) (by omega)).trans hb83
                          refine zr_get (idx := 210) (k := 2) (v := .ref (m + 7486 + 9 * s9.toNatClampNeg + 2)) (by decide +kernel) (by decide +kernel) hb86 rfl ?_
                          have hb87 : zB w160 (m + 596 + 130 * (Z9_138 + 1).toNatClampNeg) zbZ := hp148_1.ag (fun x hx1 hx2 => (heq160 x (zx_X16_poke_2 hx1 hx2 hgzZ9_138_0 hgzZ9_138_1)))
                          have ho170_b := zB.o hb87
                          have hb88 : w160 (m + 7486 + 9 * s9.toNatClampNeg + 2) = some (.inr (0, 325, .inl fd1)) := ((heq160 (m + 7486 + 9 * s9.toNatClampNeg + 2) (by omega)).trans ((heq148 (m + 7486 + 9 * s9.toNatClampNeg + 2) (by omega)).trans ((heq142 (m + 7486 + 9 * s9.toNatClampNeg + 2) (by omega)).trans ((heq138 (m + 7486 + 9 * s9.toNatClampNeg + 2) (by omega)).trans (heq132 (m + 7486 + 9 * s9.toNatClampNeg + 2) (by omega)))))).trans hAd1
                          refine zr_callS (idx := 295) (j := 299) (by decide +kernel) (by decide +kernel) (by decide) (show zMe 299 = some zq_X16_load from rfl) rfl rfl (Nat.le_of_ble_eq_true rfl) rfl rfl (Nat.le_of_ble_eq_true rfl) (Nat.le_of_ble_eq_true rfl) (c_X16_load (w := w160) (m + 596 + 130 * (Z9_138 + 1).toNatClampNeg) (m + 7486 + 9 * s9.toNatClampNeg + 2) ho170_b hb88 (by exact hKd1) (by first | omega | decide | assumption | exact zr1_1 | exact zr1_0 | fail "num")) (by omega) (fun v170 w170 hp170 => ?_)
                          obtain ⟨hsi170, heq170, hp170_0, rfl⟩ := hp170
                          show zP _ _ _ _ [] _ _ _ _ _
                          have hb89 : w170 (m + 7486 + 9 * s9.toNatClampNeg + 1) = some (.inr (0, 325, .inl (upd fn1 (v105.toNatClampNeg) r129))) := ((heq170 (m + 7486 + 9 * s9.toNatClampNeg + 1) (by omega)).trans (heq160 (m + 7486 + 9 * s9.toNatClampNeg + 1) (by omega))).trans hb85
                          have hdn9 := zbT_dn ((upd fn1 (v105.toNatClampNeg) r129))
                          have hdd8 := zbT_dn fd1
                          refine zp_seg (pc' := 178) (lv' := [(11, .ref (m + 596 + 130 * (Z9_138 + 1).toNatClampNeg)), (10, .ref (m + 596 + 130 * Z9_138.toNatClampNeg)), (9, .int x120), (8, .int v105), (7, .ref (m + 7486 + 9 * s9.toNatClampNeg + 1)), (6, .ref (m + 7486 + 9 * s9.toNatClampNeg)), (0, .ref m), (1, .int s9), (2, .int mm), (3, .int i), (4, .int j), (5, .int v)]) (st' := [.ref (m + 596 + 130 * (Z9_138 + 1).toNatClampNeg), .ref (m + 596 + 130 * Z9_138.toNatClampNeg), .ref m]) [(173, .aload_n 0), (174, .aload 10), (176, .aload 11)] (by decide +kernel) rfl ?_
                          have hb90 : w170 m = some (.inl (15, zMo m (zs (zs (zs g 1 Z9_138) 3 (Z9_138 + 1 + 1)) 16 Z9_138) r)) := ((heq170 m (zx_X16_poke_4 hgzZ9_138_1)).trans (heq160 m (zx_X16_poke_3 hgzZ9_138_0))).trans hM148
                          have k91 := zaddC (Z9_138 + 1) 1 (n := 1) (by decide) (by omega) (by omega)
                          have hz92 : ((Z9_138 + 1 + 1).toNatClampNeg : Int) = (Z9_138 + 1 + 1).toInt := znat (by first | omega | decide)
                          have hgzZ9_138_2 : (Z9_138 + 1 + 1).toNatClampNeg = 2 := by omega
                          have hb93 := hb82.si ((hsi148.tr hsi160).tr hsi170)
                          have hb94 : zB w170 (m + 596 + 130 * Z9_138.toNatClampNeg) (zbT (upd fn1 (v105.toNatClampNeg) r129)) := hp160_0.ag (fun x hx1 hx2 => (heq170 x (zx_X16_poke_1 hx1 hx2 hgzZ9_138_0 hgzZ9_138_1)))
                          refine zr_callV (idx := 659) (j := 294) (by decide +kernel) (by decide +kernel) (show zMe 294 = some zq_X16_reduce from rfl) rfl rfl (Nat.le_of_ble_eq_true rfl) rfl rfl hb90 (Nat.le_of_ble_eq_true rfl) (Nat.le_of_ble_eq_true rfl) (c_X16_reduce (w := w170) (g1 := Z9_138) (g3 := (Z9_138 + 1 + 1)) m (m + 596 + 130 * Z9_138.toNatClampNeg) (m + 596 + 130 * (Z9_138 + 1).toNatClampNeg) hb90 hb93 hb94 hp170_0 (by first | omega | decide | assumption | exact zr1_1 | exact zr1_0 | fail "num") (by first | omega | decide | assumption | exact zr1_1 | exact zr1_0 | fail "num") (by first | omega | decide | assumption | exact zr1_1 | exact zr1_0 | fail "num") (by first | omega | decide | assumption | exact zr1_1 | exact zr1_0 | fail "num") (by first | omega | decide | assumption | exact zr1_1 | exact zr1_0 | fail "num") (by exact hKk1.2.1 (Or.inr (Or.inr hk39))) (by first | omega | decide | assumption | exact zr1_1 | exact zr1_0 | fail "num") (by first | omega | decide | assumption | exact zr1_1 | exact zr1_0 | fail "num") (by first | omega | decide | assumption | exact zr1_1 | exact zr1_0 | fail "num") rfl rfl) (by omega) (fun v178 w178 hp178 => ?_)
                          obtain ⟨P9_178, Q9_178, hsi178, heq178, hp178_0, hp178_1, hp178_2, rfl⟩ := hp178
                          show zP _ _ _ _ [] _ _ _ _ _
                          refine zp_seg (pc' := 187) (lv' := [(11, .ref (m + 596 + 130 * (Z9_138 + 1).toNatClampNeg)), (10, .ref (m + 596 + 130 * Z9_138.toNatClampNeg)), (9, .int x120), (8, .int v105), (7, .ref (m + 7486 + 9 * s9.toNatClampNeg + 1)), (6, .ref (m + 7486 + 9 * s9.toNatClampNeg)), (0, .ref m), (1, .int s9), (2, .int mm), (3, .int i), (4, .int j), (5, .int v)]) (st' := [.ref (m + 596 + 130 * (Z9_138 + 1).toNatClampNeg), .ref (m + 596 + 130 * Z9_138.toNatClampNeg), .ref (m + 7486 + 9 * s9.toNatClampNeg)]) [(181, .aload 6), (183, .aload 10), (185, .aload 11)] (by decide +kernel) rfl ?_
                          have hb95 : w178 (m + 7486 + 9 * s9.toNatClampNeg) = some (.inl (13, zTo (m + 7486 + 9 * s9.toNatClampNeg) g1)) := ((heq178 (m + 7486 + 9 * s9.toNatClampNeg) (by omega)).trans (heq170 (m + 7486 + 9 * s9.toNatClampNeg) (by omega))).trans hb86
                          have hb96 : w178 (m + 7486 + 9 * s9.toNatClampNeg + 1) = some (.inr (0, 325, .inl (upd fn1 (v105.toNatClampNeg) r129))) := (heq178 (m + 7486 + 9 * s9.toNatClampNeg + 1) (by omega)).trans hb89
                          have hb97 : w178 (m + 7486 + 9 * s9.toNatClampNeg + 2) = some (.inr (0, 325, .inl fd1)) := ((heq178 (m + 7486 + 9 * s9.toNatClampNeg + 2) (by omega)).trans (heq170 (m + 7486 + 9 * s9.toNatClampNeg + 2) (by omega))).trans hb88
                          refine zr_callS (idx := 261) (j := 303) (by decide +kernel) (by decide +kernel) (by decide) (show zMe 303 = some zq_X16_put from rfl) rfl rfl (Nat.le_of_ble_eq_true rfl) rfl rfl (Nat.le_of_ble_eq_true rfl) (Nat.le_of_ble_eq_true rfl) (c_X16_put (w := w178) (m + 7486 + 9 * s9.toNatClampNeg) (m + 596 + 130 * Z9_138.toNatClampNeg) (m + 596 + 130 * (Z9_138 + 1).toNatClampNeg) hb95 hb96 hb97 hp178_0 hp178_1 (by first | omega | decide | assumption | exact zr1_1 | exact zr1_0 | fail "num") (by first | omega | decide | assumption | exact zr1_1 | exact zr1_0 | fail "num")) (by omega) (fun v187 w187 hp187 => ?_)
                          obtain ⟨Fn_187, Fd_187, hsi187, heq187, hp187_0, hp187_1, r187, rfl, hrb187, hr187⟩ := hp187
                          have kr187 := zrng r187
                          show zP _ _ _ _ [.int r187] _ _ _ _ _
                          refine zp_seg (pc' := 192) (lv' := [(12, .int r187), (11, .ref (m + 596 + 130 * (Z9_138 + 1).toNatClampNeg)), (10, .ref (m + 596 + 130 * Z9_138.toNatClampNeg)), (9, .int x120), (8, .int v105), (7, .ref (m + 7486 + 9 * s9.toNatClampNeg + 1)), (6, .ref (m + 7486 + 9 * s9.toNatClampNeg)), (0, .ref m), (1, .int s9), (2, .int mm), (3, .int i), (4, .int j), (5, .int v)]) (st' := []) [(190, .istore 12)] (by decide +kernel) rfl ?_
                          have hdd9 : zCr Fd_187 ∧ 0 < zrw (zbT Fd_187) := by
                            rcases hrb187 with e | e
                            · have h9 := hr187.1 e
                              rw [h9.2]; exact ⟨hKd1, hKk1.2.1 (Or.inr (Or.inr hk39))⟩
                            · have h9 := hr187.2.1 e
                              exact ⟨h9.2.1, by rw [h9.2.2.2]; exact hp178_2.2.2.2 (hKk1.2.1 (Or.inr (Or.inr hk39)))⟩
                          have hnn9 : zCr Fn_187 := by
                            rcases hrb187 with e | e
                            · rw [(hr187.1 e).1]; exact hcu9
                            · exact (hr187.2.1 e).1
                          have hb98 : w187 (m + 7486 + 9 * s9.toNatClampNeg) = some (.inl (13, zTo (m + 7486 + 9 * s9.toNatClampNeg) g1)) := (heq187 (m + 7486 + 9 * s9.toNatClampNeg) (by omega)).trans hb95
                          have hb99 : w187 (m + 7486 + 9 * s9.toNatClampNeg + 3) = some (.inr (0, 13, .inl fa1)) := ((heq187 (m + 7486 + 9 * s9.toNatClampNeg + 3) (by omega)).trans ((heq178 (m + 7486 + 9 * s9.toNatClampNeg + 3) (by omega)).trans ((heq170 (m + 7486 + 9 * s9.toNatClampNeg + 3) (by omega)).trans ((heq160 (m + 7486 + 9 * s9.toNatClampNeg + 3) (by omega)).trans ((heq148 (m + 7486 + 9 * s9.toNatClampNeg + 3) (by omega)).trans ((heq142 (m + 7486 + 9 * s9.toNatClampNeg + 3) (by omega)).trans ((heq138 (m + 7486 + 9 * s9.toNatClampNeg + 3) (by omega)).trans (heq132 (m + 7486 + 9 * s9.toNatClampNeg + 3) (by omega))))))))).trans hAa1
                          have hb100 : w187 (m + 7486 + 9 * s9.toNatClampNeg + 4) = some (.inr (0, 13, .inl fb1)) := ((heq187 (m + 7486 + 9 * s9.toNatClampNeg + 4) (by omega)).trans ((heq178 (m + 7486 + 9 * s9.toNatClampNeg + 4) (by omega)).trans ((heq170 (m + 7486 + 9 * s9.toNatClampNeg + 4) (by omega)).trans ((heq160 (m + 7486 + 9 * s9.toNatClampNeg + 4) (by omega)).trans ((heq148 (m + 7486 + 9 * s9.toNatClampNeg + 4) (by omega)).trans ((heq142 (m + 7486 + 9 * s9.toNatClampNeg + 4) (by omega)).trans ((heq138 (m + 7486 + 9 * s9.toNatClampNeg + 4) (by omega)).trans (heq132 (m + 7486 + 9 * s9.toNatClampNeg + 4) (by omega))))))))).trans hAb1
                          have hb101 : w187 (m + 7486 + 9 * s9.toNatClampNeg + 5) = some (.inr (0, 13, .inl fc1)) := ((heq187 (m + 7486 + 9 * s9.toNatClampNeg + 5) (by omega)).trans ((heq178 (m + 7486 + 9 * s9.toNatClampNeg + 5) (by omega)).trans ((heq170 (m + 7486 + 9 * s9.toNatClampNeg + 5) (by omega)).trans ((heq160 (m + 7486 + 9 * s9.toNatClampNeg + 5) (by omega)).trans ((heq148 (m + 7486 + 9 * s9.toNatClampNeg + 5) (by omega)).trans ((heq142 (m + 7486 + 9 * s9.toNatClampNeg + 5) (by omega)).trans ((heq138 (m + 7486 + 9 * s9.toNatClampNeg + 5) (by omega)).trans (heq132 (m + 7486 + 9 * s9.toNatClampNeg + 5) (by omega))))))))).trans hAc1
                          have hb102 : w187 (m + 7486 + 9 * s9.toNatClampNeg + 6) = some (.inr (0, 13, .inl fe1)) := ((heq187 (m + 7486 + 9 * s9.toNatClampNeg + 6) (by omega)).trans ((heq178 (m + 7486 + 9 * s9.toNatClampNeg + 6) (by omega)).trans ((heq170 (m + 7486 + 9 * s9.toNatClampNeg + 6) (by omega)).trans ((heq160 (m + 7486 + 9 * s9.toNatClampNeg + 6) (by omega)).trans ((heq148 (m + 7486 + 9 * s9.toNatClampNeg + 6) (by omega)).trans ((heq142 (m + 7486 + 9 * s9.toNatClampNeg + 6) (by omega)).trans ((heq138 (m + 7486 + 9 * s9.toNatClampNeg + 6) (by omega)).trans (heq132 (m + 7486 + 9 * s9.toNatClampNeg + 6) (by omega))))))))).trans hAe1
                          have hb103 : w187 (m + 7486 + 9 * s9.toNatClampNeg + 7) = some (.inr (0, 175, .inl fr1)) := ((heq187 (m + 7486 + 9 * s9.toNatClampNeg + 7) (by omega)).trans ((heq178 (m + 7486 + 9 * s9.toNatClampNeg + 7) (by omega)).trans ((heq170 (m + 7486 + 9 * s9.toNatClampNeg + 7) (by omega)).trans ((heq160 (m + 7486 + 9 * s9.toNatClampNeg + 7) (by omega)).trans ((heq148 (m + 7486 + 9 * s9.toNatClampNeg + 7) (by omega)).trans ((heq142 (m + 7486 + 9 * s9.toNatClampNeg + 7) (by omega)).trans ((heq138 (m + 7486 + 9 * s9.toNatClampNeg + 7) (by omega)).trans (heq132 (m + 7486 + 9 * s9.toNatClampNeg + 7) (by omega))))))))).trans hAr1
                          have hb104 : w187 (m + 7486 + 9 * s9.toNatClampNeg + 8) = some (.inr (0, 361, .inl fu1)) := ((heq187 (m + 7486 + 9 * s9.toNatClampNeg + 8) (by omega)).trans ((heq178 (m + 7486 + 9 * s9.toNatClampNeg + 8) (by omega)).trans ((heq170 (m + 7486 + 9 * s9.toNatClampNeg + 8) (by omega)).trans ((heq160 (m + 7486 + 9 * s9.toNatClampNeg + 8) (by omega)).trans ((heq148 (m + 7486 + 9 * s9.toNatClampNeg + 8) (by omega)).trans ((heq142 (m + 7486 + 9 * s9.toNatClampNeg + 8) (by omega)).trans ((heq138 (m + 7486 + 9 * s9.toNatClampNeg + 8) (by omega)).trans (heq132 (m + 7486 + 9 * s9.toNatClampNeg + 8) (by omega))))))))).trans hAu1
                          have hTi9 : zTi w187 (m + 7486 + 9 * s9.toNatClampNeg) 3 := ⟨_, _, _, _, _, _, _, _, _, hb98, hp187_0, hp187_1, hb99, hb100, hb101, hb102, hb103, hb104, ⟨hK10.trans hk39, hnn9, hdd9.1, hKx1, hKm1, hKl1, hKr1, hKu1, ⟨by simp, fun _ => hdd9.2, fun e => absurd e (by decide), fun e => absurd e (by decide), fun _ => hord9, fun e => absurd e (by decide)⟩⟩⟩
                          have hSl192 := hSl0.up (w' := w187) s9.toNatClampNeg hTi9 (fun x h1 h2 h3 => ((heq187 x (by omega)).trans ((heq178 x (by omega)).trans ((heq170 x (by omega)).trans ((heq160 x (by omega)).trans ((heq148 x (by omega)).trans ((heq142 x (by omega)).trans ((heq138 x (by omega)).trans (heq132 x (by omega))))))))))
                          refine zp_seg (pc' := 194) (lv' := [(12, .int r187), (11, .ref (m + 596 + 130 * (Z9_138 + 1).toNatClampNeg)), (10, .ref (m + 596 + 130 * Z9_138.toNatClampNeg)), (9, .int x120), (8, .int v105), (7, .ref (m + 7486 + 9 * s9.toNatClampNeg + 1)), (6, .ref (m + 7486 + 9 * s9.toNatClampNeg)), (0, .ref m), (1, .int s9), (2, .int mm), (3, .int i), (4, .int j), (5, .int v)]) (st' := [.int x120]) [(192, .iload 9)] (by decide +kernel) rfl ?_
                          have hb105 : w187 m = some (.inl (15, zMo m (zs (zs (zs g 1 Z9_138) 3 (Z9_138 + 1 + 1)) 16 Z9_138) r)) := ((heq187 m (by omega)).trans (heq178 m ⟨(zx_X16_poke_3 hgzZ9_138_0), (zx_X16_poke_4 hgzZ9_138_1), (zx_X16_poke_5 hgzZ9_138_0), (zx_X16_poke_6 hgzZ9_138_2), (zx_X16_poke_7), (zx_X16_poke_8)⟩)).trans hb90
                          have hoffend : ∀ x, (x < m + 0 ∨ m + 0 + 8322 ≤ x) → w187 x = w x := fun x hx => ((heq187 x (by omega)).trans ((heq178 x ⟨(zx_X16_poke_10 hx hgzZ9_138_0), (zx_X16_poke_11 hx hgzZ9_138_1), (zx_X16_poke_12 hx hgzZ9_138_0), (zx_X16_poke_13 hx hgzZ9_138_2), (zx_X16_poke_14 hx), (zx_X16_poke_15 hx)⟩).trans ((heq170 x (zx_X16_poke_11 hx hgzZ9_138_1)).trans ((heq160 x (zx_X16_poke_10 hx hgzZ9_138_0)).trans ((heq148 x ⟨(zx_X16_poke_9 hx), (zx_X16_poke_11 hx hgzZ9_138_1)⟩).trans ((heq142 x ⟨(zx_X16_poke_9 hx), (zx_X16_poke_10 hx hgzZ9_138_0)⟩).trans ((heq138 x (zx_X16_poke_9 hx)).trans (heq132 x (by omega)))))))))
                          have hb106 := hb93.si (hsi178.tr hsi187)
                          have hb107 : zTm w187 (m + 83) := hMd0.ag (fun x hx1 hx2 => ((heq187 x (by omega)).trans ((heq178 x ⟨(zx_X16_poke_17 hx1 hx2 hgzZ9_138_0), (zx_X16_poke_18 hx1 hx2 hgzZ9_138_1), (zx_X16_poke_19 hx1 hx2 hgzZ9_138_0), (zx_X16_poke_20 hx1 hx2 hgzZ9_138_2), (zx_X16_poke_21 hx1 hx2), (zx_X16_poke_22 hx1 hx2)⟩).trans ((heq170 x (zx_X16_poke_18 hx1 hx2 hgzZ9_138_1)).trans ((heq160 x (zx_X16_poke_17 hx1 hx2 hgzZ9_138_0)).trans ((heq148 x ⟨(zx_X16_poke_16 hx1 hx2), (zx_X16_poke_18 hx1 hx2 hgzZ9_138_1)⟩).trans ((heq142 x ⟨(zx_X16_poke_16 hx1 hx2), (zx_X16_poke_17 hx1 hx2 hgzZ9_138_0)⟩).trans ((heq138 x (zx_X16_poke_16 hx1 hx2)).trans (heq132 x (by omega))))))))))
                          have hb108 : zPil w187 (m + 6316) := hPl0.ag (fun x hx1 hx2 => ((heq187 x (by omega)).trans ((heq178 x ⟨(zx_X16_poke_24 hx1 hx2 hgzZ9_138_0), (zx_X16_poke_25 hx1 hx2 hgzZ9_138_1), (zx_X16_poke_26 hx1 hx2 hgzZ9_138_0), (zx_X16_poke_27 hx1 hx2 hgzZ9_138_2), (zx_X16_poke_28 hx1 hx2), (zx_X16_poke_29 hx1 hx2)⟩).trans ((heq170 x (zx_X16_poke_25 hx1 hx2 hgzZ9_138_1)).trans ((heq160 x (zx_X16_poke_24 hx1 hx2 hgzZ9_138_0)).trans ((heq148 x ⟨(zx_X16_poke_23 hx1 hx2), (zx_X16_poke_25 hx1 hx2 hgzZ9_138_1)⟩).trans ((heq142 x ⟨(zx_X16_poke_23 hx1 hx2), (zx_X16_poke_24 hx1 hx2 hgzZ9_138_0)⟩).trans ((heq138 x (zx_X16_poke_23 hx1 hx2)).trans (heq132 x (by omega))))))))))
                          have hb109 : zBya w187 (m + 92) 4000 := hBo0.ag (fun x hx1 hx2 => ((heq187 x (by omega)).trans ((heq178 x ⟨(zx_X16_poke_31 hx1 hx2 hgzZ9_138_0), (zx_X16_poke_32 hx1 hx2 hgzZ9_138_1), (zx_X16_poke_33 hx1 hx2 hgzZ9_138_0), (zx_X16_poke_34 hx1 hx2 hgzZ9_138_2), (zx_X16_poke_35 hx1 hx2), (zx_X16_poke_36 hx1 hx2)⟩).trans ((heq170 x (zx_X16_poke_32 hx1 hx2 hgzZ9_138_1)).trans ((heq160 x (zx_X16_poke_31 hx1 hx2 hgzZ9_138_0)).trans ((heq148 x ⟨(zx_X16_poke_30 hx1 hx2), (zx_X16_poke_32 hx1 hx2 hgzZ9_138_1)⟩).trans ((heq142 x ⟨(zx_X16_poke_30 hx1 hx2), (zx_X16_poke_31 hx1 hx2 hgzZ9_138_0)⟩).trans ((heq138 x (zx_X16_poke_30 hx1 hx2)).trans (heq132 x (by omega))))))))))
                          have hb110 : zBya w187 (m + 93) 4000 := hBl0.ag (fun x hx1 hx2 => ((heq187 x (by omega)).trans ((heq178 x ⟨(zx_X16_poke_38 hx1 hx2 hgzZ9_138_0), (zx_X16_poke_39 hx1 hx2 hgzZ9_138_1), (zx_X16_poke_40 hx1 hx2 hgzZ9_138_0), (zx_X16_poke_41 hx1 hx2 hgzZ9_138_2), (zx_X16_poke_42 hx1 hx2), (zx_X16_poke_43 hx1 hx2)⟩).trans ((heq170 x (zx_X16_poke_39 hx1 hx2 hgzZ9_138_1)).trans ((heq160 x (zx_X16_poke_38 hx1 hx2 hgzZ9_138_0)).trans ((heq148 x ⟨(zx_X16_poke_37 hx1 hx2), (zx_X16_poke_39 hx1 hx2 hgzZ9_138_1)⟩).trans ((heq142 x ⟨(zx_X16_poke_37 hx1 hx2), (zx_X16_poke_38 hx1 hx2 hgzZ9_138_0)⟩).trans ((heq138 x (zx_X16_poke_37 hx1 hx2)).trans (heq132 x (by omega))))))))))
                          have hb111 : zGr w187 (m + 100) 48 48 := hGa0.ag (fun x hx1 hx2 => ((heq187 x (by omega)).trans ((heq178 x ⟨(zx_X16_poke_45 hx1 hx2 hgzZ9_138_0), (zx_X16_poke_46 hx1 hx2 hgzZ9_138_1), (zx_X16_poke_47 hx1 hx2 hgzZ9_138_0), (zx_X16_poke_48 hx1 hx2 hgzZ9_138_2), (zx_X16_poke_49 hx1 hx2), (zx_X16_poke_50 hx1 hx2)⟩).trans ((heq170 x (zx_X16_poke_46 hx1 hx2 hgzZ9_138_1)).trans ((heq160 x (zx_X16_poke_45 hx1 hx2 hgzZ9_138_0)).trans ((heq148 x ⟨(zx_X16_poke_44 hx1 hx2), (zx_X16_poke_46 hx1 hx2 hgzZ9_138_1)⟩).trans ((heq142 x ⟨(zx_X16_poke_44 hx1 hx2), (zx_X16_poke_45 hx1 hx2 hgzZ9_138_0)⟩).trans ((heq138 x (zx_X16_poke_44 hx1 hx2)).trans (heq132 x (by omega))))))))))
                          have hb112 : zGr w187 (m + 212) 60 46 := hGb0.ag (fun x hx1 hx2 => ((heq187 x (by omega)).trans ((heq178 x ⟨(zx_X16_poke_52 hx1 hx2 hgzZ9_138_0), (zx_X16_poke_53 hx1 hx2 hgzZ9_138_1), (zx_X16_poke_54 hx1 hx2 hgzZ9_138_0), (zx_X16_poke_55 hx1 hx2 hgzZ9_138_2), (zx_X16_poke_56 hx1 hx2), (zx_X16_poke_57 hx1 hx2)⟩).trans ((heq170 x (zx_X16_poke_53 hx1 hx2 hgzZ9_138_1)).trans ((heq160 x (zx_X16_poke_52 hx1 hx2 hgzZ9_138_0)).trans ((heq148 x ⟨(zx_X16_poke_51 hx1 hx2), (zx_X16_poke_53 hx1 hx2 hgzZ9_138_1)⟩).trans ((heq142 x ⟨(zx_X16_poke_51 hx1 hx2), (zx_X16_poke_52 hx1 hx2 hgzZ9_138_0)⟩).trans ((heq138 x (zx_X16_poke_51 hx1 hx2)).trans (heq132 x (by omega))))))))))
                          have hb113 : zBd w187 (m + 149) := hBd0.ag (fun x hx1 hx2 => ((heq187 x (by omega)).trans ((heq178 x ⟨(zx_X16_poke_59 hx1 hx2 hgzZ9_138_0), (zx_X16_poke_60 hx1 hx2 hgzZ9_138_1), (zx_X16_poke_61 hx1 hx2 hgzZ9_138_0), (zx_X16_poke_62 hx1 hx2 hgzZ9_138_2), (zx_X16_poke_63 hx1 hx2), (zx_X16_poke_64 hx1 hx2)⟩).trans ((heq170 x (zx_X16_poke_60 hx1 hx2 hgzZ9_138_1)).trans ((heq160 x (zx_X16_poke_59 hx1 hx2 hgzZ9_138_0)).trans ((heq148 x ⟨(zx_X16_poke_58 hx1 hx2), (zx_X16_poke_60 hx1 hx2 hgzZ9_138_1)⟩).trans ((heq142 x ⟨(zx_X16_poke_58 hx1 hx2), (zx_X16_poke_59 hx1 hx2 hgzZ9_138_0)⟩).trans ((heq138 x (zx_X16_poke_58 hx1 hx2)).trans (heq132 x (by omega))))))))))
                          have hb114 : w187 (m + 94) = some (.inr (0, 60, .inl ff)) := ((heq187 (m + 94) (by omega)).trans ((heq178 (m + 94) ⟨(zx_X16_poke_66 hgzZ9_138_0), (zx_X16_poke_67 hgzZ9_138_1), (zx_X16_poke_68 hgzZ9_138_0), (zx_X16_poke_69 hgzZ9_138_2), (zx_X16_poke_70), (zx_X16_poke_71)⟩).trans ((heq170 (m + 94) (zx_X16_poke_67 hgzZ9_138_1)).trans ((heq160 (m + 94) (zx_X16_poke_66 hgzZ9_138_0)).trans ((heq148 (m + 94) ⟨(zx_X16_poke_65), (zx_X16_poke_67 hgzZ9_138_1)⟩).trans ((heq142 (m + 94) ⟨(zx_X16_poke_65), (zx_X16_poke_66 hgzZ9_138_0)⟩).trans ((heq138 (m + 94) (zx_X16_poke_65)).trans (heq132 (m + 94) (by omega))))))))).trans hAf0
                          refine zr_retI (by decide +kernel) rfl ?_
                          rw [← hPost]; exact ⟨rfl, _, rfl, (((((((hsi132.tr hsi138).tr hsi142).tr hsi148).tr hsi160).tr hsi170).tr hsi178).tr hsi187), hoffend, ⟨_, _, hb105, hb106, hSl192, hb107, hb108, ⟨_, hb114, hff⟩, hb109, hb110, hb111, hb112, hb113, hI12, hI24, hI29, hI31, hIn⟩, _, rfl, trivial⟩
                  ·
                    have f116 := znleI cc70
                    rw [show (12 : Int32).toInt = 12 from by decide] at f116
                    refine zp_seg (pc' := 74) (lv' := [(6, .ref (m + 7486 + 9 * s9.toNatClampNeg)), (0, .ref m), (1, .int s9), (2, .int mm), (3, .int i), (4, .int j), (5, .int v)]) (st' := [.int (Int32.ofInt (-1))]) [(73, .iconst (-1))] (by decide +kernel) rfl ?_
                    have hoffend : ∀ x, (x < m + 0 ∨ m + 0 + 8322 ≤ x) → w x = w x := fun x hx => rfl
                    refine zr_retI (by decide +kernel) rfl ?_
                    rw [← hPost]; exact ⟨rfl, _, rfl, zSI.rf, hoffend, ⟨_, _, hm, hR_m, hSl0, hMd0, hPl0, ⟨_, hAf0, hff⟩, hBo0, hBl0, hGa0, hGb0, hBd0, hI12, hI24, hI29, hI31, hIn⟩, _, rfl, trivial⟩
    ·
      have k117 := zrng (g1 0)
      have f119 := zneI cc23
      rw [show (3 : Int32).toInt = 3 from by decide] at f119
      refine zp_seg (pc' := 28) (lv' := [(6, .ref (m + 7486 + 9 * s9.toNatClampNeg)), (0, .ref m), (1, .int s9), (2, .int mm), (3, .int i), (4, .int j), (5, .int v)]) (st' := [.int (Int32.ofInt (-3))]) [(26, .bipush (-3))] (by decide +kernel) rfl ?_
      have hoffend : ∀ x, (x < m + 0 ∨ m + 0 + 8322 ≤ x) → w x = w x := fun x hx => rfl
      refine zr_retI (by decide +kernel) rfl ?_
      rw [← hPost]; exact ⟨rfl, _, rfl, zSI.rf, hoffend, ⟨_, _, hm, hR_m, hSl0, hMd0, hPl0, ⟨_, hAf0, hff⟩, hBo0, hBl0, hGa0, hGb0, hBd0, hI12, hI24, hI29, hI31, hIn⟩, _, rfl, trivial⟩
  ·
    replace cc4 := Classical.not_not.mp cc4
    have f122 := zeqI cc4
    rw [show (0 : Int32).toInt = 0 from by decide] at f122
    refine zp_seg (pc' := 8) (lv' := [(0, .ref m), (1, .int s9), (2, .int mm), (3, .int i), (4, .int j), (5, .int v)]) (st' := [.int (Int32.ofInt (-1))]) [(7, .iconst (-1))] (by decide +kernel) rfl ?_
    have hoffend : ∀ x, (x < m + 0 ∨ m + 0 + 8322 ≤ x) → w x = w x := fun x hx => rfl
    refine zr_retI (by decide +kernel) rfl ?_
    rw [← hPost]; exact ⟨rfl, _, rfl, zSI.rf, hoffend, ⟨_, _, hm, hR_m, hSl0, hMd0, hPl0, ⟨_, hAf0, hff⟩, hBo0, hBl0, hGa0, hGb0, hBd0, hI12, hI24, hI29, hI31, hIn⟩, _, rfl, trivial⟩
