theorem zx_X16_quotient__0 {GZ9_65_0 m x : Nat} (h0 : m + 596 + 130 * GZ9_65_0 ≤ x) (h1 : x < m + 596 + 130 * GZ9_65_0 + 130) (h2 : GZ9_65_0 = 0) : x < m ∨ m + 1 ≤ x := by omega
theorem zx_X16_quotient__1 {GZ9_65_0 GZ9_65_1 m x : Nat} (h0 : m + 596 + 130 * GZ9_65_0 ≤ x) (h1 : x < m + 596 + 130 * GZ9_65_0 + 130) (h2 : GZ9_65_0 = 0) (h3 : GZ9_65_1 = 1) : x < m + 596 + 130 * GZ9_65_1 ∨ m + 596 + 130 * GZ9_65_1 + 130 ≤ x := by omega
theorem zx_X16_quotient__2 {m x : Nat} (h0 : m + 83 ≤ x) (h1 : x < m + 83 + 9) : x < m ∨ m + 1 ≤ x := by omega
theorem zx_X16_quotient__3 {GZ9_65_0 m x : Nat} (h0 : m + 83 ≤ x) (h1 : x < m + 83 + 9) (h2 : GZ9_65_0 = 0) : x < m + 596 + 130 * GZ9_65_0 ∨ m + 596 + 130 * GZ9_65_0 + 130 ≤ x := by omega
theorem zx_X16_quotient__4 {GZ9_65_1 m x : Nat} (h0 : m + 83 ≤ x) (h1 : x < m + 83 + 9) (h2 : GZ9_65_1 = 1) : x < m + 596 + 130 * GZ9_65_1 ∨ m + 596 + 130 * GZ9_65_1 + 130 ≤ x := by omega
theorem zx_X16_quotient__5 {m x : Nat} (h0 : m + 83 ≤ x) (h1 : x < m + 83 + 9) : x < m + 96 ∨ m + 96 + 4 ≤ x := by omega
theorem zx_X16_quotient__6 {GZ9_65_0 m x : Nat} (h0 : m + 83 ≤ x) (h1 : x < m + 83 + 9) (h2 : GZ9_65_0 = 0) : x < m + 276 + 2 * GZ9_65_0 ∨ m + 276 + 2 * GZ9_65_0 + (320 - 2 * GZ9_65_0) ≤ x := by omega
theorem zx_X16_quotient__7 {GZ9_65_2 m x : Nat} (h0 : m + 83 ≤ x) (h1 : x < m + 83 + 9) (h2 : GZ9_65_2 = 2) : x < m + 596 + 130 * GZ9_65_2 ∨ m + 596 + 130 * GZ9_65_2 + (5720 - 130 * GZ9_65_2) ≤ x := by omega
theorem zx_X16_quotient__8 {m x : Nat} (h0 : m + 83 ≤ x) (h1 : x < m + 83 + 9) : x < m + 3 ∨ m + 3 + 1 ≤ x := by omega
theorem zx_X16_quotient__9 {m x : Nat} (h0 : m + 83 ≤ x) (h1 : x < m + 83 + 9) : x < m + 5 ∨ m + 5 + 64 ≤ x := by omega
theorem zx_X16_quotient__10 {m : Nat}  : m < m + 83 ∨ m + 83 + 1 ≤ m := by omega
theorem zx_X16_quotient__11 {m : Nat}  : (m + 83 + 1) < m + 83 ∨ m + 83 + 1 ≤ (m + 83 + 1) := by omega
theorem zx_X16_quotient__12 {m : Nat}  : (m + 83 + 2) < m + 83 ∨ m + 83 + 1 ≤ (m + 83 + 2) := by omega
theorem zx_X16_quotient__13 {GZ9_65_0 m x : Nat} (h0 : m + 596 + 130 * GZ9_65_0 ≤ x) (h1 : x < m + 596 + 130 * GZ9_65_0 + 130) (h2 : GZ9_65_0 = 0) : x < m + 83 ∨ m + 83 + 1 ≤ x := by omega
theorem zx_X16_quotient__14 {GZ9_65_1 m x : Nat} (h0 : m + 596 + 130 * GZ9_65_1 ≤ x) (h1 : x < m + 596 + 130 * GZ9_65_1 + 130) (h2 : GZ9_65_1 = 1) : x < m + 83 ∨ m + 83 + 1 ≤ x := by omega
theorem zx_X16_quotient__15 {m : Nat}  : (m + 83) < m + 83 + 1 ∨ m + 83 + 1 + 2 ≤ (m + 83) := by omega
theorem zx_X16_quotient__16 {m : Nat}  : (m + 83 + 3) < m + 83 ∨ m + 83 + 1 ≤ (m + 83 + 3) := by omega
theorem zx_X16_quotient__17 {m : Nat}  : (m + 83 + 3) < m + 83 + 1 ∨ m + 83 + 1 + 2 ≤ (m + 83 + 3) := by omega
theorem zx_X16_quotient__18 {m : Nat}  : (m + 83 + 4) < m + 83 ∨ m + 83 + 1 ≤ (m + 83 + 4) := by omega
theorem zx_X16_quotient__19 {m : Nat}  : (m + 83 + 4) < m + 83 + 1 ∨ m + 83 + 1 + 2 ≤ (m + 83 + 4) := by omega
theorem zx_X16_quotient__20 {m : Nat}  : (m + 83 + 5) < m + 83 ∨ m + 83 + 1 ≤ (m + 83 + 5) := by omega
theorem zx_X16_quotient__21 {m : Nat}  : (m + 83 + 5) < m + 83 + 1 ∨ m + 83 + 1 + 2 ≤ (m + 83 + 5) := by omega
theorem zx_X16_quotient__22 {m : Nat}  : (m + 83 + 6) < m + 83 ∨ m + 83 + 1 ≤ (m + 83 + 6) := by omega
theorem zx_X16_quotient__23 {m : Nat}  : (m + 83 + 6) < m + 83 + 1 ∨ m + 83 + 1 + 2 ≤ (m + 83 + 6) := by omega
theorem zx_X16_quotient__24 {m : Nat}  : (m + 83 + 7) < m + 83 ∨ m + 83 + 1 ≤ (m + 83 + 7) := by omega
theorem zx_X16_quotient__25 {m : Nat}  : (m + 83 + 7) < m + 83 + 1 ∨ m + 83 + 1 + 2 ≤ (m + 83 + 7) := by omega
theorem zx_X16_quotient__26 {m : Nat}  : (m + 83 + 8) < m + 83 ∨ m + 83 + 1 ≤ (m + 83 + 8) := by omega
theorem zx_X16_quotient__27 {m : Nat}  : (m + 83 + 8) < m + 83 + 1 ∨ m + 83 + 1 + 2 ≤ (m + 83 + 8) := by omega
theorem zx_X16_quotient__28 {m x : Nat} (h0 : m + 7486 ≤ x) (h1 : x < m + 7486 + 108) : x < m ∨ m + 1 ≤ x := by omega
theorem zx_X16_quotient__29 {GZ9_65_0 m x : Nat} (h0 : m + 7486 ≤ x) (h1 : x < m + 7486 + 108) (h2 : GZ9_65_0 = 0) : x < m + 596 + 130 * GZ9_65_0 ∨ m + 596 + 130 * GZ9_65_0 + 130 ≤ x := by omega
theorem zx_X16_quotient__30 {GZ9_65_1 m x : Nat} (h0 : m + 7486 ≤ x) (h1 : x < m + 7486 + 108) (h2 : GZ9_65_1 = 1) : x < m + 596 + 130 * GZ9_65_1 ∨ m + 596 + 130 * GZ9_65_1 + 130 ≤ x := by omega
theorem zx_X16_quotient__31 {m x : Nat} (h0 : m + 7486 ≤ x) (h1 : x < m + 7486 + 108) : x < m + 96 ∨ m + 96 + 4 ≤ x := by omega
theorem zx_X16_quotient__32 {GZ9_65_0 m x : Nat} (h0 : m + 7486 ≤ x) (h1 : x < m + 7486 + 108) (h2 : GZ9_65_0 = 0) : x < m + 276 + 2 * GZ9_65_0 ∨ m + 276 + 2 * GZ9_65_0 + (320 - 2 * GZ9_65_0) ≤ x := by omega
theorem zx_X16_quotient__33 {GZ9_65_2 m x : Nat} (h0 : m + 7486 ≤ x) (h1 : x < m + 7486 + 108) (h2 : GZ9_65_2 = 2) : x < m + 596 + 130 * GZ9_65_2 ∨ m + 596 + 130 * GZ9_65_2 + (5720 - 130 * GZ9_65_2) ≤ x := by omega
theorem zx_X16_quotient__34 {m x : Nat} (h0 : m + 7486 ≤ x) (h1 : x < m + 7486 + 108) : x < m + 3 ∨ m + 3 + 1 ≤ x := by omega
theorem zx_X16_quotient__35 {m x : Nat} (h0 : m + 7486 ≤ x) (h1 : x < m + 7486 + 108) : x < m + 5 ∨ m + 5 + 64 ≤ x := by omega
theorem zx_X16_quotient__36 {m x : Nat} (h0 : m + 7486 ≤ x) (h1 : x < m + 7486 + 108) : x < m + 83 ∨ m + 83 + 1 ≤ x := by omega
theorem zx_X16_quotient__37 {m x : Nat} (h0 : m + 7486 ≤ x) (h1 : x < m + 7486 + 108) : x < m + 83 + 1 ∨ m + 83 + 1 + 2 ≤ x := by omega
theorem zx_X16_quotient__38 {m : Nat}  : m < m + 83 + 1 ∨ m + 83 + 1 + 2 ≤ m := by omega
theorem zx_X16_quotient__39 {m x : Nat} (h0 : x < m + 0 ∨ m + 0 + 8322 ≤ x) : x < m ∨ m + 1 ≤ x := by omega
theorem zx_X16_quotient__40 {GZ9_65_0 m x : Nat} (h0 : x < m + 0 ∨ m + 0 + 8322 ≤ x) (h1 : GZ9_65_0 = 0) : x < m + 596 + 130 * GZ9_65_0 ∨ m + 596 + 130 * GZ9_65_0 + 130 ≤ x := by omega
theorem zx_X16_quotient__41 {GZ9_65_1 m x : Nat} (h0 : x < m + 0 ∨ m + 0 + 8322 ≤ x) (h1 : GZ9_65_1 = 1) : x < m + 596 + 130 * GZ9_65_1 ∨ m + 596 + 130 * GZ9_65_1 + 130 ≤ x := by omega
theorem zx_X16_quotient__42 {m x : Nat} (h0 : x < m + 0 ∨ m + 0 + 8322 ≤ x) : x < m + 96 ∨ m + 96 + 4 ≤ x := by omega
theorem zx_X16_quotient__43 {GZ9_65_0 m x : Nat} (h0 : x < m + 0 ∨ m + 0 + 8322 ≤ x) (h1 : GZ9_65_0 = 0) : x < m + 276 + 2 * GZ9_65_0 ∨ m + 276 + 2 * GZ9_65_0 + (320 - 2 * GZ9_65_0) ≤ x := by omega
theorem zx_X16_quotient__44 {GZ9_65_2 m x : Nat} (h0 : x < m + 0 ∨ m + 0 + 8322 ≤ x) (h1 : GZ9_65_2 = 2) : x < m + 596 + 130 * GZ9_65_2 ∨ m + 596 + 130 * GZ9_65_2 + (5720 - 130 * GZ9_65_2) ≤ x := by omega
theorem zx_X16_quotient__45 {m x : Nat} (h0 : x < m + 0 ∨ m + 0 + 8322 ≤ x) : x < m + 3 ∨ m + 3 + 1 ≤ x := by omega
theorem zx_X16_quotient__46 {m x : Nat} (h0 : x < m + 0 ∨ m + 0 + 8322 ≤ x) : x < m + 5 ∨ m + 5 + 64 ≤ x := by omega
theorem zx_X16_quotient__47 {m x : Nat} (h0 : x < m + 0 ∨ m + 0 + 8322 ≤ x) : x < m + 83 ∨ m + 83 + 1 ≤ x := by omega
theorem zx_X16_quotient__48 {m x : Nat} (h0 : x < m + 0 ∨ m + 0 + 8322 ≤ x) : x < m + 83 + 1 ∨ m + 83 + 1 + 2 ≤ x := by omega
theorem zx_X16_quotient__49 {m x : Nat} (h0 : m + 6316 ≤ x) (h1 : x < m + 6316 + 1170) : x < m ∨ m + 1 ≤ x := by omega
theorem zx_X16_quotient__50 {GZ9_65_0 m x : Nat} (h0 : m + 6316 ≤ x) (h1 : x < m + 6316 + 1170) (h2 : GZ9_65_0 = 0) : x < m + 596 + 130 * GZ9_65_0 ∨ m + 596 + 130 * GZ9_65_0 + 130 ≤ x := by omega
theorem zx_X16_quotient__51 {GZ9_65_1 m x : Nat} (h0 : m + 6316 ≤ x) (h1 : x < m + 6316 + 1170) (h2 : GZ9_65_1 = 1) : x < m + 596 + 130 * GZ9_65_1 ∨ m + 596 + 130 * GZ9_65_1 + 130 ≤ x := by omega
theorem zx_X16_quotient__52 {m x : Nat} (h0 : m + 6316 ≤ x) (h1 : x < m + 6316 + 1170) : x < m + 96 ∨ m + 96 + 4 ≤ x := by omega
theorem zx_X16_quotient__53 {GZ9_65_0 m x : Nat} (h0 : m + 6316 ≤ x) (h1 : x < m + 6316 + 1170) (h2 : GZ9_65_0 = 0) : x < m + 276 + 2 * GZ9_65_0 ∨ m + 276 + 2 * GZ9_65_0 + (320 - 2 * GZ9_65_0) ≤ x := by omega
theorem zx_X16_quotient__54 {GZ9_65_2 m x : Nat} (h0 : m + 6316 ≤ x) (h1 : x < m + 6316 + 1170) (h2 : GZ9_65_2 = 2) : x < m + 596 + 130 * GZ9_65_2 ∨ m + 596 + 130 * GZ9_65_2 + (5720 - 130 * GZ9_65_2) ≤ x := by omega
theorem zx_X16_quotient__55 {m x : Nat} (h0 : m + 6316 ≤ x) (h1 : x < m + 6316 + 1170) : x < m + 3 ∨ m + 3 + 1 ≤ x := by omega
theorem zx_X16_quotient__56 {m x : Nat} (h0 : m + 6316 ≤ x) (h1 : x < m + 6316 + 1170) : x < m + 5 ∨ m + 5 + 64 ≤ x := by omega
theorem zx_X16_quotient__57 {m x : Nat} (h0 : m + 6316 ≤ x) (h1 : x < m + 6316 + 1170) : x < m + 83 ∨ m + 83 + 1 ≤ x := by omega
theorem zx_X16_quotient__58 {m x : Nat} (h0 : m + 6316 ≤ x) (h1 : x < m + 6316 + 1170) : x < m + 83 + 1 ∨ m + 83 + 1 + 2 ≤ x := by omega
theorem zx_X16_quotient__59 {m x : Nat} (h0 : m + 92 ≤ x) (h1 : x < m + 92 + 1) : x < m ∨ m + 1 ≤ x := by omega
theorem zx_X16_quotient__60 {GZ9_65_0 m x : Nat} (h0 : m + 92 ≤ x) (h1 : x < m + 92 + 1) (h2 : GZ9_65_0 = 0) : x < m + 596 + 130 * GZ9_65_0 ∨ m + 596 + 130 * GZ9_65_0 + 130 ≤ x := by omega
theorem zx_X16_quotient__61 {GZ9_65_1 m x : Nat} (h0 : m + 92 ≤ x) (h1 : x < m + 92 + 1) (h2 : GZ9_65_1 = 1) : x < m + 596 + 130 * GZ9_65_1 ∨ m + 596 + 130 * GZ9_65_1 + 130 ≤ x := by omega
theorem zx_X16_quotient__62 {m x : Nat} (h0 : m + 92 ≤ x) (h1 : x < m + 92 + 1) : x < m + 96 ∨ m + 96 + 4 ≤ x := by omega
theorem zx_X16_quotient__63 {GZ9_65_0 m x : Nat} (h0 : m + 92 ≤ x) (h1 : x < m + 92 + 1) (h2 : GZ9_65_0 = 0) : x < m + 276 + 2 * GZ9_65_0 ∨ m + 276 + 2 * GZ9_65_0 + (320 - 2 * GZ9_65_0) ≤ x := by omega
theorem zx_X16_quotient__64 {GZ9_65_2 m x : Nat} (h0 : m + 92 ≤ x) (h1 : x < m + 92 + 1) (h2 : GZ9_65_2 = 2) : x < m + 596 + 130 * GZ9_65_2 ∨ m + 596 + 130 * GZ9_65_2 + (5720 - 130 * GZ9_65_2) ≤ x := by omega
theorem zx_X16_quotient__65 {m x : Nat} (h0 : m + 92 ≤ x) (h1 : x < m + 92 + 1) : x < m + 3 ∨ m + 3 + 1 ≤ x := by omega
theorem zx_X16_quotient__66 {m x : Nat} (h0 : m + 92 ≤ x) (h1 : x < m + 92 + 1) : x < m + 5 ∨ m + 5 + 64 ≤ x := by omega
theorem zx_X16_quotient__67 {m x : Nat} (h0 : m + 92 ≤ x) (h1 : x < m + 92 + 1) : x < m + 83 ∨ m + 83 + 1 ≤ x := by omega
theorem zx_X16_quotient__68 {m x : Nat} (h0 : m + 92 ≤ x) (h1 : x < m + 92 + 1) : x < m + 83 + 1 ∨ m + 83 + 1 + 2 ≤ x := by omega
theorem zx_X16_quotient__69 {m x : Nat} (h0 : m + 93 ≤ x) (h1 : x < m + 93 + 1) : x < m ∨ m + 1 ≤ x := by omega
theorem zx_X16_quotient__70 {GZ9_65_0 m x : Nat} (h0 : m + 93 ≤ x) (h1 : x < m + 93 + 1) (h2 : GZ9_65_0 = 0) : x < m + 596 + 130 * GZ9_65_0 ∨ m + 596 + 130 * GZ9_65_0 + 130 ≤ x := by omega
theorem zx_X16_quotient__71 {GZ9_65_1 m x : Nat} (h0 : m + 93 ≤ x) (h1 : x < m + 93 + 1) (h2 : GZ9_65_1 = 1) : x < m + 596 + 130 * GZ9_65_1 ∨ m + 596 + 130 * GZ9_65_1 + 130 ≤ x := by omega
theorem zx_X16_quotient__72 {m x : Nat} (h0 : m + 93 ≤ x) (h1 : x < m + 93 + 1) : x < m + 96 ∨ m + 96 + 4 ≤ x := by omega
theorem zx_X16_quotient__73 {GZ9_65_0 m x : Nat} (h0 : m + 93 ≤ x) (h1 : x < m + 93 + 1) (h2 : GZ9_65_0 = 0) : x < m + 276 + 2 * GZ9_65_0 ∨ m + 276 + 2 * GZ9_65_0 + (320 - 2 * GZ9_65_0) ≤ x := by omega
theorem zx_X16_quotient__74 {GZ9_65_2 m x : Nat} (h0 : m + 93 ≤ x) (h1 : x < m + 93 + 1) (h2 : GZ9_65_2 = 2) : x < m + 596 + 130 * GZ9_65_2 ∨ m + 596 + 130 * GZ9_65_2 + (5720 - 130 * GZ9_65_2) ≤ x := by omega
theorem zx_X16_quotient__75 {m x : Nat} (h0 : m + 93 ≤ x) (h1 : x < m + 93 + 1) : x < m + 3 ∨ m + 3 + 1 ≤ x := by omega
theorem zx_X16_quotient__76 {m x : Nat} (h0 : m + 93 ≤ x) (h1 : x < m + 93 + 1) : x < m + 5 ∨ m + 5 + 64 ≤ x := by omega
theorem zx_X16_quotient__77 {m x : Nat} (h0 : m + 93 ≤ x) (h1 : x < m + 93 + 1) : x < m + 83 ∨ m + 83 + 1 ≤ x := by omega
theorem zx_X16_quotient__78 {m x : Nat} (h0 : m + 93 ≤ x) (h1 : x < m + 93 + 1) : x < m + 83 + 1 ∨ m + 83 + 1 + 2 ≤ x := by omega
theorem zx_X16_quotient__79 {m x : Nat} (h0 : m + 100 ≤ x) (h1 : x < m + 100 + 49) : x < m ∨ m + 1 ≤ x := by omega
theorem zx_X16_quotient__80 {GZ9_65_0 m x : Nat} (h0 : m + 100 ≤ x) (h1 : x < m + 100 + 49) (h2 : GZ9_65_0 = 0) : x < m + 596 + 130 * GZ9_65_0 ∨ m + 596 + 130 * GZ9_65_0 + 130 ≤ x := by omega
theorem zx_X16_quotient__81 {GZ9_65_1 m x : Nat} (h0 : m + 100 ≤ x) (h1 : x < m + 100 + 49) (h2 : GZ9_65_1 = 1) : x < m + 596 + 130 * GZ9_65_1 ∨ m + 596 + 130 * GZ9_65_1 + 130 ≤ x := by omega
theorem zx_X16_quotient__82 {m x : Nat} (h0 : m + 100 ≤ x) (h1 : x < m + 100 + 49) : x < m + 96 ∨ m + 96 + 4 ≤ x := by omega
theorem zx_X16_quotient__83 {GZ9_65_0 m x : Nat} (h0 : m + 100 ≤ x) (h1 : x < m + 100 + 49) (h2 : GZ9_65_0 = 0) : x < m + 276 + 2 * GZ9_65_0 ∨ m + 276 + 2 * GZ9_65_0 + (320 - 2 * GZ9_65_0) ≤ x := by omega
theorem zx_X16_quotient__84 {GZ9_65_2 m x : Nat} (h0 : m + 100 ≤ x) (h1 : x < m + 100 + 49) (h2 : GZ9_65_2 = 2) : x < m + 596 + 130 * GZ9_65_2 ∨ m + 596 + 130 * GZ9_65_2 + (5720 - 130 * GZ9_65_2) ≤ x := by omega
theorem zx_X16_quotient__85 {m x : Nat} (h0 : m + 100 ≤ x) (h1 : x < m + 100 + 49) : x < m + 3 ∨ m + 3 + 1 ≤ x := by omega
theorem zx_X16_quotient__86 {m x : Nat} (h0 : m + 100 ≤ x) (h1 : x < m + 100 + 49) : x < m + 5 ∨ m + 5 + 64 ≤ x := by omega
theorem zx_X16_quotient__87 {m x : Nat} (h0 : m + 100 ≤ x) (h1 : x < m + 100 + 49) : x < m + 83 ∨ m + 83 + 1 ≤ x := by omega
theorem zx_X16_quotient__88 {m x : Nat} (h0 : m + 100 ≤ x) (h1 : x < m + 100 + 49) : x < m + 83 + 1 ∨ m + 83 + 1 + 2 ≤ x := by omega
theorem zx_X16_quotient__89 {m x : Nat} (h0 : m + 212 ≤ x) (h1 : x < m + 212 + 61) : x < m ∨ m + 1 ≤ x := by omega
theorem zx_X16_quotient__90 {GZ9_65_0 m x : Nat} (h0 : m + 212 ≤ x) (h1 : x < m + 212 + 61) (h2 : GZ9_65_0 = 0) : x < m + 596 + 130 * GZ9_65_0 ∨ m + 596 + 130 * GZ9_65_0 + 130 ≤ x := by omega
theorem zx_X16_quotient__91 {GZ9_65_1 m x : Nat} (h0 : m + 212 ≤ x) (h1 : x < m + 212 + 61) (h2 : GZ9_65_1 = 1) : x < m + 596 + 130 * GZ9_65_1 ∨ m + 596 + 130 * GZ9_65_1 + 130 ≤ x := by omega
theorem zx_X16_quotient__92 {m x : Nat} (h0 : m + 212 ≤ x) (h1 : x < m + 212 + 61) : x < m + 96 ∨ m + 96 + 4 ≤ x := by omega
theorem zx_X16_quotient__93 {GZ9_65_0 m x : Nat} (h0 : m + 212 ≤ x) (h1 : x < m + 212 + 61) (h2 : GZ9_65_0 = 0) : x < m + 276 + 2 * GZ9_65_0 ∨ m + 276 + 2 * GZ9_65_0 + (320 - 2 * GZ9_65_0) ≤ x := by omega
theorem zx_X16_quotient__94 {GZ9_65_2 m x : Nat} (h0 : m + 212 ≤ x) (h1 : x < m + 212 + 61) (h2 : GZ9_65_2 = 2) : x < m + 596 + 130 * GZ9_65_2 ∨ m + 596 + 130 * GZ9_65_2 + (5720 - 130 * GZ9_65_2) ≤ x := by omega
theorem zx_X16_quotient__95 {m x : Nat} (h0 : m + 212 ≤ x) (h1 : x < m + 212 + 61) : x < m + 3 ∨ m + 3 + 1 ≤ x := by omega
theorem zx_X16_quotient__96 {m x : Nat} (h0 : m + 212 ≤ x) (h1 : x < m + 212 + 61) : x < m + 5 ∨ m + 5 + 64 ≤ x := by omega
theorem zx_X16_quotient__97 {m x : Nat} (h0 : m + 212 ≤ x) (h1 : x < m + 212 + 61) : x < m + 83 ∨ m + 83 + 1 ≤ x := by omega
theorem zx_X16_quotient__98 {m x : Nat} (h0 : m + 212 ≤ x) (h1 : x < m + 212 + 61) : x < m + 83 + 1 ∨ m + 83 + 1 + 2 ≤ x := by omega
theorem zx_X16_quotient__99 {m x : Nat} (h0 : m + 149 ≤ x) (h1 : x < m + 149 + 27) : x < m ∨ m + 1 ≤ x := by omega
theorem zx_X16_quotient__100 {GZ9_65_0 m x : Nat} (h0 : m + 149 ≤ x) (h1 : x < m + 149 + 27) (h2 : GZ9_65_0 = 0) : x < m + 596 + 130 * GZ9_65_0 ∨ m + 596 + 130 * GZ9_65_0 + 130 ≤ x := by omega
theorem zx_X16_quotient__101 {GZ9_65_1 m x : Nat} (h0 : m + 149 ≤ x) (h1 : x < m + 149 + 27) (h2 : GZ9_65_1 = 1) : x < m + 596 + 130 * GZ9_65_1 ∨ m + 596 + 130 * GZ9_65_1 + 130 ≤ x := by omega
theorem zx_X16_quotient__102 {m x : Nat} (h0 : m + 149 ≤ x) (h1 : x < m + 149 + 27) : x < m + 96 ∨ m + 96 + 4 ≤ x := by omega
theorem zx_X16_quotient__103 {GZ9_65_0 m x : Nat} (h0 : m + 149 ≤ x) (h1 : x < m + 149 + 27) (h2 : GZ9_65_0 = 0) : x < m + 276 + 2 * GZ9_65_0 ∨ m + 276 + 2 * GZ9_65_0 + (320 - 2 * GZ9_65_0) ≤ x := by omega
theorem zx_X16_quotient__104 {GZ9_65_2 m x : Nat} (h0 : m + 149 ≤ x) (h1 : x < m + 149 + 27) (h2 : GZ9_65_2 = 2) : x < m + 596 + 130 * GZ9_65_2 ∨ m + 596 + 130 * GZ9_65_2 + (5720 - 130 * GZ9_65_2) ≤ x := by omega
theorem zx_X16_quotient__105 {m x : Nat} (h0 : m + 149 ≤ x) (h1 : x < m + 149 + 27) : x < m + 3 ∨ m + 3 + 1 ≤ x := by omega
theorem zx_X16_quotient__106 {m x : Nat} (h0 : m + 149 ≤ x) (h1 : x < m + 149 + 27) : x < m + 5 ∨ m + 5 + 64 ≤ x := by omega
theorem zx_X16_quotient__107 {m x : Nat} (h0 : m + 149 ≤ x) (h1 : x < m + 149 + 27) : x < m + 83 ∨ m + 83 + 1 ≤ x := by omega
theorem zx_X16_quotient__108 {m x : Nat} (h0 : m + 149 ≤ x) (h1 : x < m + 149 + 27) : x < m + 83 + 1 ∨ m + 83 + 1 + 2 ≤ x := by omega
theorem zx_X16_quotient__109 {m : Nat}  : (m + 94) < m ∨ m + 1 ≤ (m + 94) := by omega
theorem zx_X16_quotient__110 {GZ9_65_0 m : Nat} (h0 : GZ9_65_0 = 0) : (m + 94) < m + 596 + 130 * GZ9_65_0 ∨ m + 596 + 130 * GZ9_65_0 + 130 ≤ (m + 94) := by omega
theorem zx_X16_quotient__111 {GZ9_65_1 m : Nat} (h0 : GZ9_65_1 = 1) : (m + 94) < m + 596 + 130 * GZ9_65_1 ∨ m + 596 + 130 * GZ9_65_1 + 130 ≤ (m + 94) := by omega
theorem zx_X16_quotient__112 {m : Nat}  : (m + 94) < m + 96 ∨ m + 96 + 4 ≤ (m + 94) := by omega
theorem zx_X16_quotient__113 {GZ9_65_0 m : Nat} (h0 : GZ9_65_0 = 0) : (m + 94) < m + 276 + 2 * GZ9_65_0 ∨ m + 276 + 2 * GZ9_65_0 + (320 - 2 * GZ9_65_0) ≤ (m + 94) := by omega
theorem zx_X16_quotient__114 {GZ9_65_2 m : Nat} (h0 : GZ9_65_2 = 2) : (m + 94) < m + 596 + 130 * GZ9_65_2 ∨ m + 596 + 130 * GZ9_65_2 + (5720 - 130 * GZ9_65_2) ≤ (m + 94) := by omega
theorem zx_X16_quotient__115 {m : Nat}  : (m + 94) < m + 3 ∨ m + 3 + 1 ≤ (m + 94) := by omega
theorem zx_X16_quotient__116 {m : Nat}  : (m + 94) < m + 5 ∨ m + 5 + 64 ≤ (m + 94) := by omega
theorem zx_X16_quotient__117 {m : Nat}  : (m + 94) < m + 83 ∨ m + 83 + 1 ≤ (m + 94) := by omega
theorem zx_X16_quotient__118 {m : Nat}  : (m + 94) < m + 83 + 1 ∨ m + 83 + 1 + 2 ≤ (m + 94) := by omega
set_option maxHeartbeats 8000000 in
set_option maxRecDepth 100000 in
theorem c_X16_quotient_ {w : zM} {n9 : Int32} (m : Nat) (s9 : Int32) (way : Int32) (to : Int32) (hI : zInv w m n9) : zCon 12 zq_X16_quotient_ [.ref m, .int s9, .int way, .int to] w (fun v9 w9' => zSI w w9' ∧ (∀ x, (x < m + 0 ∨ m + 0 + 8322 ≤ x) → w9' x = w x) ∧ zInv w9' m n9 ∧ ∃ r9 : Int32, v9 = some (.int r9) ∧ True) := by
  intro d sz hd
  obtain ⟨d, rfl⟩ : ∃ d9, d = d9 + 1 := ⟨d - 1, by omega⟩
  generalize hPost : (fun (r9' : Option (Option Value)) (w9' : zM) (z9 : Nat) => z9 = sz ∧ ∃ v9, r9' = some v9 ∧ (zSI w w9' ∧ (∀ x, (x < m + 0 ∨ m + 0 + 8322 ≤ x) → w9' x = w x) ∧ zInv w9' m n9 ∧ ∃ r9 : Int32, v9 = some (.int r9) ∧ True)) = Post
  show zP (d + 1) zq_X16_quotient_ 0 [(0, .ref m), (1, .int s9), (2, .int way), (3, .int to)] [] w sz 0 0 Post
  have k1 := zrng s9
  have k2 := zrng way
  have k3 := zrng to
  obtain ⟨g, r, hm, hR_m, hSl0, hMd0, hPl0, ⟨ff, hAf0, hff⟩, hBo0, hBl0, hGa0, hGb0, hBd0, hI12, hI24, hI29, hI31, hIn⟩ := hI
  have k4 := zrng (g 12)
  have hz5 : ((g 12).toNatClampNeg : Int) = (g 12).toInt := znat (by first | omega | decide)
  have k6 := zrng (g 24)
  have hz7 : ((g 24).toNatClampNeg : Int) = (g 24).toInt := znat (by first | omega | decide)
  have k8 := zrng (g 29)
  have hz9 : ((g 29).toNatClampNeg : Int) = (g 29).toInt := znat (by first | omega | decide)
  have k10 := zrng (g 31)
  have hz11 : ((g 31).toNatClampNeg : Int) = (g 31).toInt := znat (by first | omega | decide)
  refine zp_seg (pc' := 1) (lv' := [(0, .ref m), (1, .int s9), (2, .int way), (3, .int to)]) (st' := [.int s9]) [(0, .iload_n 1)] (by decide +kernel) rfl ?_
  refine zr_callS (idx := 551) (j := 336) (by decide +kernel) (by decide +kernel) (by decide) (show zMe 336 = some zq_X16_isSlot from rfl) rfl rfl (Nat.le_of_ble_eq_true rfl) rfl rfl (Nat.le_of_ble_eq_true rfl) (Nat.le_of_ble_eq_true rfl) (c_X16_isSlot (w := w) s9 ) (by omega) (fun v1 w1 hp1 => ?_)
  obtain ⟨hpw1, r1, rfl, hrb1, hr1⟩ := hp1
  replace hpw1 := hpw1.symm
  subst hpw1
  have kr1 := zrng r1
  show zP _ _ _ _ [.int r1] _ _ _ _ _
  refine zp_if (i := .ifCond .eq 10) (c := r1 = 0) (t := 14) (e := 7) (lv' := [(0, .ref m), (1, .int s9), (2, .int way), (3, .int to)]) (st' := []) (by decide +kernel) rfl (fun cc4 => ?_) (fun cc4 => ?_)
  ·
    have f13 := zeqI cc4
    rw [show (0 : Int32).toInt = 0 from by decide] at f13
    refine zp_seg (pc' := 15) (lv' := [(0, .ref m), (1, .int s9), (2, .int way), (3, .int to)]) (st' := [.int (Int32.ofInt (-1))]) [(14, .iconst (-1))] (by decide +kernel) rfl ?_
    have hoffend : ∀ x, (x < m + 0 ∨ m + 0 + 8322 ≤ x) → w x = w x := fun x hx => rfl
    refine zr_retI (by decide +kernel) rfl ?_
    rw [← hPost]; exact ⟨rfl, _, rfl, zSI.rf, hoffend, ⟨_, _, hm, hR_m, hSl0, hMd0, hPl0, ⟨_, hAf0, hff⟩, hBo0, hBl0, hGa0, hGb0, hBd0, hI12, hI24, hI29, hI31, hIn⟩, _, rfl, trivial⟩
  ·
    have f16 := zneI cc4
    rw [show (0 : Int32).toInt = 0 from by decide] at f16
    refine zp_seg (pc' := 8) (lv' := [(0, .ref m), (1, .int s9), (2, .int way), (3, .int to)]) (st' := [.int to]) [(7, .iload_n 3)] (by decide +kernel) rfl ?_
    refine zr_callS (idx := 551) (j := 336) (by decide +kernel) (by decide +kernel) (by decide) (show zMe 336 = some zq_X16_isSlot from rfl) rfl rfl (Nat.le_of_ble_eq_true rfl) rfl rfl (Nat.le_of_ble_eq_true rfl) (Nat.le_of_ble_eq_true rfl) (c_X16_isSlot (w := w) to ) (by omega) (fun v8 w8 hp8 => ?_)
    obtain ⟨hpw8, r8, rfl, hrb8, hr8⟩ := hp8
    replace hpw8 := hpw8.symm
    subst hpw8
    have kr8 := zrng r8
    show zP _ _ _ _ [.int r8] _ _ _ _ _
    refine zp_if (i := .ifCond .ne 5) (c := ¬ r8 = 0) (t := 16) (e := 14) (lv' := [(0, .ref m), (1, .int s9), (2, .int way), (3, .int to)]) (st' := []) (by decide +kernel) rfl (fun cc11 => ?_) (fun cc11 => ?_)
    ·
      have f17 := zneI cc11
      rw [show (0 : Int32).toInt = 0 from by decide] at f17
      have his1 := hr1 (hrb1.resolve_left cc4)
      have his2 := hr8 (hrb8.resolve_left cc11)
      refine zp_seg (pc' := 17) (lv' := [(0, .ref m), (1, .int s9), (2, .int way), (3, .int to)]) (st' := [.ref m]) [(16, .aload_n 0)] (by decide +kernel) rfl ?_
      refine zr_get (idx := 450) (k := 20) (v := .ref (m + 82)) (by decide +kernel) (by decide +kernel) hm rfl ?_
      refine zp_seg (pc' := 21) (lv' := [(0, .ref m), (1, .int s9), (2, .int way), (3, .int to)]) (st' := [.int s9, .ref (m + 82)]) [(20, .iload_n 1)] (by decide +kernel) rfl ?_
      have hb19 := hR_m.slots
      have hz20 : (s9.toNatClampNeg : Int) = s9.toInt := znat (by first | omega | decide)
      refine zr_aald (v := .ref (m + 7486 + 9 * s9.toNatClampNeg)) (by decide +kernel) hb19 (by decide) (zin (by first | omega | decide) (by first | omega | decide)) (zsl_at (by omega)) ?_
      obtain ⟨kS1, hkS1⟩ := hSl0 s9.toNatClampNeg (by omega)
      obtain ⟨g1, fn1, fd1, fa1, fb1, fc1, fe1, fr1, fu1, hT1, hAn1, hAd1, hAa1, hAb1, hAc1, hAe1, hAr1, hAu1, hK1⟩ := id hkS1
      obtain ⟨hK10, hKn1, hKd1, hKx1, hKm1, hKl1, hKr1, hKu1, hKk1⟩ := id hK1
      refine zp_seg (pc' := 26) (lv' := [(4, .ref (m + 7486 + 9 * s9.toNatClampNeg)), (0, .ref m), (1, .int s9), (2, .int way), (3, .int to)]) (st' := [.ref (m + 7486 + 9 * s9.toNatClampNeg)]) [(22, .astore 4), (24, .aload 4)] (by decide +kernel) rfl ?_
      refine zr_get (idx := 202) (k := 0) (v := .int (g1 0)) (by decide +kernel) (by decide +kernel) hT1 rfl ?_
      refine zp_seg (pc' := 30) (lv' := [(4, .ref (m + 7486 + 9 * s9.toNatClampNeg)), (0, .ref m), (1, .int s9), (2, .int way), (3, .int to)]) (st' := [.int 1, .int (g1 0)]) [(29, .iconst 1)] (by decide +kernel) rfl ?_
      refine zp_if (i := .if_icmp .eq 15) (c := (g1 0) = 1) (t := 45) (e := 33) (lv' := [(4, .ref (m + 7486 + 9 * s9.toNatClampNeg)), (0, .ref m), (1, .int s9), (2, .int way), (3, .int to)]) (st' := []) (by decide +kernel) rfl (fun cc30 => ?_) (fun cc30 => ?_)
      ·
        have k21 := zrng (g1 0)
        have f23 := zeqI cc30
        rw [show (1 : Int32).toInt = 1 from by decide] at f23
        refine zp_seg (pc' := 46) (lv' := [(4, .ref (m + 7486 + 9 * s9.toNatClampNeg)), (0, .ref m), (1, .int s9), (2, .int way), (3, .int to)]) (st' := [.int way]) [(45, .iload_n 2)] (by decide +kernel) rfl ?_
        refine zp_if (i := .ifCond .lt 16) (c := way < 0) (t := 62) (e := 49) (lv' := [(4, .ref (m + 7486 + 9 * s9.toNatClampNeg)), (0, .ref m), (1, .int s9), (2, .int way), (3, .int to)]) (st' := []) (by decide +kernel) rfl (fun cc46 => ?_) (fun cc46 => ?_)
        ·
          have f24 := zltI cc46
          rw [show (0 : Int32).toInt = 0 from by decide] at f24
          refine zp_seg (pc' := 63) (lv' := [(4, .ref (m + 7486 + 9 * s9.toNatClampNeg)), (0, .ref m), (1, .int s9), (2, .int way), (3, .int to)]) (st' := [.int (Int32.ofInt (-1))]) [(62, .iconst (-1))] (by decide +kernel) rfl ?_
          have hoffend : ∀ x, (x < m + 0 ∨ m + 0 + 8322 ≤ x) → w x = w x := fun x hx => rfl
          refine zr_retI (by decide +kernel) rfl ?_
          rw [← hPost]; exact ⟨rfl, _, rfl, zSI.rf, hoffend, ⟨_, _, hm, hR_m, hSl0, hMd0, hPl0, ⟨_, hAf0, hff⟩, hBo0, hBl0, hGa0, hGb0, hBd0, hI12, hI24, hI29, hI31, hIn⟩, _, rfl, trivial⟩
        ·
          have f26 := znltI cc46
          rw [show (0 : Int32).toInt = 0 from by decide] at f26
          refine zp_seg (pc' := 51) (lv' := [(4, .ref (m + 7486 + 9 * s9.toNatClampNeg)), (0, .ref m), (1, .int s9), (2, .int way), (3, .int to)]) (st' := [.int 1, .int way]) [(49, .iload_n 2), (50, .iconst 1)] (by decide +kernel) rfl ?_
          refine zp_if (i := .if_icmp .gt 11) (c := 1 < way) (t := 62) (e := 54) (lv' := [(4, .ref (m + 7486 + 9 * s9.toNatClampNeg)), (0, .ref m), (1, .int s9), (2, .int way), (3, .int to)]) (st' := []) (by decide +kernel) rfl (fun cc51 => ?_) (fun cc51 => ?_)
          ·
            have f27 := zltI cc51
            rw [show (1 : Int32).toInt = 1 from by decide] at f27
            refine zp_seg (pc' := 63) (lv' := [(4, .ref (m + 7486 + 9 * s9.toNatClampNeg)), (0, .ref m), (1, .int s9), (2, .int way), (3, .int to)]) (st' := [.int (Int32.ofInt (-1))]) [(62, .iconst (-1))] (by decide +kernel) rfl ?_
            have hoffend : ∀ x, (x < m + 0 ∨ m + 0 + 8322 ≤ x) → w x = w x := fun x hx => rfl
            refine zr_retI (by decide +kernel) rfl ?_
            rw [← hPost]; exact ⟨rfl, _, rfl, zSI.rf, hoffend, ⟨_, _, hm, hR_m, hSl0, hMd0, hPl0, ⟨_, hAf0, hff⟩, hBo0, hBl0, hGa0, hGb0, hBd0, hI12, hI24, hI29, hI31, hIn⟩, _, rfl, trivial⟩
          ·
            have f29 := znltI cc51
            rw [show (1 : Int32).toInt = 1 from by decide] at f29
            refine zp_seg (pc' := 56) (lv' := [(4, .ref (m + 7486 + 9 * s9.toNatClampNeg)), (0, .ref m), (1, .int s9), (2, .int way), (3, .int to)]) (st' := [.ref (m + 7486 + 9 * s9.toNatClampNeg)]) [(54, .aload 4)] (by decide +kernel) rfl ?_
            refine zr_callS (idx := 288) (j := 306) (by decide +kernel) (by decide +kernel) (by decide) (show zMe 306 = some zq_X16_isZero from rfl) rfl rfl (Nat.le_of_ble_eq_true rfl) rfl rfl (Nat.le_of_ble_eq_true rfl) (Nat.le_of_ble_eq_true rfl) (c_X16_isZero (w := w) (m + 7486 + 9 * s9.toNatClampNeg) hT1 hAn1 (by exact hKn1)) (by omega) (fun v56 w56 hp56 => ?_)
            obtain ⟨hpw56, r56, rfl, hrb56, hr56⟩ := hp56
            replace hpw56 := hpw56.symm
            subst hpw56
            have kr56 := zrng r56
            show zP _ _ _ _ [.int r56] _ _ _ _ _
            refine zp_if (i := .ifCond .eq 5) (c := r56 = 0) (t := 64) (e := 62) (lv' := [(4, .ref (m + 7486 + 9 * s9.toNatClampNeg)), (0, .ref m), (1, .int s9), (2, .int way), (3, .int to)]) (st' := []) (by decide +kernel) rfl (fun cc59 => ?_) (fun cc59 => ?_)
            ·
              have f30 := zeqI cc59
              rw [show (0 : Int32).toInt = 0 from by decide] at f30
              have hkk9 : kS1 = 1 ∨ kS1 = 2 := by first | exact Or.inl (hK10.symm.trans cc30) | exact Or.inr (hK10.symm.trans cc39)
              have hnn9 : 0 < zrw (zbT fn1) := hkk9.elim (fun e => hr56.2 cc59 (hK10.trans e)) (fun e => hKk1.2.2.1 e)
              refine zp_seg (pc' := 65) (lv' := [(4, .ref (m + 7486 + 9 * s9.toNatClampNeg)), (0, .ref m), (1, .int s9), (2, .int way), (3, .int to)]) (st' := [.ref m]) [(64, .aload_n 0)] (by decide +kernel) rfl ?_
              refine zr_callV (idx := 555) (j := 337) (by decide +kernel) (by decide +kernel) (show zMe 337 = some zq_X16_begin from rfl) rfl rfl (Nat.le_of_ble_eq_true rfl) rfl rfl hm (Nat.le_of_ble_eq_true rfl) (Nat.le_of_ble_eq_true rfl) (c_X16_beginZ (w := w) m hm hR_m) (by omega) (fun v65 w65 hp65 => ?_)
              obtain ⟨Z9_65, hsi65, heq65, hp65_0, hp65_1, rfl⟩ := hp65
              have hM65 : w65 m = some (.inl (15, zMo m (zs (zs (zs g 1 Z9_65) 3 Z9_65) 16 Z9_65) r)) := hp65_0
              show zP _ _ _ _ [] _ _ _ _ _
              have k31 := zrng Z9_65
              have hz32 : (Z9_65.toNatClampNeg : Int) = Z9_65.toInt := znat (by first | omega | decide)
              have hgzZ9_65_0 : Z9_65.toNatClampNeg = 0 := by omega
              refine zp_seg (pc' := 69) (lv' := [(4, .ref (m + 7486 + 9 * s9.toNatClampNeg)), (0, .ref m), (1, .int s9), (2, .int way), (3, .int to)]) (st' := [.ref m]) [(68, .aload_n 0)] (by decide +kernel) rfl ?_
              have hb33 := hR_m.si hsi65
              refine zr_callV (idx := 140) (j := 274) (by decide +kernel) (by decide +kernel) (show zMe 274 = some zq_X16_newB from rfl) rfl rfl (Nat.le_of_ble_eq_true rfl) rfl rfl hM65 (Nat.le_of_ble_eq_true rfl) (Nat.le_of_ble_eq_true rfl) (c_X16_newB (w := w65) (g3 := Z9_65) m hM65 hb33 (by first | omega | decide | assumption | exact zr1_1 | exact zr1_0 | fail "num") rfl) (by omega) (fun v69 w69 hp69 => ?_)
              obtain ⟨hsi69, heq69, hp69_0, hp69_1, rfl⟩ := hp69
              have hM69 : w69 m = some (.inl (15, zMo m (zs (zs (zs g 1 Z9_65) 3 (Z9_65 + 1)) 16 Z9_65) r)) := hp69_0
              show zP _ _ _ _ [.ref (m + 596 + 130 * Z9_65.toNatClampNeg)] _ _ _ _ _
              refine zp_seg (pc' := 75) (lv' := [(5, .ref (m + 596 + 130 * Z9_65.toNatClampNeg)), (4, .ref (m + 7486 + 9 * s9.toNatClampNeg)), (0, .ref m), (1, .int s9), (2, .int way), (3, .int to)]) (st' := [.ref m]) [(72, .astore 5), (74, .aload_n 0)] (by decide +kernel) rfl ?_
              have k34 := zaddC Z9_65 1 (n := 1) (by decide) (by omega) (by omega)
              have hz35 : ((Z9_65 + 1).toNatClampNeg : Int) = (Z9_65 + 1).toInt := znat (by first | omega | decide)
              have hgzZ9_65_1 : (Z9_65 + 1).toNatClampNeg = 1 := by omega
              have hb36 := hb33.si hsi69
              refine zr_callV (idx := 140) (j := 274) (by decide +kernel) (by decide +kernel) (show zMe 274 = some zq_X16_newB from rfl) rfl rfl (Nat.le_of_ble_eq_true rfl) rfl rfl hM69 (Nat.le_of_ble_eq_true rfl) (Nat.le_of_ble_eq_true rfl) (c_X16_newB (w := w69) (g3 := (Z9_65 + 1)) m hM69 hb36 (by first | omega | decide | assumption | exact zr1_1 | exact zr1_0 | fail "num") rfl) (by omega) (fun v75 w75 hp75 => ?_)
              obtain ⟨hsi75, heq75, hp75_0, hp75_1, rfl⟩ := hp75
              have hM75 : w75 m = some (.inl (15, zMo m (zs (zs (zs g 1 Z9_65) 3 (Z9_65 + 1 + 1)) 16 Z9_65) r)) := hp75_0
              show zP _ _ _ _ [.ref (m + 596 + 130 * (Z9_65 + 1).toNatClampNeg)] _ _ _ _ _
              refine zp_seg (pc' := 88) (lv' := [(6, .ref (m + 596 + 130 * (Z9_65 + 1).toNatClampNeg)), (5, .ref (m + 596 + 130 * Z9_65.toNatClampNeg)), (4, .ref (m + 7486 + 9 * s9.toNatClampNeg)), (0, .ref m), (1, .int s9), (2, .int way), (3, .int to)]) (st' := [.int way, .ref (m + 7486 + 9 * s9.toNatClampNeg), .ref (m + 596 + 130 * (Z9_65 + 1).toNatClampNeg), .ref (m + 596 + 130 * Z9_65.toNatClampNeg), .ref m]) [(78, .astore 6), (80, .aload_n 0), (81, .aload 5), (83, .aload 6), (85, .aload 4), (87, .iload_n 2)] (by decide +kernel) rfl ?_
              have hJ96 : ∀ (z0_96 : Int32), (0 ≤ z0_96.toInt ∧ z0_96.toInt + way.toInt = 1) → zP (d + 1) zq_X16_quotient_ 96 [(0, .ref m), (2, .int way), (3, .int to), (5, .ref (m + 596 + 130 * Z9_65.toNatClampNeg)), (6, .ref (m + 596 + 130 * (Z9_65 + 1).toNatClampNeg))] [.int z0_96, .ref (m + 7486 + 9 * s9.toNatClampNeg), .ref (m + 596 + 130 * (Z9_65 + 1).toNatClampNeg), .ref (m + 596 + 130 * Z9_65.toNatClampNeg), .ref m] w75 sz 0 0 Post := by
                intro z0_96 hdn
                have kz0_96 := zrng z0_96
                refine zp_seg (pc' := 97) (lv' := [(0, .ref m), (2, .int way), (3, .int to), (5, .ref (m + 596 + 130 * Z9_65.toNatClampNeg)), (6, .ref (m + 596 + 130 * (Z9_65 + 1).toNatClampNeg))]) (st' := [.int way, .int z0_96, .ref (m + 7486 + 9 * s9.toNatClampNeg), .ref (m + 596 + 130 * (Z9_65 + 1).toNatClampNeg), .ref (m + 596 + 130 * Z9_65.toNatClampNeg), .ref m]) [(96, .iload_n 2)] (by decide +kernel) rfl ?_
                have k37 := zaddC (Z9_65 + 1) 1 (n := 1) (by decide) (by omega) (by omega)
                have hz38 : ((Z9_65 + 1 + 1).toNatClampNeg : Int) = (Z9_65 + 1 + 1).toInt := znat (by first | omega | decide)
                have hgzZ9_65_2 : (Z9_65 + 1 + 1).toNatClampNeg = 2 := by omega
                have hb39 := hb36.si hsi75
                have hb40 : zB w75 (m + 596 + 130 * Z9_65.toNatClampNeg) zbZ := hp69_1.ag (fun x hx1 hx2 => (heq75 x ⟨(zx_X16_quotient__0 hx1 hx2 hgzZ9_65_0), (zx_X16_quotient__1 hx1 hx2 hgzZ9_65_0 hgzZ9_65_1)⟩))
                have ho97_num := zB.o hb40
                have ho97_den := zB.o hp75_1
                have hb41 : zTi w75 (m + 7486 + 9 * s9.toNatClampNeg) kS1 := hkS1.ag (fun x hx1 hx2 => ((heq75 x (by omega)).trans ((heq69 x (by omega)).trans (heq65 x (by omega)))))
                have hb42 : w75 (m + 7486 + 9 * s9.toNatClampNeg + 1) = some (.inr (0, 325, .inl fn1)) := ((heq75 (m + 7486 + 9 * s9.toNatClampNeg + 1) (by omega)).trans ((heq69 (m + 7486 + 9 * s9.toNatClampNeg + 1) (by omega)).trans (heq65 (m + 7486 + 9 * s9.toNatClampNeg + 1) (by omega)))).trans hAn1
                refine zr_callV (idx := 633) (j := 361) (by decide +kernel) (by decide +kernel) (show zMe 361 = some zq_X16_quotient from rfl) rfl rfl (Nat.le_of_ble_eq_true rfl) rfl rfl hM75 (Nat.le_of_ble_eq_true rfl) (Nat.le_of_ble_eq_true rfl) (c_X16_quotient (w := w75) (g1 := Z9_65) (g3 := (Z9_65 + 1 + 1)) m (m + 596 + 130 * Z9_65.toNatClampNeg) (m + 596 + 130 * (Z9_65 + 1).toNatClampNeg) (m + 7486 + 9 * s9.toNatClampNeg) z0_96 way hM75 hb39 ho97_num ho97_den hb41 (by first | omega | decide | assumption | exact zr1_1 | exact zr1_0 | fail "num") (by first | omega | decide | assumption | exact zr1_1 | exact zr1_0 | fail "num") (by first | omega | decide | assumption | exact zr1_1 | exact zr1_0 | fail "num") (by first | omega | decide | assumption | exact zr1_1 | exact zr1_0 | fail "num") (by first | omega | decide | assumption | exact zr1_1 | exact zr1_0 | fail "num") (by first | omega | decide | assumption | exact zr1_1 | exact zr1_0 | fail "num") (by exact hkk9) (by exact ⟨_, hb42, hnn9⟩) (by first | omega | decide | assumption | exact zr1_1 | exact zr1_0 | fail "num") rfl rfl) (by omega) (fun v97 w97 hp97 => ?_)
                obtain ⟨L9_97, N9_97, P9_97, Q9_97, hsi97, heq97, hp97_0, hp97_1, hp97_2, hp97_3, r97, rfl, hrb97, hr97⟩ := hp97
                have hM97 : w97 m = some (.inl (15, zMo m (zs (zs (zs (zs (zs g 1 Z9_65) 3 (Z9_65 + 1 + 1)) 16 Z9_65) 36 L9_97) 37 N9_97) r)) := hp97_0
                have kr97 := zrng r97
                show zP _ _ _ _ [.int r97] _ _ _ _ _
                refine zp_if (i := .ifCond .ne 6) (c := ¬ r97 = 0) (t := 106) (e := 103) (lv' := [(0, .ref m), (2, .int way), (3, .int to), (5, .ref (m + 596 + 130 * Z9_65.toNatClampNeg)), (6, .ref (m + 596 + 130 * (Z9_65 + 1).toNatClampNeg))]) (st' := []) (by decide +kernel) rfl (fun cc100 => ?_) (fun cc100 => ?_)
                ·
                  have f43 := zneI cc100
                  rw [show (0 : Int32).toInt = 0 from by decide] at f43
                  have hq9 := hr97 (hrb97.resolve_left cc100)
                  have hb44 : zTm w97 (m + 83) := hMd0.ag (fun x hx1 hx2 => ((heq97 x ⟨(zx_X16_quotient__2 hx1 hx2), (zx_X16_quotient__3 hx1 hx2 hgzZ9_65_0), (zx_X16_quotient__4 hx1 hx2 hgzZ9_65_1), (zx_X16_quotient__5 hx1 hx2), (zx_X16_quotient__6 hx1 hx2 hgzZ9_65_0), (zx_X16_quotient__7 hx1 hx2 hgzZ9_65_2), (zx_X16_quotient__8 hx1 hx2), (zx_X16_quotient__9 hx1 hx2)⟩).trans ((heq75 x ⟨(zx_X16_quotient__2 hx1 hx2), (zx_X16_quotient__4 hx1 hx2 hgzZ9_65_1)⟩).trans ((heq69 x ⟨(zx_X16_quotient__2 hx1 hx2), (zx_X16_quotient__3 hx1 hx2 hgzZ9_65_0)⟩).trans (heq65 x (zx_X16_quotient__2 hx1 hx2))))))
                  obtain ⟨g2, fn2, fd2, fa2, fb2, fc2, fe2, fr2, fu2, hT2, hAn2, hAd2, hAa2, hAb2, hAc2, hAe2, hAr2, hAu2, hKn2, hKd2, hKr2, hKu2⟩ := id hb44
                  refine zp_seg (pc' := 107) (lv' := [(0, .ref m), (2, .int way), (3, .int to), (5, .ref (m + 596 + 130 * Z9_65.toNatClampNeg)), (6, .ref (m + 596 + 130 * (Z9_65 + 1).toNatClampNeg))]) (st' := [.ref m]) [(106, .aload_n 0)] (by decide +kernel) rfl ?_
                  refine zr_get (idx := 453) (k := 21) (v := .ref (m + 83)) (by decide +kernel) (by decide +kernel) hM97 rfl ?_
                  refine zr_callS (idx := 257) (j := 304) (by decide +kernel) (by decide +kernel) (by decide) (show zMe 304 = some zq_X16_plain from rfl) rfl rfl (Nat.le_of_ble_eq_true rfl) rfl rfl (Nat.le_of_ble_eq_true rfl) (Nat.le_of_ble_eq_true rfl) (c_X16_plain (w := w97) (m + 83) hT2) (by omega) (fun v110 w110 hp110 => ?_)
                  obtain ⟨hsi110, heq110, hp110_0, rfl⟩ := hp110
                  have hT110 : w110 (m + 83) = some (.inl (13, zTo (m + 83) (zs (zs (zs (zs g2 0 1) 3 1) 4 1) 5 0))) := hp110_0
                  show zP _ _ _ _ [] _ _ _ _ _
                  refine zp_seg (pc' := 114) (lv' := [(0, .ref m), (2, .int way), (3, .int to), (5, .ref (m + 596 + 130 * Z9_65.toNatClampNeg)), (6, .ref (m + 596 + 130 * (Z9_65 + 1).toNatClampNeg))]) (st' := [.ref m]) [(113, .aload_n 0)] (by decide +kernel) rfl ?_
                  have hb45 : w110 m = some (.inl (15, zMo m (zs (zs (zs (zs (zs g 1 Z9_65) 3 (Z9_65 + 1 + 1)) 16 Z9_65) 36 L9_97) 37 N9_97) r)) := (heq110 m (zx_X16_quotient__10)).trans hM97
                  refine zr_get (idx := 453) (k := 21) (v := .ref (m + 83)) (by decide +kernel) (by decide +kernel) hb45 rfl ?_
                  refine zp_seg (pc' := 121) (lv' := [(0, .ref m), (2, .int way), (3, .int to), (5, .ref (m + 596 + 130 * Z9_65.toNatClampNeg)), (6, .ref (m + 596 + 130 * (Z9_65 + 1).toNatClampNeg))]) (st' := [.ref (m + 596 + 130 * (Z9_65 + 1).toNatClampNeg), .ref (m + 596 + 130 * Z9_65.toNatClampNeg), .ref (m + 83)]) [(117, .aload 5), (119, .aload 6)] (by decide +kernel) rfl ?_
                  have hb46 : w110 (m + 83 + 1) = some (.inr (0, 325, .inl fn2)) := (heq110 (m + 83 + 1) (zx_X16_quotient__11)).trans hAn2
                  have hb47 : w110 (m + 83 + 2) = some (.inr (0, 325, .inl fd2)) := (heq110 (m + 83 + 2) (zx_X16_quotient__12)).trans hAd2
                  have hb48 : zB w110 (m + 596 + 130 * Z9_65.toNatClampNeg) P9_97 := hp97_1.ag (fun x hx1 hx2 => (heq110 x (zx_X16_quotient__13 hx1 hx2 hgzZ9_65_0)))
                  have hb49 : zB w110 (m + 596 + 130 * (Z9_65 + 1).toNatClampNeg) Q9_97 := hp97_2.ag (fun x hx1 hx2 => (heq110 x (zx_X16_quotient__14 hx1 hx2 hgzZ9_65_1)))
                  refine zr_callS (idx := 261) (j := 303) (by decide +kernel) (by decide +kernel) (by decide) (show zMe 303 = some zq_X16_put from rfl) rfl rfl (Nat.le_of_ble_eq_true rfl) rfl rfl (Nat.le_of_ble_eq_true rfl) (Nat.le_of_ble_eq_true rfl) (c_X16_put (w := w110) (m + 83) (m + 596 + 130 * Z9_65.toNatClampNeg) (m + 596 + 130 * (Z9_65 + 1).toNatClampNeg) hT110 hb46 hb47 hb48 hb49 (by first | omega | decide | assumption | exact zr1_1 | exact zr1_0 | fail "num") (by first | omega | decide | assumption | exact zr1_1 | exact zr1_0 | fail "num")) (by omega) (fun v121 w121 hp121 => ?_)
                  obtain ⟨Fn_121, Fd_121, hsi121, heq121, hp121_0, hp121_1, r121, rfl, hrb121, hr121⟩ := hp121
                  have kr121 := zrng r121
                  show zP _ _ _ _ [.int r121] _ _ _ _ _
                  refine zp_seg (pc' := 126) (lv' := [(7, .int r121), (0, .ref m), (2, .int way), (3, .int to), (5, .ref (m + 596 + 130 * Z9_65.toNatClampNeg)), (6, .ref (m + 596 + 130 * (Z9_65 + 1).toNatClampNeg))]) (st' := []) [(124, .istore 7)] (by decide +kernel) rfl ?_
                  have hpp9 := hr121.2.1 (hr121.2.2 ⟨⟨hq9.1, hq9.2.1⟩, ⟨hq9.2.2.1, hq9.2.2.2⟩⟩)
                  have hb50 : w121 (m + 83) = some (.inl (13, zTo (m + 83) (zs (zs (zs (zs g2 0 1) 3 1) 4 1) 5 0))) := (heq121 (m + 83) (zx_X16_quotient__15)).trans hT110
                  have hb51 : w121 (m + 83 + 3) = some (.inr (0, 13, .inl fa2)) := ((heq121 (m + 83 + 3) (zx_X16_quotient__17)).trans (heq110 (m + 83 + 3) (zx_X16_quotient__16))).trans hAa2
                  have hb52 : w121 (m + 83 + 4) = some (.inr (0, 13, .inl fb2)) := ((heq121 (m + 83 + 4) (zx_X16_quotient__19)).trans (heq110 (m + 83 + 4) (zx_X16_quotient__18))).trans hAb2
                  have hb53 : w121 (m + 83 + 5) = some (.inr (0, 13, .inl fc2)) := ((heq121 (m + 83 + 5) (zx_X16_quotient__21)).trans (heq110 (m + 83 + 5) (zx_X16_quotient__20))).trans hAc2
                  have hb54 : w121 (m + 83 + 6) = some (.inr (0, 13, .inl fe2)) := ((heq121 (m + 83 + 6) (zx_X16_quotient__23)).trans (heq110 (m + 83 + 6) (zx_X16_quotient__22))).trans hAe2
                  have hb55 : w121 (m + 83 + 7) = some (.inr (0, 175, .inl fr2)) := ((heq121 (m + 83 + 7) (zx_X16_quotient__25)).trans (heq110 (m + 83 + 7) (zx_X16_quotient__24))).trans hAr2
                  have hb56 : w121 (m + 83 + 8) = some (.inr (0, 361, .inl fu2)) := ((heq121 (m + 83 + 8) (zx_X16_quotient__27)).trans (heq110 (m + 83 + 8) (zx_X16_quotient__26))).trans hAu2
                  have hTi9 : zTi w121 (m + 83) 1 := ⟨_, _, _, _, _, _, _, _, _, hb50, hp121_0, hp121_1, hb51, hb52, hb53, hb54, hb55, hb56, ⟨rfl, hpp9.1, hpp9.2.1, ⟨zr1_1, zr1_1⟩, ⟨show 0 ≤ (0 : Int32).toInt by decide, show (0 : Int32).toInt ≤ 13 by decide⟩, fun i hi => absurd hi (Nat.not_lt_zero _), hKr2, hKu2, zKk_12 (Or.inl rfl) (by rw [hpp9.2.2.2]; exact hp97_3.2.1) (fun e => absurd e (by decide)) ⟨show (1 : Int32) ≠ 0 by decide, show (1 : Int32) ≠ 0 by decide⟩⟩⟩
                  have hz57 : (to.toNatClampNeg : Int) = to.toInt := znat (by first | omega | decide)
                  have hb58 : zSlo w121 (m + 7486) := hSl0.ag (fun x hx1 hx2 => ((heq121 x (zx_X16_quotient__37 hx1 hx2)).trans ((heq110 x (zx_X16_quotient__36 hx1 hx2)).trans ((heq97 x ⟨(zx_X16_quotient__28 hx1 hx2), (zx_X16_quotient__29 hx1 hx2 hgzZ9_65_0), (zx_X16_quotient__30 hx1 hx2 hgzZ9_65_1), (zx_X16_quotient__31 hx1 hx2), (zx_X16_quotient__32 hx1 hx2 hgzZ9_65_0), (zx_X16_quotient__33 hx1 hx2 hgzZ9_65_2), (zx_X16_quotient__34 hx1 hx2), (zx_X16_quotient__35 hx1 hx2)⟩).trans ((heq75 x ⟨(zx_X16_quotient__28 hx1 hx2), (zx_X16_quotient__30 hx1 hx2 hgzZ9_65_1)⟩).trans ((heq69 x ⟨(zx_X16_quotient__28 hx1 hx2), (zx_X16_quotient__29 hx1 hx2 hgzZ9_65_0)⟩).trans (heq65 x (zx_X16_quotient__28 hx1 hx2))))))))
                  obtain ⟨kT, hkT⟩ := hb58 to.toNatClampNeg (by omega)
                  refine zp_seg (pc' := 128) (lv' := [(7, .int r121), (0, .ref m), (2, .int way), (3, .int to), (5, .ref (m + 596 + 130 * Z9_65.toNatClampNeg)), (6, .ref (m + 596 + 130 * (Z9_65 + 1).toNatClampNeg))]) (st' := [.int to, .ref m]) [(126, .aload_n 0), (127, .iload_n 3)] (by decide +kernel) rfl ?_
                  have hb59 : w121 m = some (.inl (15, zMo m (zs (zs (zs (zs (zs g 1 Z9_65) 3 (Z9_65 + 1 + 1)) 16 Z9_65) 36 L9_97) 37 N9_97) r)) := (heq121 m (zx_X16_quotient__38)).trans hb45
                  have hb60 := hb39.si ((hsi97.tr hsi110).tr hsi121)
                  refine zr_callV (idx := 558) (j := 338) (by decide +kernel) (by decide +kernel) (show zMe 338 = some zq_X16_keep from rfl) rfl rfl (Nat.le_of_ble_eq_true rfl) rfl rfl hb59 (Nat.le_of_ble_eq_true rfl) (Nat.le_of_ble_eq_true rfl) (c_X16_keep (w := w121) m to hb59 hb60 hTi9 hkT (by first | omega | decide | assumption | exact zr1_1 | exact zr1_0 | fail "num")) (by omega) (fun v128 w128 hp128 => ?_)
                  obtain ⟨hsi128, heq128, hp128_0, r128, rfl, hr128⟩ := hp128
                  have kr128 := zrng r128
                  show zP _ _ _ _ [.int r128] _ _ _ _ _
                  have hSl131 := hSl0.up (w' := w128) to.toNatClampNeg hp128_0 (fun x h1 h2 h3 => ((heq128 x (by omega)).trans ((heq121 x (by omega)).trans ((heq110 x (by omega)).trans ((heq97 x (by omega)).trans ((heq75 x (by omega)).trans ((heq69 x (by omega)).trans (heq65 x (by omega)))))))))
                  have hb61 : w128 m = some (.inl (15, zMo m (zs (zs (zs (zs (zs g 1 Z9_65) 3 (Z9_65 + 1 + 1)) 16 Z9_65) 36 L9_97) 37 N9_97) r)) := (heq128 m (by omega)).trans hb59
                  have hoffend : ∀ x, (x < m + 0 ∨ m + 0 + 8322 ≤ x) → w128 x = w x := fun x hx => ((heq128 x (by omega)).trans ((heq121 x (zx_X16_quotient__48 hx)).trans ((heq110 x (zx_X16_quotient__47 hx)).trans ((heq97 x ⟨(zx_X16_quotient__39 hx), (zx_X16_quotient__40 hx hgzZ9_65_0), (zx_X16_quotient__41 hx hgzZ9_65_1), (zx_X16_quotient__42 hx), (zx_X16_quotient__43 hx hgzZ9_65_0), (zx_X16_quotient__44 hx hgzZ9_65_2), (zx_X16_quotient__45 hx), (zx_X16_quotient__46 hx)⟩).trans ((heq75 x ⟨(zx_X16_quotient__39 hx), (zx_X16_quotient__41 hx hgzZ9_65_1)⟩).trans ((heq69 x ⟨(zx_X16_quotient__39 hx), (zx_X16_quotient__40 hx hgzZ9_65_0)⟩).trans (heq65 x (zx_X16_quotient__39 hx))))))))
                  have hb62 := hb60.si hsi128
                  have hb63 : zTi w128 (m + 83) 1 := hTi9.ag (fun x hx1 hx2 => (heq128 x (by omega)))
                  have hb64 : zPil w128 (m + 6316) := hPl0.ag (fun x hx1 hx2 => ((heq128 x (by omega)).trans ((heq121 x (zx_X16_quotient__58 hx1 hx2)).trans ((heq110 x (zx_X16_quotient__57 hx1 hx2)).trans ((heq97 x ⟨(zx_X16_quotient__49 hx1 hx2), (zx_X16_quotient__50 hx1 hx2 hgzZ9_65_0), (zx_X16_quotient__51 hx1 hx2 hgzZ9_65_1), (zx_X16_quotient__52 hx1 hx2), (zx_X16_quotient__53 hx1 hx2 hgzZ9_65_0), (zx_X16_quotient__54 hx1 hx2 hgzZ9_65_2), (zx_X16_quotient__55 hx1 hx2), (zx_X16_quotient__56 hx1 hx2)⟩).trans ((heq75 x ⟨(zx_X16_quotient__49 hx1 hx2), (zx_X16_quotient__51 hx1 hx2 hgzZ9_65_1)⟩).trans ((heq69 x ⟨(zx_X16_quotient__49 hx1 hx2), (zx_X16_quotient__50 hx1 hx2 hgzZ9_65_0)⟩).trans (heq65 x (zx_X16_quotient__49 hx1 hx2)))))))))
                  have hb65 : zBya w128 (m + 92) 4000 := hBo0.ag (fun x hx1 hx2 => ((heq128 x (by omega)).trans ((heq121 x (zx_X16_quotient__68 hx1 hx2)).trans ((heq110 x (zx_X16_quotient__67 hx1 hx2)).trans ((heq97 x ⟨(zx_X16_quotient__59 hx1 hx2), (zx_X16_quotient__60 hx1 hx2 hgzZ9_65_0), (zx_X16_quotient__61 hx1 hx2 hgzZ9_65_1), (zx_X16_quotient__62 hx1 hx2), (zx_X16_quotient__63 hx1 hx2 hgzZ9_65_0), (zx_X16_quotient__64 hx1 hx2 hgzZ9_65_2), (zx_X16_quotient__65 hx1 hx2), (zx_X16_quotient__66 hx1 hx2)⟩).trans ((heq75 x ⟨(zx_X16_quotient__59 hx1 hx2), (zx_X16_quotient__61 hx1 hx2 hgzZ9_65_1)⟩).trans ((heq69 x ⟨(zx_X16_quotient__59 hx1 hx2), (zx_X16_quotient__60 hx1 hx2 hgzZ9_65_0)⟩).trans (heq65 x (zx_X16_quotient__59 hx1 hx2)))))))))
                  have hb66 : zBya w128 (m + 93) 4000 := hBl0.ag (fun x hx1 hx2 => ((heq128 x (by omega)).trans ((heq121 x (zx_X16_quotient__78 hx1 hx2)).trans ((heq110 x (zx_X16_quotient__77 hx1 hx2)).trans ((heq97 x ⟨(zx_X16_quotient__69 hx1 hx2), (zx_X16_quotient__70 hx1 hx2 hgzZ9_65_0), (zx_X16_quotient__71 hx1 hx2 hgzZ9_65_1), (zx_X16_quotient__72 hx1 hx2), (zx_X16_quotient__73 hx1 hx2 hgzZ9_65_0), (zx_X16_quotient__74 hx1 hx2 hgzZ9_65_2), (zx_X16_quotient__75 hx1 hx2), (zx_X16_quotient__76 hx1 hx2)⟩).trans ((heq75 x ⟨(zx_X16_quotient__69 hx1 hx2), (zx_X16_quotient__71 hx1 hx2 hgzZ9_65_1)⟩).trans ((heq69 x ⟨(zx_X16_quotient__69 hx1 hx2), (zx_X16_quotient__70 hx1 hx2 hgzZ9_65_0)⟩).trans (heq65 x (zx_X16_quotient__69 hx1 hx2)))))))))
                  have hb67 : zGr w128 (m + 100) 48 48 := hGa0.ag (fun x hx1 hx2 => ((heq128 x (by omega)).trans ((heq121 x (zx_X16_quotient__88 hx1 hx2)).trans ((heq110 x (zx_X16_quotient__87 hx1 hx2)).trans ((heq97 x ⟨(zx_X16_quotient__79 hx1 hx2), (zx_X16_quotient__80 hx1 hx2 hgzZ9_65_0), (zx_X16_quotient__81 hx1 hx2 hgzZ9_65_1), (zx_X16_quotient__82 hx1 hx2), (zx_X16_quotient__83 hx1 hx2 hgzZ9_65_0), (zx_X16_quotient__84 hx1 hx2 hgzZ9_65_2), (zx_X16_quotient__85 hx1 hx2), (zx_X16_quotient__86 hx1 hx2)⟩).trans ((heq75 x ⟨(zx_X16_quotient__79 hx1 hx2), (zx_X16_quotient__81 hx1 hx2 hgzZ9_65_1)⟩).trans ((heq69 x ⟨(zx_X16_quotient__79 hx1 hx2), (zx_X16_quotient__80 hx1 hx2 hgzZ9_65_0)⟩).trans (heq65 x (zx_X16_quotient__79 hx1 hx2)))))))))
                  have hb68 : zGr w128 (m + 212) 60 46 := hGb0.ag (fun x hx1 hx2 => ((heq128 x (by omega)).trans ((heq121 x (zx_X16_quotient__98 hx1 hx2)).trans ((heq110 x (zx_X16_quotient__97 hx1 hx2)).trans ((heq97 x ⟨(zx_X16_quotient__89 hx1 hx2), (zx_X16_quotient__90 hx1 hx2 hgzZ9_65_0), (zx_X16_quotient__91 hx1 hx2 hgzZ9_65_1), (zx_X16_quotient__92 hx1 hx2), (zx_X16_quotient__93 hx1 hx2 hgzZ9_65_0), (zx_X16_quotient__94 hx1 hx2 hgzZ9_65_2), (zx_X16_quotient__95 hx1 hx2), (zx_X16_quotient__96 hx1 hx2)⟩).trans ((heq75 x ⟨(zx_X16_quotient__89 hx1 hx2), (zx_X16_quotient__91 hx1 hx2 hgzZ9_65_1)⟩).trans ((heq69 x ⟨(zx_X16_quotient__89 hx1 hx2), (zx_X16_quotient__90 hx1 hx2 hgzZ9_65_0)⟩).trans (heq65 x (zx_X16_quotient__89 hx1 hx2)))))))))
                  have hb69 : zBd w128 (m + 149) := hBd0.ag (fun x hx1 hx2 => ((heq128 x (by omega)).trans ((heq121 x (zx_X16_quotient__108 hx1 hx2)).trans ((heq110 x (zx_X16_quotient__107 hx1 hx2)).trans ((heq97 x ⟨(zx_X16_quotient__99 hx1 hx2), (zx_X16_quotient__100 hx1 hx2 hgzZ9_65_0), (zx_X16_quotient__101 hx1 hx2 hgzZ9_65_1), (zx_X16_quotient__102 hx1 hx2), (zx_X16_quotient__103 hx1 hx2 hgzZ9_65_0), (zx_X16_quotient__104 hx1 hx2 hgzZ9_65_2), (zx_X16_quotient__105 hx1 hx2), (zx_X16_quotient__106 hx1 hx2)⟩).trans ((heq75 x ⟨(zx_X16_quotient__99 hx1 hx2), (zx_X16_quotient__101 hx1 hx2 hgzZ9_65_1)⟩).trans ((heq69 x ⟨(zx_X16_quotient__99 hx1 hx2), (zx_X16_quotient__100 hx1 hx2 hgzZ9_65_0)⟩).trans (heq65 x (zx_X16_quotient__99 hx1 hx2)))))))))
                  have hb70 : w128 (m + 94) = some (.inr (0, 60, .inl ff)) := ((heq128 (m + 94) (by omega)).trans ((heq121 (m + 94) (zx_X16_quotient__118)).trans ((heq110 (m + 94) (zx_X16_quotient__117)).trans ((heq97 (m + 94) ⟨(zx_X16_quotient__109), (zx_X16_quotient__110 hgzZ9_65_0), (zx_X16_quotient__111 hgzZ9_65_1), (zx_X16_quotient__112), (zx_X16_quotient__113 hgzZ9_65_0), (zx_X16_quotient__114 hgzZ9_65_2), (zx_X16_quotient__115), (zx_X16_quotient__116)⟩).trans ((heq75 (m + 94) ⟨(zx_X16_quotient__109), (zx_X16_quotient__111 hgzZ9_65_1)⟩).trans ((heq69 (m + 94) ⟨(zx_X16_quotient__109), (zx_X16_quotient__110 hgzZ9_65_0)⟩).trans (heq65 (m + 94) (zx_X16_quotient__109)))))))).trans hAf0
                  refine zr_retI (by decide +kernel) rfl ?_
                  rw [← hPost]; exact ⟨rfl, _, rfl, ((((((hsi65.tr hsi69).tr hsi75).tr hsi97).tr hsi110).tr hsi121).tr hsi128), hoffend, ⟨_, _, hb61, hb62, hSl131, (zTi.m hb63), hb64, ⟨_, hb70, hff⟩, hb65, hb66, hb67, hb68, hb69, hI12, hI24, hI29, hI31, hIn⟩, _, rfl, trivial⟩
                ·
                  replace cc100 := Classical.not_not.mp cc100
                  have f71 := zeqI cc100
                  rw [show (0 : Int32).toInt = 0 from by decide] at f71
                  refine zp_seg (pc' := 105) (lv' := [(0, .ref m), (2, .int way), (3, .int to), (5, .ref (m + 596 + 130 * Z9_65.toNatClampNeg)), (6, .ref (m + 596 + 130 * (Z9_65 + 1).toNatClampNeg))]) (st' := [.int (Int32.ofInt (-2))]) [(103, .bipush (-2))] (by decide +kernel) rfl ?_
                  have hoffend : ∀ x, (x < m + 0 ∨ m + 0 + 8322 ≤ x) → w97 x = w x := fun x hx => ((heq97 x ⟨(zx_X16_quotient__39 hx), (zx_X16_quotient__40 hx hgzZ9_65_0), (zx_X16_quotient__41 hx hgzZ9_65_1), (zx_X16_quotient__42 hx), (zx_X16_quotient__43 hx hgzZ9_65_0), (zx_X16_quotient__44 hx hgzZ9_65_2), (zx_X16_quotient__45 hx), (zx_X16_quotient__46 hx)⟩).trans ((heq75 x ⟨(zx_X16_quotient__39 hx), (zx_X16_quotient__41 hx hgzZ9_65_1)⟩).trans ((heq69 x ⟨(zx_X16_quotient__39 hx), (zx_X16_quotient__40 hx hgzZ9_65_0)⟩).trans (heq65 x (zx_X16_quotient__39 hx)))))
                  have hb72 := hb39.si hsi97
                  have hb73 : zSlo w97 (m + 7486) := hSl0.ag (fun x hx1 hx2 => ((heq97 x ⟨(zx_X16_quotient__28 hx1 hx2), (zx_X16_quotient__29 hx1 hx2 hgzZ9_65_0), (zx_X16_quotient__30 hx1 hx2 hgzZ9_65_1), (zx_X16_quotient__31 hx1 hx2), (zx_X16_quotient__32 hx1 hx2 hgzZ9_65_0), (zx_X16_quotient__33 hx1 hx2 hgzZ9_65_2), (zx_X16_quotient__34 hx1 hx2), (zx_X16_quotient__35 hx1 hx2)⟩).trans ((heq75 x ⟨(zx_X16_quotient__28 hx1 hx2), (zx_X16_quotient__30 hx1 hx2 hgzZ9_65_1)⟩).trans ((heq69 x ⟨(zx_X16_quotient__28 hx1 hx2), (zx_X16_quotient__29 hx1 hx2 hgzZ9_65_0)⟩).trans (heq65 x (zx_X16_quotient__28 hx1 hx2))))))
                  have hb74 : zTm w97 (m + 83) := hMd0.ag (fun x hx1 hx2 => ((heq97 x ⟨(zx_X16_quotient__2 hx1 hx2), (zx_X16_quotient__3 hx1 hx2 hgzZ9_65_0), (zx_X16_quotient__4 hx1 hx2 hgzZ9_65_1), (zx_X16_quotient__5 hx1 hx2), (zx_X16_quotient__6 hx1 hx2 hgzZ9_65_0), (zx_X16_quotient__7 hx1 hx2 hgzZ9_65_2), (zx_X16_quotient__8 hx1 hx2), (zx_X16_quotient__9 hx1 hx2)⟩).trans ((heq75 x ⟨(zx_X16_quotient__2 hx1 hx2), (zx_X16_quotient__4 hx1 hx2 hgzZ9_65_1)⟩).trans ((heq69 x ⟨(zx_X16_quotient__2 hx1 hx2), (zx_X16_quotient__3 hx1 hx2 hgzZ9_65_0)⟩).trans (heq65 x (zx_X16_quotient__2 hx1 hx2))))))
                  have hb75 : zPil w97 (m + 6316) := hPl0.ag (fun x hx1 hx2 => ((heq97 x ⟨(zx_X16_quotient__49 hx1 hx2), (zx_X16_quotient__50 hx1 hx2 hgzZ9_65_0), (zx_X16_quotient__51 hx1 hx2 hgzZ9_65_1), (zx_X16_quotient__52 hx1 hx2), (zx_X16_quotient__53 hx1 hx2 hgzZ9_65_0), (zx_X16_quotient__54 hx1 hx2 hgzZ9_65_2), (zx_X16_quotient__55 hx1 hx2), (zx_X16_quotient__56 hx1 hx2)⟩).trans ((heq75 x ⟨(zx_X16_quotient__49 hx1 hx2), (zx_X16_quotient__51 hx1 hx2 hgzZ9_65_1)⟩).trans ((heq69 x ⟨(zx_X16_quotient__49 hx1 hx2), (zx_X16_quotient__50 hx1 hx2 hgzZ9_65_0)⟩).trans (heq65 x (zx_X16_quotient__49 hx1 hx2))))))
                  have hb76 : zBya w97 (m + 92) 4000 := hBo0.ag (fun x hx1 hx2 => ((heq97 x ⟨(zx_X16_quotient__59 hx1 hx2), (zx_X16_quotient__60 hx1 hx2 hgzZ9_65_0), (zx_X16_quotient__61 hx1 hx2 hgzZ9_65_1), (zx_X16_quotient__62 hx1 hx2), (zx_X16_quotient__63 hx1 hx2 hgzZ9_65_0), (zx_X16_quotient__64 hx1 hx2 hgzZ9_65_2), (zx_X16_quotient__65 hx1 hx2), (zx_X16_quotient__66 hx1 hx2)⟩).trans ((heq75 x ⟨(zx_X16_quotient__59 hx1 hx2), (zx_X16_quotient__61 hx1 hx2 hgzZ9_65_1)⟩).trans ((heq69 x ⟨(zx_X16_quotient__59 hx1 hx2), (zx_X16_quotient__60 hx1 hx2 hgzZ9_65_0)⟩).trans (heq65 x (zx_X16_quotient__59 hx1 hx2))))))
                  have hb77 : zBya w97 (m + 93) 4000 := hBl0.ag (fun x hx1 hx2 => ((heq97 x ⟨(zx_X16_quotient__69 hx1 hx2), (zx_X16_quotient__70 hx1 hx2 hgzZ9_65_0), (zx_X16_quotient__71 hx1 hx2 hgzZ9_65_1), (zx_X16_quotient__72 hx1 hx2), (zx_X16_quotient__73 hx1 hx2 hgzZ9_65_0), (zx_X16_quotient__74 hx1 hx2 hgzZ9_65_2), (zx_X16_quotient__75 hx1 hx2), (zx_X16_quotient__76 hx1 hx2)⟩).trans ((heq75 x ⟨(zx_X16_quotient__69 hx1 hx2), (zx_X16_quotient__71 hx1 hx2 hgzZ9_65_1)⟩).trans ((heq69 x ⟨(zx_X16_quotient__69 hx1 hx2), (zx_X16_quotient__70 hx1 hx2 hgzZ9_65_0)⟩).trans (heq65 x (zx_X16_quotient__69 hx1 hx2))))))
                  have hb78 : zGr w97 (m + 100) 48 48 := hGa0.ag (fun x hx1 hx2 => ((heq97 x ⟨(zx_X16_quotient__79 hx1 hx2), (zx_X16_quotient__80 hx1 hx2 hgzZ9_65_0), (zx_X16_quotient__81 hx1 hx2 hgzZ9_65_1), (zx_X16_quotient__82 hx1 hx2), (zx_X16_quotient__83 hx1 hx2 hgzZ9_65_0), (zx_X16_quotient__84 hx1 hx2 hgzZ9_65_2), (zx_X16_quotient__85 hx1 hx2), (zx_X16_quotient__86 hx1 hx2)⟩).trans ((heq75 x ⟨(zx_X16_quotient__79 hx1 hx2), (zx_X16_quotient__81 hx1 hx2 hgzZ9_65_1)⟩).trans ((heq69 x ⟨(zx_X16_quotient__79 hx1 hx2), (zx_X16_quotient__80 hx1 hx2 hgzZ9_65_0)⟩).trans (heq65 x (zx_X16_quotient__79 hx1 hx2))))))
                  have hb79 : zGr w97 (m + 212) 60 46 := hGb0.ag (fun x hx1 hx2 => ((heq97 x ⟨(zx_X16_quotient__89 hx1 hx2), (zx_X16_quotient__90 hx1 hx2 hgzZ9_65_0), (zx_X16_quotient__91 hx1 hx2 hgzZ9_65_1), (zx_X16_quotient__92 hx1 hx2), (zx_X16_quotient__93 hx1 hx2 hgzZ9_65_0), (zx_X16_quotient__94 hx1 hx2 hgzZ9_65_2), (zx_X16_quotient__95 hx1 hx2), (zx_X16_quotient__96 hx1 hx2)⟩).trans ((heq75 x ⟨(zx_X16_quotient__89 hx1 hx2), (zx_X16_quotient__91 hx1 hx2 hgzZ9_65_1)⟩).trans ((heq69 x ⟨(zx_X16_quotient__89 hx1 hx2), (zx_X16_quotient__90 hx1 hx2 hgzZ9_65_0)⟩).trans (heq65 x (zx_X16_quotient__89 hx1 hx2))))))
                  have hb80 : zBd w97 (m + 149) := hBd0.ag (fun x hx1 hx2 => ((heq97 x ⟨(zx_X16_quotient__99 hx1 hx2), (zx_X16_quotient__100 hx1 hx2 hgzZ9_65_0), (zx_X16_quotient__101 hx1 hx2 hgzZ9_65_1), (zx_X16_quotient__102 hx1 hx2), (zx_X16_quotient__103 hx1 hx2 hgzZ9_65_0), (zx_X16_quotient__104 hx1 hx2 hgzZ9_65_2), (zx_X16_quotient__105 hx1 hx2), (zx_X16_quotient__106 hx1 hx2)⟩).trans ((heq75 x ⟨(zx_X16_quotient__99 hx1 hx2), (zx_X16_quotient__101 hx1 hx2 hgzZ9_65_1)⟩).trans ((heq69 x ⟨(zx_X16_quotient__99 hx1 hx2), (zx_X16_quotient__100 hx1 hx2 hgzZ9_65_0)⟩).trans (heq65 x (zx_X16_quotient__99 hx1 hx2))))))
                  have hb81 : w97 (m + 94) = some (.inr (0, 60, .inl ff)) := ((heq97 (m + 94) ⟨(zx_X16_quotient__109), (zx_X16_quotient__110 hgzZ9_65_0), (zx_X16_quotient__111 hgzZ9_65_1), (zx_X16_quotient__112), (zx_X16_quotient__113 hgzZ9_65_0), (zx_X16_quotient__114 hgzZ9_65_2), (zx_X16_quotient__115), (zx_X16_quotient__116)⟩).trans ((heq75 (m + 94) ⟨(zx_X16_quotient__109), (zx_X16_quotient__111 hgzZ9_65_1)⟩).trans ((heq69 (m + 94) ⟨(zx_X16_quotient__109), (zx_X16_quotient__110 hgzZ9_65_0)⟩).trans (heq65 (m + 94) (zx_X16_quotient__109))))).trans hAf0
                  refine zr_retI (by decide +kernel) rfl ?_
                  rw [← hPost]; exact ⟨rfl, _, rfl, (((hsi65.tr hsi69).tr hsi75).tr hsi97), hoffend, ⟨_, _, hM97, hb72, hb73, hb74, hb75, ⟨_, hb81, hff⟩, hb76, hb77, hb78, hb79, hb80, hI12, hI24, hI29, hI31, hIn⟩, _, rfl, trivial⟩
              refine zp_if (i := .ifCond .ne 7) (c := ¬ way = 0) (t := 95) (e := 91) (lv' := [(6, .ref (m + 596 + 130 * (Z9_65 + 1).toNatClampNeg)), (5, .ref (m + 596 + 130 * Z9_65.toNatClampNeg)), (4, .ref (m + 7486 + 9 * s9.toNatClampNeg)), (0, .ref m), (1, .int s9), (2, .int way), (3, .int to)]) (st' := [.ref (m + 7486 + 9 * s9.toNatClampNeg), .ref (m + 596 + 130 * (Z9_65 + 1).toNatClampNeg), .ref (m + 596 + 130 * Z9_65.toNatClampNeg), .ref m]) (by decide +kernel) rfl (fun cc88 => ?_) (fun cc88 => ?_)
              ·
                have f83 := zneI cc88
                rw [show (0 : Int32).toInt = 0 from by decide] at f83
                refine zp_seg (pc' := 96) (lv' := [(6, .ref (m + 596 + 130 * (Z9_65 + 1).toNatClampNeg)), (5, .ref (m + 596 + 130 * Z9_65.toNatClampNeg)), (4, .ref (m + 7486 + 9 * s9.toNatClampNeg)), (0, .ref m), (1, .int s9), (2, .int way), (3, .int to)]) (st' := [.int 0, .ref (m + 7486 + 9 * s9.toNatClampNeg), .ref (m + 596 + 130 * (Z9_65 + 1).toNatClampNeg), .ref (m + 596 + 130 * Z9_65.toNatClampNeg), .ref m]) [(95, .iconst 0)] (by decide +kernel) rfl ?_
                have hl84 : (0 : Int32).toInt = 0 := by decide
                exact (hJ96 0 (by
                      omega)).more (zfa1 rfl (zfa1 rfl (zfa1 rfl (zfa1 rfl (zfa1 rfl (zfa0))))))
              ·
                replace cc88 := Classical.not_not.mp cc88
                have f85 := zeqI cc88
                rw [show (0 : Int32).toInt = 0 from by decide] at f85
                refine zp_seg (pc' := 96) (lv' := [(6, .ref (m + 596 + 130 * (Z9_65 + 1).toNatClampNeg)), (5, .ref (m + 596 + 130 * Z9_65.toNatClampNeg)), (4, .ref (m + 7486 + 9 * s9.toNatClampNeg)), (0, .ref m), (1, .int s9), (2, .int way), (3, .int to)]) (st' := [.int 1, .ref (m + 7486 + 9 * s9.toNatClampNeg), .ref (m + 596 + 130 * (Z9_65 + 1).toNatClampNeg), .ref (m + 596 + 130 * Z9_65.toNatClampNeg), .ref m]) [(91, .iconst 1), (92, .goto 4)] (by decide +kernel) rfl ?_
                have hl86 : (1 : Int32).toInt = 1 := by decide
                exact (hJ96 1 (by
                      omega)).more (zfa1 rfl (zfa1 rfl (zfa1 rfl (zfa1 rfl (zfa1 rfl (zfa0))))))
            ·
              have f87 := zneI cc59
              rw [show (0 : Int32).toInt = 0 from by decide] at f87
              refine zp_seg (pc' := 63) (lv' := [(4, .ref (m + 7486 + 9 * s9.toNatClampNeg)), (0, .ref m), (1, .int s9), (2, .int way), (3, .int to)]) (st' := [.int (Int32.ofInt (-1))]) [(62, .iconst (-1))] (by decide +kernel) rfl ?_
              have hoffend : ∀ x, (x < m + 0 ∨ m + 0 + 8322 ≤ x) → w x = w x := fun x hx => rfl
              refine zr_retI (by decide +kernel) rfl ?_
              rw [← hPost]; exact ⟨rfl, _, rfl, zSI.rf, hoffend, ⟨_, _, hm, hR_m, hSl0, hMd0, hPl0, ⟨_, hAf0, hff⟩, hBo0, hBl0, hGa0, hGb0, hBd0, hI12, hI24, hI29, hI31, hIn⟩, _, rfl, trivial⟩
      ·
        have k89 := zrng (g1 0)
        have f91 := zneI cc30
        rw [show (1 : Int32).toInt = 1 from by decide] at f91
        refine zp_seg (pc' := 35) (lv' := [(4, .ref (m + 7486 + 9 * s9.toNatClampNeg)), (0, .ref m), (1, .int s9), (2, .int way), (3, .int to)]) (st' := [.ref (m + 7486 + 9 * s9.toNatClampNeg)]) [(33, .aload 4)] (by decide +kernel) rfl ?_
        refine zr_get (idx := 202) (k := 0) (v := .int (g1 0)) (by decide +kernel) (by decide +kernel) hT1 rfl ?_
        refine zp_seg (pc' := 39) (lv' := [(4, .ref (m + 7486 + 9 * s9.toNatClampNeg)), (0, .ref m), (1, .int s9), (2, .int way), (3, .int to)]) (st' := [.int 2, .int (g1 0)]) [(38, .iconst 2)] (by decide +kernel) rfl ?_
        refine zp_if (i := .if_icmp .eq 6) (c := (g1 0) = 2) (t := 45) (e := 42) (lv' := [(4, .ref (m + 7486 + 9 * s9.toNatClampNeg)), (0, .ref m), (1, .int s9), (2, .int way), (3, .int to)]) (st' := []) (by decide +kernel) rfl (fun cc39 => ?_) (fun cc39 => ?_)
        ·
          have f93 := zeqI cc39
          rw [show (2 : Int32).toInt = 2 from by decide] at f93
          refine zp_seg (pc' := 46) (lv' := [(4, .ref (m + 7486 + 9 * s9.toNatClampNeg)), (0, .ref m), (1, .int s9), (2, .int way), (3, .int to)]) (st' := [.int way]) [(45, .iload_n 2)] (by decide +kernel) rfl ?_
          refine zp_if (i := .ifCond .lt 16) (c := way < 0) (t := 62) (e := 49) (lv' := [(4, .ref (m + 7486 + 9 * s9.toNatClampNeg)), (0, .ref m), (1, .int s9), (2, .int way), (3, .int to)]) (st' := []) (by decide +kernel) rfl (fun cc46 => ?_) (fun cc46 => ?_)
          ·
            have f94 := zltI cc46
            rw [show (0 : Int32).toInt = 0 from by decide] at f94
            refine zp_seg (pc' := 63) (lv' := [(4, .ref (m + 7486 + 9 * s9.toNatClampNeg)), (0, .ref m), (1, .int s9), (2, .int way), (3, .int to)]) (st' := [.int (Int32.ofInt (-1))]) [(62, .iconst (-1))] (by decide +kernel) rfl ?_
            have hoffend : ∀ x, (x < m + 0 ∨ m + 0 + 8322 ≤ x) → w x = w x := fun x hx => rfl
            refine zr_retI (by decide +kernel) rfl ?_
            rw [← hPost]; exact ⟨rfl, _, rfl, zSI.rf, hoffend, ⟨_, _, hm, hR_m, hSl0, hMd0, hPl0, ⟨_, hAf0, hff⟩, hBo0, hBl0, hGa0, hGb0, hBd0, hI12, hI24, hI29, hI31, hIn⟩, _, rfl, trivial⟩
          ·
            have f96 := znltI cc46
            rw [show (0 : Int32).toInt = 0 from by decide] at f96
            refine zp_seg (pc' := 51) (lv' := [(4, .ref (m + 7486 + 9 * s9.toNatClampNeg)), (0, .ref m), (1, .int s9), (2, .int way), (3, .int to)]) (st' := [.int 1, .int way]) [(49, .iload_n 2), (50, .iconst 1)] (by decide +kernel) rfl ?_
            refine zp_if (i := .if_icmp .gt 11) (c := 1 < way) (t := 62) (e := 54) (lv' := [(4, .ref (m + 7486 + 9 * s9.toNatClampNeg)), (0, .ref m), (1, .int s9), (2, .int way), (3, .int to)]) (st' := []) (by decide +kernel) rfl (fun cc51 => ?_) (fun cc51 => ?_)
            ·
              have f97 := zltI cc51
              rw [show (1 : Int32).toInt = 1 from by decide] at f97
              refine zp_seg (pc' := 63) (lv' := [(4, .ref (m + 7486 + 9 * s9.toNatClampNeg)), (0, .ref m), (1, .int s9), (2, .int way), (3, .int to)]) (st' := [.int (Int32.ofInt (-1))]) [(62, .iconst (-1))] (by decide +kernel) rfl ?_
              have hoffend : ∀ x, (x < m + 0 ∨ m + 0 + 8322 ≤ x) → w x = w x := fun x hx => rfl
              refine zr_retI (by decide +kernel) rfl ?_
              rw [← hPost]; exact ⟨rfl, _, rfl, zSI.rf, hoffend, ⟨_, _, hm, hR_m, hSl0, hMd0, hPl0, ⟨_, hAf0, hff⟩, hBo0, hBl0, hGa0, hGb0, hBd0, hI12, hI24, hI29, hI31, hIn⟩, _, rfl, trivial⟩
            ·
              have f99 := znltI cc51
              rw [show (1 : Int32).toInt = 1 from by decide] at f99
              refine zp_seg (pc' := 56) (lv' := [(4, .ref (m + 7486 + 9 * s9.toNatClampNeg)), (0, .ref m), (1, .int s9), (2, .int way), (3, .int to)]) (st' := [.ref (m + 7486 + 9 * s9.toNatClampNeg)]) [(54, .aload 4)] (by decide +kernel) rfl ?_
              refine zr_callS (idx := 288) (j := 306) (by decide +kernel) (by decide +kernel) (by decide) (show zMe 306 = some zq_X16_isZero from rfl) rfl rfl (Nat.le_of_ble_eq_true rfl) rfl rfl (Nat.le_of_ble_eq_true rfl) (Nat.le_of_ble_eq_true rfl) (c_X16_isZero (w := w) (m + 7486 + 9 * s9.toNatClampNeg) hT1 hAn1 (by exact hKn1)) (by omega) (fun v56 w56 hp56 => ?_)
              obtain ⟨hpw56, r56, rfl, hrb56, hr56⟩ := hp56
              replace hpw56 := hpw56.symm
              subst hpw56
              have kr56 := zrng r56
              show zP _ _ _ _ [.int r56] _ _ _ _ _
              refine zp_if (i := .ifCond .eq 5) (c := r56 = 0) (t := 64) (e := 62) (lv' := [(4, .ref (m + 7486 + 9 * s9.toNatClampNeg)), (0, .ref m), (1, .int s9), (2, .int way), (3, .int to)]) (st' := []) (by decide +kernel) rfl (fun cc59 => ?_) (fun cc59 => ?_)
              ·
                have f100 := zeqI cc59
                rw [show (0 : Int32).toInt = 0 from by decide] at f100
                have hkk9 : kS1 = 1 ∨ kS1 = 2 := by first | exact Or.inl (hK10.symm.trans cc30) | exact Or.inr (hK10.symm.trans cc39)
                have hnn9 : 0 < zrw (zbT fn1) := hkk9.elim (fun e => hr56.2 cc59 (hK10.trans e)) (fun e => hKk1.2.2.1 e)
                refine zp_seg (pc' := 65) (lv' := [(4, .ref (m + 7486 + 9 * s9.toNatClampNeg)), (0, .ref m), (1, .int s9), (2, .int way), (3, .int to)]) (st' := [.ref m]) [(64, .aload_n 0)] (by decide +kernel) rfl ?_
                refine zr_callV (idx := 555) (j := 337) (by decide +kernel) (by decide +kernel) (show zMe 337 = some zq_X16_begin from rfl) rfl rfl (Nat.le_of_ble_eq_true rfl) rfl rfl hm (Nat.le_of_ble_eq_true rfl) (Nat.le_of_ble_eq_true rfl) (c_X16_beginZ (w := w) m hm hR_m) (by omega) (fun v65 w65 hp65 => ?_)
                obtain ⟨Z9_65, hsi65, heq65, hp65_0, hp65_1, rfl⟩ := hp65
                have hM65 : w65 m = some (.inl (15, zMo m (zs (zs (zs g 1 Z9_65) 3 Z9_65) 16 Z9_65) r)) := hp65_0
                show zP _ _ _ _ [] _ _ _ _ _
                have k101 := zrng Z9_65
                have hz102 : (Z9_65.toNatClampNeg : Int) = Z9_65.toInt := znat (by first | omega | decide)
                have hgzZ9_65_0 : Z9_65.toNatClampNeg = 0 := by omega
                refine zp_seg (pc' := 69) (lv' := [(4, .ref (m + 7486 + 9 * s9.toNatClampNeg)), (0, .ref m), (1, .int s9), (2, .int way), (3, .int to)]) (st' := [.ref m]) [(68, .aload_n 0)] (by decide +kernel) rfl ?_
                have hb103 := hR_m.si hsi65
                refine zr_callV (idx := 140) (j := 274) (by decide +kernel) (by decide +kernel) (show zMe 274 = some zq_X16_newB from rfl) rfl rfl (Nat.le_of_ble_eq_true rfl) rfl rfl hM65 (Nat.le_of_ble_eq_true rfl) (Nat.le_of_ble_eq_true rfl) (c_X16_newB (w := w65) (g3 := Z9_65) m hM65 hb103 (by first | omega | decide | assumption | exact zr1_1 | exact zr1_0 | fail "num") rfl) (by omega) (fun v69 w69 hp69 => ?_)
                obtain ⟨hsi69, heq69, hp69_0, hp69_1, rfl⟩ := hp69
                have hM69 : w69 m = some (.inl (15, zMo m (zs (zs (zs g 1 Z9_65) 3 (Z9_65 + 1)) 16 Z9_65) r)) := hp69_0
                show zP _ _ _ _ [.ref (m + 596 + 130 * Z9_65.toNatClampNeg)] _ _ _ _ _
                refine zp_seg (pc' := 75) (lv' := [(5, .ref (m + 596 + 130 * Z9_65.toNatClampNeg)), (4, .ref (m + 7486 + 9 * s9.toNatClampNeg)), (0, .ref m), (1, .int s9), (2, .int way), (3, .int to)]) (st' := [.ref m]) [(72, .astore 5), (74, .aload_n 0)] (by decide +kernel) rfl ?_
                have k104 := zaddC Z9_65 1 (n := 1) (by decide) (by omega) (by omega)
                have hz105 : ((Z9_65 + 1).toNatClampNeg : Int) = (Z9_65 + 1).toInt := znat (by first | omega | decide)
                have hgzZ9_65_1 : (Z9_65 + 1).toNatClampNeg = 1 := by omega
                have hb106 := hb103.si hsi69
                refine zr_callV (idx := 140) (j := 274) (by decide +kernel) (by decide +kernel) (show zMe 274 = some zq_X16_newB from rfl) rfl rfl (Nat.le_of_ble_eq_true rfl) rfl rfl hM69 (Nat.le_of_ble_eq_true rfl) (Nat.le_of_ble_eq_true rfl) (c_X16_newB (w := w69) (g3 := (Z9_65 + 1)) m hM69 hb106 (by first | omega | decide | assumption | exact zr1_1 | exact zr1_0 | fail "num") rfl) (by omega) (fun v75 w75 hp75 => ?_)
                obtain ⟨hsi75, heq75, hp75_0, hp75_1, rfl⟩ := hp75
                have hM75 : w75 m = some (.inl (15, zMo m (zs (zs (zs g 1 Z9_65) 3 (Z9_65 + 1 + 1)) 16 Z9_65) r)) := hp75_0
                show zP _ _ _ _ [.ref (m + 596 + 130 * (Z9_65 + 1).toNatClampNeg)] _ _ _ _ _
                refine zp_seg (pc' := 88) (lv' := [(6, .ref (m + 596 + 130 * (Z9_65 + 1).toNatClampNeg)), (5, .ref (m + 596 + 130 * Z9_65.toNatClampNeg)), (4, .ref (m + 7486 + 9 * s9.toNatClampNeg)), (0, .ref m), (1, .int s9), (2, .int way), (3, .int to)]) (st' := [.int way, .ref (m + 7486 + 9 * s9.toNatClampNeg), .ref (m + 596 + 130 * (Z9_65 + 1).toNatClampNeg), .ref (m + 596 + 130 * Z9_65.toNatClampNeg), .ref m]) [(78, .astore 6), (80, .aload_n 0), (81, .aload 5), (83, .aload 6), (85, .aload 4), (87, .iload_n 2)] (by decide +kernel) rfl ?_
                have hJ96 : ∀ (z0_96 : Int32), (0 ≤ z0_96.toInt ∧ z0_96.toInt + way.toInt = 1) → zP (d + 1) zq_X16_quotient_ 96 [(0, .ref m), (2, .int way), (3, .int to), (5, .ref (m + 596 + 130 * Z9_65.toNatClampNeg)), (6, .ref (m + 596 + 130 * (Z9_65 + 1).toNatClampNeg))] [.int z0_96, .ref (m + 7486 + 9 * s9.toNatClampNeg), .ref (m + 596 + 130 * (Z9_65 + 1).toNatClampNeg), .ref (m + 596 + 130 * Z9_65.toNatClampNeg), .ref m] w75 sz 0 0 Post := by
                  intro z0_96 hdn
                  have kz0_96 := zrng z0_96
                  refine zp_seg (pc' := 97) (lv' := [(0, .ref m), (2, .int way), (3, .int to), (5, .ref (m + 596 + 130 * Z9_65.toNatClampNeg)), (6, .ref (m + 596 + 130 * (Z9_65 + 1).toNatClampNeg))]) (st' := [.int way, .int z0_96, .ref (m + 7486 + 9 * s9.toNatClampNeg), .ref (m + 596 + 130 * (Z9_65 + 1).toNatClampNeg), .ref (m + 596 + 130 * Z9_65.toNatClampNeg), .ref m]) [(96, .iload_n 2)] (by decide +kernel) rfl ?_
                  have k107 := zaddC (Z9_65 + 1) 1 (n := 1) (by decide) (by omega) (by omega)
                  have hz108 : ((Z9_65 + 1 + 1).toNatClampNeg : Int) = (Z9_65 + 1 + 1).toInt := znat (by first | omega | decide)
                  have hgzZ9_65_2 : (Z9_65 + 1 + 1).toNatClampNeg = 2 := by omega
                  have hb109 := hb106.si hsi75
                  have hb110 : zB w75 (m + 596 + 130 * Z9_65.toNatClampNeg) zbZ := hp69_1.ag (fun x hx1 hx2 => (heq75 x ⟨(zx_X16_quotient__0 hx1 hx2 hgzZ9_65_0), (zx_X16_quotient__1 hx1 hx2 hgzZ9_65_0 hgzZ9_65_1)⟩))
                  have ho97_num := zB.o hb110
                  have ho97_den := zB.o hp75_1
                  have hb111 : zTi w75 (m + 7486 + 9 * s9.toNatClampNeg) kS1 := hkS1.ag (fun x hx1 hx2 => ((heq75 x (by omega)).trans ((heq69 x (by omega)).trans (heq65 x (by omega)))))
                  have hb112 : w75 (m + 7486 + 9 * s9.toNatClampNeg + 1) = some (.inr (0, 325, .inl fn1)) := ((heq75 (m + 7486 + 9 * s9.toNatClampNeg + 1) (by omega)).trans ((heq69 (m + 7486 + 9 * s9.toNatClampNeg + 1) (by omega)).trans (heq65 (m + 7486 + 9 * s9.toNatClampNeg + 1) (by omega)))).trans hAn1
                  refine zr_callV (idx := 633) (j := 361) (by decide +kernel) (by decide +kernel) (show zMe 361 = some zq_X16_quotient from rfl) rfl rfl (Nat.le_of_ble_eq_true rfl) rfl rfl hM75 (Nat.le_of_ble_eq_true rfl) (Nat.le_of_ble_eq_true rfl) (c_X16_quotient (w := w75) (g1 := Z9_65) (g3 := (Z9_65 + 1 + 1)) m (m + 596 + 130 * Z9_65.toNatClampNeg) (m + 596 + 130 * (Z9_65 + 1).toNatClampNeg) (m + 7486 + 9 * s9.toNatClampNeg) z0_96 way hM75 hb109 ho97_num ho97_den hb111 (by first | omega | decide | assumption | exact zr1_1 | exact zr1_0 | fail "num") (by first | omega | decide | assumption | exact zr1_1 | exact zr1_0 | fail "num") (by first | omega | decide | assumption | exact zr1_1 | exact zr1_0 | fail "num") (by first | omega | decide | assumption | exact zr1_1 | exact zr1_0 | fail "num") (by first | omega | decide | assumption | exact zr1_1 | exact zr1_0 | fail "num") (by first | omega | decide | assumption | exact zr1_1 | exact zr1_0 | fail "num") (by exact hkk9) (by exact ⟨_, hb112, hnn9⟩) (by first | omega | decide | assumption | exact zr1_1 | exact zr1_0 | fail "num") rfl rfl) (by omega) (fun v97 w97 hp97 => ?_)
                  obtain ⟨L9_97, N9_97, P9_97, Q9_97, hsi97, heq97, hp97_0, hp97_1, hp97_2, hp97_3, r97, rfl, hrb97, hr97⟩ := hp97
                  have hM97 : w97 m = some (.inl (15, zMo m (zs (zs (zs (zs (zs g 1 Z9_65) 3 (Z9_65 + 1 + 1)) 16 Z9_65) 36 L9_97) 37 N9_97) r)) := hp97_0
                  have kr97 := zrng r97
                  show zP _ _ _ _ [.int r97] _ _ _ _ _
                  refine zp_if (i := .ifCond .ne 6) (c := ¬ r97 = 0) (t := 106) (e := 103) (lv' := [(0, .ref m), (2, .int way), (3, .int to), (5, .ref (m + 596 + 130 * Z9_65.toNatClampNeg)), (6, .ref (m + 596 + 130 * (Z9_65 + 1).toNatClampNeg))]) (st' := []) (by decide +kernel) rfl (fun cc100 => ?_) (fun cc100 => ?_)
                  ·
                    have f113 := zneI cc100
                    rw [show (0 : Int32).toInt = 0 from by decide] at f113
                    have hq9 := hr97 (hrb97.resolve_left cc100)
                    have hb114 : zTm w97 (m + 83) := hMd0.ag (fun x hx1 hx2 => ((heq97 x ⟨(zx_X16_quotient__2 hx1 hx2), (zx_X16_quotient__3 hx1 hx2 hgzZ9_65_0), (zx_X16_quotient__4 hx1 hx2 hgzZ9_65_1), (zx_X16_quotient__5 hx1 hx2), (zx_X16_quotient__6 hx1 hx2 hgzZ9_65_0), (zx_X16_quotient__7 hx1 hx2 hgzZ9_65_2), (zx_X16_quotient__8 hx1 hx2), (zx_X16_quotient__9 hx1 hx2)⟩).trans ((heq75 x ⟨(zx_X16_quotient__2 hx1 hx2), (zx_X16_quotient__4 hx1 hx2 hgzZ9_65_1)⟩).trans ((heq69 x ⟨(zx_X16_quotient__2 hx1 hx2), (zx_X16_quotient__3 hx1 hx2 hgzZ9_65_0)⟩).trans (heq65 x (zx_X16_quotient__2 hx1 hx2))))))
                    obtain ⟨g2, fn2, fd2, fa2, fb2, fc2, fe2, fr2, fu2, hT2, hAn2, hAd2, hAa2, hAb2, hAc2, hAe2, hAr2, hAu2, hKn2, hKd2, hKr2, hKu2⟩ := id hb114
                    refine zp_seg (pc' := 107) (lv' := [(0, .ref m), (2, .int way), (3, .int to), (5, .ref (m + 596 + 130 * Z9_65.toNatClampNeg)), (6, .ref (m + 596 + 130 * (Z9_65 + 1).toNatClampNeg))]) (st' := [.ref m]) [(106, .aload_n 0)] (by decide +kernel) rfl ?_
                    refine zr_get (idx := 453) (k := 21) (v := .ref (m + 83)) (by decide +kernel) (by decide +kernel) hM97 rfl ?_
                    refine zr_callS (idx := 257) (j := 304) (by decide +kernel) (by decide +kernel) (by decide) (show zMe 304 = some zq_X16_plain from rfl) rfl rfl (Nat.le_of_ble_eq_true rfl) rfl rfl (Nat.le_of_ble_eq_true rfl) (Nat.le_of_ble_eq_true rfl) (c_X16_plain (w := w97) (m + 83) hT2) (by omega) (fun v110 w110 hp110 => ?_)
                    obtain ⟨hsi110, heq110, hp110_0, rfl⟩ := hp110
                    have hT110 : w110 (m + 83) = some (.inl (13, zTo (m + 83) (zs (zs (zs (zs g2 0 1) 3 1) 4 1) 5 0))) := hp110_0
                    show zP _ _ _ _ [] _ _ _ _ _
                    refine zp_seg (pc' := 114) (lv' := [(0, .ref m), (2, .int way), (3, .int to), (5, .ref (m + 596 + 130 * Z9_65.toNatClampNeg)), (6, .ref (m + 596 + 130 * (Z9_65 + 1).toNatClampNeg))]) (st' := [.ref m]) [(113, .aload_n 0)] (by decide +kernel) rfl ?_
                    have hb115 : w110 m = some (.inl (15, zMo m (zs (zs (zs (zs (zs g 1 Z9_65) 3 (Z9_65 + 1 + 1)) 16 Z9_65) 36 L9_97) 37 N9_97) r)) := (heq110 m (zx_X16_quotient__10)).trans hM97
                    refine zr_get (idx := 453) (k := 21) (v := .ref (m + 83)) (by decide +kernel) (by decide +kernel) hb115 rfl ?_
                    refine zp_seg (pc' := 121) (lv' := [(0, .ref m), (2, .int way), (3, .int to), (5, .ref (m + 596 + 130 * Z9_65.toNatClampNeg)), (6, .ref (m + 596 + 130 * (Z9_65 + 1).toNatClampNeg))]) (st' := [.ref (m + 596 + 130 * (Z9_65 + 1).toNatClampNeg), .ref (m + 596 + 130 * Z9_65.toNatClampNeg), .ref (m + 83)]) [(117, .aload 5), (119, .aload 6)] (by decide +kernel) rfl ?_
                    have hb116 : w110 (m + 83 + 1) = some (.inr (0, 325, .inl fn2)) := (heq110 (m + 83 + 1) (zx_X16_quotient__11)).trans hAn2
                    have hb117 : w110 (m + 83 + 2) = some (.inr (0, 325, .inl fd2)) := (heq110 (m + 83 + 2) (zx_X16_quotient__12)).trans hAd2
                    have hb118 : zB w110 (m + 596 + 130 * Z9_65.toNatClampNeg) P9_97 := hp97_1.ag (fun x hx1 hx2 => (heq110 x (zx_X16_quotient__13 hx1 hx2 hgzZ9_65_0)))
                    have hb119 : zB w110 (m + 596 + 130 * (Z9_65 + 1).toNatClampNeg) Q9_97 := hp97_2.ag (fun x hx1 hx2 => (heq110 x (zx_X16_quotient__14 hx1 hx2 hgzZ9_65_1)))
                    refine zr_callS (idx := 261) (j := 303) (by decide +kernel) (by decide +kernel) (by decide) (show zMe 303 = some zq_X16_put from rfl) rfl rfl (Nat.le_of_ble_eq_true rfl) rfl rfl (Nat.le_of_ble_eq_true rfl) (Nat.le_of_ble_eq_true rfl) (c_X16_put (w := w110) (m + 83) (m + 596 + 130 * Z9_65.toNatClampNeg) (m + 596 + 130 * (Z9_65 + 1).toNatClampNeg) hT110 hb116 hb117 hb118 hb119 (by first | omega | decide | assumption | exact zr1_1 | exact zr1_0 | fail "num") (by first | omega | decide | assumption | exact zr1_1 | exact zr1_0 | fail "num")) (by omega) (fun v121 w121 hp121 => ?_)
                    obtain ⟨Fn_121, Fd_121, hsi121, heq121, hp121_0, hp121_1, r121, rfl, hrb121, hr121⟩ := hp121
                    have kr121 := zrng r121
                    show zP _ _ _ _ [.int r121] _ _ _ _ _
                    refine zp_seg (pc' := 126) (lv' := [(7, .int r121), (0, .ref m), (2, .int way), (3, .int to), (5, .ref (m + 596 + 130 * Z9_65.toNatClampNeg)), (6, .ref (m + 596 + 130 * (Z9_65 + 1).toNatClampNeg))]) (st' := []) [(124, .istore 7)] (by decide +kernel) rfl ?_
                    have hpp9 := hr121.2.1 (hr121.2.2 ⟨⟨hq9.1, hq9.2.1⟩, ⟨hq9.2.2.1, hq9.2.2.2⟩⟩)
                    have hb120 : w121 (m + 83) = some (.inl (13, zTo (m + 83) (zs (zs (zs (zs g2 0 1) 3 1) 4 1) 5 0))) := (heq121 (m + 83) (zx_X16_quotient__15)).trans hT110
                    have hb121 : w121 (m + 83 + 3) = some (.inr (0, 13, .inl fa2)) := ((heq121 (m + 83 + 3) (zx_X16_quotient__17)).trans (heq110 (m + 83 + 3) (zx_X16_quotient__16))).trans hAa2
                    have hb122 : w121 (m + 83 + 4) = some (.inr (0, 13, .inl fb2)) := ((heq121 (m + 83 + 4) (zx_X16_quotient__19)).trans (heq110 (m + 83 + 4) (zx_X16_quotient__18))).trans hAb2
                    have hb123 : w121 (m + 83 + 5) = some (.inr (0, 13, .inl fc2)) := ((heq121 (m + 83 + 5) (zx_X16_quotient__21)).trans (heq110 (m + 83 + 5) (zx_X16_quotient__20))).trans hAc2
                    have hb124 : w121 (m + 83 + 6) = some (.inr (0, 13, .inl fe2)) := ((heq121 (m + 83 + 6) (zx_X16_quotient__23)).trans (heq110 (m + 83 + 6) (zx_X16_quotient__22))).trans hAe2
                    have hb125 : w121 (m + 83 + 7) = some (.inr (0, 175, .inl fr2)) := ((heq121 (m + 83 + 7) (zx_X16_quotient__25)).trans (heq110 (m + 83 + 7) (zx_X16_quotient__24))).trans hAr2
                    have hb126 : w121 (m + 83 + 8) = some (.inr (0, 361, .inl fu2)) := ((heq121 (m + 83 + 8) (zx_X16_quotient__27)).trans (heq110 (m + 83 + 8) (zx_X16_quotient__26))).trans hAu2
                    have hTi9 : zTi w121 (m + 83) 1 := ⟨_, _, _, _, _, _, _, _, _, hb120, hp121_0, hp121_1, hb121, hb122, hb123, hb124, hb125, hb126, ⟨rfl, hpp9.1, hpp9.2.1, ⟨zr1_1, zr1_1⟩, ⟨show 0 ≤ (0 : Int32).toInt by decide, show (0 : Int32).toInt ≤ 13 by decide⟩, fun i hi => absurd hi (Nat.not_lt_zero _), hKr2, hKu2, zKk_12 (Or.inl rfl) (by rw [hpp9.2.2.2]; exact hp97_3.2.1) (fun e => absurd e (by decide)) ⟨show (1 : Int32) ≠ 0 by decide, show (1 : Int32) ≠ 0 by decide⟩⟩⟩
                    have hz127 : (to.toNatClampNeg : Int) = to.toInt := znat (by first | omega | decide)
                    have hb128 : zSlo w121 (m + 7486) := hSl0.ag (fun x hx1 hx2 => ((heq121 x (zx_X16_quotient__37 hx1 hx2)).trans ((heq110 x (zx_X16_quotient__36 hx1 hx2)).trans ((heq97 x ⟨(zx_X16_quotient__28 hx1 hx2), (zx_X16_quotient__29 hx1 hx2 hgzZ9_65_0), (zx_X16_quotient__30 hx1 hx2 hgzZ9_65_1), (zx_X16_quotient__31 hx1 hx2), (zx_X16_quotient__32 hx1 hx2 hgzZ9_65_0), (zx_X16_quotient__33 hx1 hx2 hgzZ9_65_2), (zx_X16_quotient__34 hx1 hx2), (zx_X16_quotient__35 hx1 hx2)⟩).trans ((heq75 x ⟨(zx_X16_quotient__28 hx1 hx2), (zx_X16_quotient__30 hx1 hx2 hgzZ9_65_1)⟩).trans ((heq69 x ⟨(zx_X16_quotient__28 hx1 hx2), (zx_X16_quotient__29 hx1 hx2 hgzZ9_65_0)⟩).trans (heq65 x (zx_X16_quotient__28 hx1 hx2))))))))
                    obtain ⟨kT, hkT⟩ := hb128 to.toNatClampNeg (by omega)
                    refine zp_seg (pc' := 128) (lv' := [(7, .int r121), (0, .ref m), (2, .int way), (3, .int to), (5, .ref (m + 596 + 130 * Z9_65.toNatClampNeg)), (6, .ref (m + 596 + 130 * (Z9_65 + 1).toNatClampNeg))]) (st' := [.int to, .ref m]) [(126, .aload_n 0), (127, .iload_n 3)] (by decide +kernel) rfl ?_
                    have hb129 : w121 m = some (.inl (15, zMo m (zs (zs (zs (zs (zs g 1 Z9_65) 3 (Z9_65 + 1 + 1)) 16 Z9_65) 36 L9_97) 37 N9_97) r)) := (heq121 m (zx_X16_quotient__38)).trans hb115
                    have hb130 := hb109.si ((hsi97.tr hsi110).tr hsi121)
                    refine zr_callV (idx := 558) (j := 338) (by decide +kernel) (by decide +kernel) (show zMe 338 = some zq_X16_keep from rfl) rfl rfl (Nat.le_of_ble_eq_true rfl) rfl rfl hb129 (Nat.le_of_ble_eq_true rfl) (Nat.le_of_ble_eq_true rfl) (c_X16_keep (w := w121) m to hb129 hb130 hTi9 hkT (by first | omega | decide | assumption | exact zr1_1 | exact zr1_0 | fail "num")) (by omega) (fun v128 w128 hp128 => ?_)
                    obtain ⟨hsi128, heq128, hp128_0, r128, rfl, hr128⟩ := hp128
                    have kr128 := zrng r128
                    show zP _ _ _ _ [.int r128] _ _ _ _ _
                    have hSl131 := hSl0.up (w' := w128) to.toNatClampNeg hp128_0 (fun x h1 h2 h3 => ((heq128 x (by omega)).trans ((heq121 x (by omega)).trans ((heq110 x (by omega)).trans ((heq97 x (by omega)).trans ((heq75 x (by omega)).trans ((heq69 x (by omega)).trans (heq65 x (by omega)))))))))
                    have hb131 : w128 m = some (.inl (15, zMo m (zs (zs (zs (zs (zs g 1 Z9_65) 3 (Z9_65 + 1 + 1)) 16 Z9_65) 36 L9_97) 37 N9_97) r)) := (heq128 m (by omega)).trans hb129
                    have hoffend : ∀ x, (x < m + 0 ∨ m + 0 + 8322 ≤ x) → w128 x = w x := fun x hx => ((heq128 x (by omega)).trans ((heq121 x (zx_X16_quotient__48 hx)).trans ((heq110 x (zx_X16_quotient__47 hx)).trans ((heq97 x ⟨(zx_X16_quotient__39 hx), (zx_X16_quotient__40 hx hgzZ9_65_0), (zx_X16_quotient__41 hx hgzZ9_65_1), (zx_X16_quotient__42 hx), (zx_X16_quotient__43 hx hgzZ9_65_0), (zx_X16_quotient__44 hx hgzZ9_65_2), (zx_X16_quotient__45 hx), (zx_X16_quotient__46 hx)⟩).trans ((heq75 x ⟨(zx_X16_quotient__39 hx), (zx_X16_quotient__41 hx hgzZ9_65_1)⟩).trans ((heq69 x ⟨(zx_X16_quotient__39 hx), (zx_X16_quotient__40 hx hgzZ9_65_0)⟩).trans (heq65 x (zx_X16_quotient__39 hx))))))))
                    have hb132 := hb130.si hsi128
                    have hb133 : zTi w128 (m + 83) 1 := hTi9.ag (fun x hx1 hx2 => (heq128 x (by omega)))
                    have hb134 : zPil w128 (m + 6316) := hPl0.ag (fun x hx1 hx2 => ((heq128 x (by omega)).trans ((heq121 x (zx_X16_quotient__58 hx1 hx2)).trans ((heq110 x (zx_X16_quotient__57 hx1 hx2)).trans ((heq97 x ⟨(zx_X16_quotient__49 hx1 hx2), (zx_X16_quotient__50 hx1 hx2 hgzZ9_65_0), (zx_X16_quotient__51 hx1 hx2 hgzZ9_65_1), (zx_X16_quotient__52 hx1 hx2), (zx_X16_quotient__53 hx1 hx2 hgzZ9_65_0), (zx_X16_quotient__54 hx1 hx2 hgzZ9_65_2), (zx_X16_quotient__55 hx1 hx2), (zx_X16_quotient__56 hx1 hx2)⟩).trans ((heq75 x ⟨(zx_X16_quotient__49 hx1 hx2), (zx_X16_quotient__51 hx1 hx2 hgzZ9_65_1)⟩).trans ((heq69 x ⟨(zx_X16_quotient__49 hx1 hx2), (zx_X16_quotient__50 hx1 hx2 hgzZ9_65_0)⟩).trans (heq65 x (zx_X16_quotient__49 hx1 hx2)))))))))
                    have hb135 : zBya w128 (m + 92) 4000 := hBo0.ag (fun x hx1 hx2 => ((heq128 x (by omega)).trans ((heq121 x (zx_X16_quotient__68 hx1 hx2)).trans ((heq110 x (zx_X16_quotient__67 hx1 hx2)).trans ((heq97 x ⟨(zx_X16_quotient__59 hx1 hx2), (zx_X16_quotient__60 hx1 hx2 hgzZ9_65_0), (zx_X16_quotient__61 hx1 hx2 hgzZ9_65_1), (zx_X16_quotient__62 hx1 hx2), (zx_X16_quotient__63 hx1 hx2 hgzZ9_65_0), (zx_X16_quotient__64 hx1 hx2 hgzZ9_65_2), (zx_X16_quotient__65 hx1 hx2), (zx_X16_quotient__66 hx1 hx2)⟩).trans ((heq75 x ⟨(zx_X16_quotient__59 hx1 hx2), (zx_X16_quotient__61 hx1 hx2 hgzZ9_65_1)⟩).trans ((heq69 x ⟨(zx_X16_quotient__59 hx1 hx2), (zx_X16_quotient__60 hx1 hx2 hgzZ9_65_0)⟩).trans (heq65 x (zx_X16_quotient__59 hx1 hx2)))))))))
                    have hb136 : zBya w128 (m + 93) 4000 := hBl0.ag (fun x hx1 hx2 => ((heq128 x (by omega)).trans ((heq121 x (zx_X16_quotient__78 hx1 hx2)).trans ((heq110 x (zx_X16_quotient__77 hx1 hx2)).trans ((heq97 x ⟨(zx_X16_quotient__69 hx1 hx2), (zx_X16_quotient__70 hx1 hx2 hgzZ9_65_0), (zx_X16_quotient__71 hx1 hx2 hgzZ9_65_1), (zx_X16_quotient__72 hx1 hx2), (zx_X16_quotient__73 hx1 hx2 hgzZ9_65_0), (zx_X16_quotient__74 hx1 hx2 hgzZ9_65_2), (zx_X16_quotient__75 hx1 hx2), (zx_X16_quotient__76 hx1 hx2)⟩).trans ((heq75 x ⟨(zx_X16_quotient__69 hx1 hx2), (zx_X16_quotient__71 hx1 hx2 hgzZ9_65_1)⟩).trans ((heq69 x ⟨(zx_X16_quotient__69 hx1 hx2), (zx_X16_quotient__70 hx1 hx2 hgzZ9_65_0)⟩).trans (heq65 x (zx_X16_quotient__69 hx1 hx2)))))))))
                    have hb137 : zGr w128 (m + 100) 48 48 := hGa0.ag (fun x hx1 hx2 => ((heq128 x (by omega)).trans ((heq121 x (zx_X16_quotient__88 hx1 hx2)).trans ((heq110 x (zx_X16_quotient__87 hx1 hx2)).trans ((heq97 x ⟨(zx_X16_quotient__79 hx1 hx2), (zx_X16_quotient__80 hx1 hx2 hgzZ9_65_0), (zx_X16_quotient__81 hx1 hx2 hgzZ9_65_1), (zx_X16_quotient__82 hx1 hx2), (zx_X16_quotient__83 hx1 hx2 hgzZ9_65_0), (zx_X16_quotient__84 hx1 hx2 hgzZ9_65_2), (zx_X16_quotient__85 hx1 hx2), (zx_X16_quotient__86 hx1 hx2)⟩).trans ((heq75 x ⟨(zx_X16_quotient__79 hx1 hx2), (zx_X16_quotient__81 hx1 hx2 hgzZ9_65_1)⟩).trans ((heq69 x ⟨(zx_X16_quotient__79 hx1 hx2), (zx_X16_quotient__80 hx1 hx2 hgzZ9_65_0)⟩).trans (heq65 x (zx_X16_quotient__79 hx1 hx2)))))))))
                    have hb138 : zGr w128 (m + 212) 60 46 := hGb0.ag (fun x hx1 hx2 => ((heq128 x (by omega)).trans ((heq121 x (zx_X16_quotient__98 hx1 hx2)).trans ((heq110 x (zx_X16_quotient__97 hx1 hx2)).trans ((heq97 x ⟨(zx_X16_quotient__89 hx1 hx2), (zx_X16_quotient__90 hx1 hx2 hgzZ9_65_0), (zx_X16_quotient__91 hx1 hx2 hgzZ9_65_1), (zx_X16_quotient__92 hx1 hx2), (zx_X16_quotient__93 hx1 hx2 hgzZ9_65_0), (zx_X16_quotient__94 hx1 hx2 hgzZ9_65_2), (zx_X16_quotient__95 hx1 hx2), (zx_X16_quotient__96 hx1 hx2)⟩).trans ((heq75 x ⟨(zx_X16_quotient__89 hx1 hx2), (zx_X16_quotient__91 hx1 hx2 hgzZ9_65_1)⟩).trans ((heq69 x ⟨(zx_X16_quotient__89 hx1 hx2), (zx_X16_quotient__90 hx1 hx2 hgzZ9_65_0)⟩).trans (heq65 x (zx_X16_quotient__89 hx1 hx2)))))))))
                    have hb139 : zBd w128 (m + 149) := hBd0.ag (fun x hx1 hx2 => ((heq128 x (by omega)).trans ((heq121 x (zx_X16_quotient__108 hx1 hx2)).trans ((heq110 x (zx_X16_quotient__107 hx1 hx2)).trans ((heq97 x ⟨(zx_X16_quotient__99 hx1 hx2), (zx_X16_quotient__100 hx1 hx2 hgzZ9_65_0), (zx_X16_quotient__101 hx1 hx2 hgzZ9_65_1), (zx_X16_quotient__102 hx1 hx2), (zx_X16_quotient__103 hx1 hx2 hgzZ9_65_0), (zx_X16_quotient__104 hx1 hx2 hgzZ9_65_2), (zx_X16_quotient__105 hx1 hx2), (zx_X16_quotient__106 hx1 hx2)⟩).trans ((heq75 x ⟨(zx_X16_quotient__99 hx1 hx2), (zx_X16_quotient__101 hx1 hx2 hgzZ9_65_1)⟩).trans ((heq69 x ⟨(zx_X16_quotient__99 hx1 hx2), (zx_X16_quotient__100 hx1 hx2 hgzZ9_65_0)⟩).trans (heq65 x (zx_X16_quotient__99 hx1 hx2)))))))))
                    have hb140 : w128 (m + 94) = some (.inr (0, 60, .inl ff)) := ((heq128 (m + 94) (by omega)).trans ((heq121 (m + 94) (zx_X16_quotient__118)).trans ((heq110 (m + 94) (zx_X16_quotient__117)).trans ((heq97 (m + 94) ⟨(zx_X16_quotient__109), (zx_X16_quotient__110 hgzZ9_65_0), (zx_X16_quotient__111 hgzZ9_65_1), (zx_X16_quotient__112), (zx_X16_quotient__113 hgzZ9_65_0), (zx_X16_quotient__114 hgzZ9_65_2), (zx_X16_quotient__115), (zx_X16_quotient__116)⟩).trans ((heq75 (m + 94) ⟨(zx_X16_quotient__109), (zx_X16_quotient__111 hgzZ9_65_1)⟩).trans ((heq69 (m + 94) ⟨(zx_X16_quotient__109), (zx_X16_quotient__110 hgzZ9_65_0)⟩).trans (heq65 (m + 94) (zx_X16_quotient__109)))))))).trans hAf0
                    refine zr_retI (by decide +kernel) rfl ?_
                    rw [← hPost]; exact ⟨rfl, _, rfl, ((((((hsi65.tr hsi69).tr hsi75).tr hsi97).tr hsi110).tr hsi121).tr hsi128), hoffend, ⟨_, _, hb131, hb132, hSl131, (zTi.m hb133), hb134, ⟨_, hb140, hff⟩, hb135, hb136, hb137, hb138, hb139, hI12, hI24, hI29, hI31, hIn⟩, _, rfl, trivial⟩
                  ·
                    replace cc100 := Classical.not_not.mp cc100
                    have f141 := zeqI cc100
                    rw [show (0 : Int32).toInt = 0 from by decide] at f141
                    refine zp_seg (pc' := 105) (lv' := [(0, .ref m), (2, .int way), (3, .int to), (5, .ref (m + 596 + 130 * Z9_65.toNatClampNeg)), (6, .ref (m + 596 + 130 * (Z9_65 + 1).toNatClampNeg))]) (st' := [.int (Int32.ofInt (-2))]) [(103, .bipush (-2))] (by decide +kernel) rfl ?_
                    have hoffend : ∀ x, (x < m + 0 ∨ m + 0 + 8322 ≤ x) → w97 x = w x := fun x hx => ((heq97 x ⟨(zx_X16_quotient__39 hx), (zx_X16_quotient__40 hx hgzZ9_65_0), (zx_X16_quotient__41 hx hgzZ9_65_1), (zx_X16_quotient__42 hx), (zx_X16_quotient__43 hx hgzZ9_65_0), (zx_X16_quotient__44 hx hgzZ9_65_2), (zx_X16_quotient__45 hx), (zx_X16_quotient__46 hx)⟩).trans ((heq75 x ⟨(zx_X16_quotient__39 hx), (zx_X16_quotient__41 hx hgzZ9_65_1)⟩).trans ((heq69 x ⟨(zx_X16_quotient__39 hx), (zx_X16_quotient__40 hx hgzZ9_65_0)⟩).trans (heq65 x (zx_X16_quotient__39 hx)))))
                    have hb142 := hb109.si hsi97
                    have hb143 : zSlo w97 (m + 7486) := hSl0.ag (fun x hx1 hx2 => ((heq97 x ⟨(zx_X16_quotient__28 hx1 hx2), (zx_X16_quotient__29 hx1 hx2 hgzZ9_65_0), (zx_X16_quotient__30 hx1 hx2 hgzZ9_65_1), (zx_X16_quotient__31 hx1 hx2), (zx_X16_quotient__32 hx1 hx2 hgzZ9_65_0), (zx_X16_quotient__33 hx1 hx2 hgzZ9_65_2), (zx_X16_quotient__34 hx1 hx2), (zx_X16_quotient__35 hx1 hx2)⟩).trans ((heq75 x ⟨(zx_X16_quotient__28 hx1 hx2), (zx_X16_quotient__30 hx1 hx2 hgzZ9_65_1)⟩).trans ((heq69 x ⟨(zx_X16_quotient__28 hx1 hx2), (zx_X16_quotient__29 hx1 hx2 hgzZ9_65_0)⟩).trans (heq65 x (zx_X16_quotient__28 hx1 hx2))))))
                    have hb144 : zTm w97 (m + 83) := hMd0.ag (fun x hx1 hx2 => ((heq97 x ⟨(zx_X16_quotient__2 hx1 hx2), (zx_X16_quotient__3 hx1 hx2 hgzZ9_65_0), (zx_X16_quotient__4 hx1 hx2 hgzZ9_65_1), (zx_X16_quotient__5 hx1 hx2), (zx_X16_quotient__6 hx1 hx2 hgzZ9_65_0), (zx_X16_quotient__7 hx1 hx2 hgzZ9_65_2), (zx_X16_quotient__8 hx1 hx2), (zx_X16_quotient__9 hx1 hx2)⟩).trans ((heq75 x ⟨(zx_X16_quotient__2 hx1 hx2), (zx_X16_quotient__4 hx1 hx2 hgzZ9_65_1)⟩).trans ((heq69 x ⟨(zx_X16_quotient__2 hx1 hx2), (zx_X16_quotient__3 hx1 hx2 hgzZ9_65_0)⟩).trans (heq65 x (zx_X16_quotient__2 hx1 hx2))))))
                    have hb145 : zPil w97 (m + 6316) := hPl0.ag (fun x hx1 hx2 => ((heq97 x ⟨(zx_X16_quotient__49 hx1 hx2), (zx_X16_quotient__50 hx1 hx2 hgzZ9_65_0), (zx_X16_quotient__51 hx1 hx2 hgzZ9_65_1), (zx_X16_quotient__52 hx1 hx2), (zx_X16_quotient__53 hx1 hx2 hgzZ9_65_0), (zx_X16_quotient__54 hx1 hx2 hgzZ9_65_2), (zx_X16_quotient__55 hx1 hx2), (zx_X16_quotient__56 hx1 hx2)⟩).trans ((heq75 x ⟨(zx_X16_quotient__49 hx1 hx2), (zx_X16_quotient__51 hx1 hx2 hgzZ9_65_1)⟩).trans ((heq69 x ⟨(zx_X16_quotient__49 hx1 hx2), (zx_X16_quotient__50 hx1 hx2 hgzZ9_65_0)⟩).trans (heq65 x (zx_X16_quotient__49 hx1 hx2))))))
                    have hb146 : zBya w97 (m + 92) 4000 := hBo0.ag (fun x hx1 hx2 => ((heq97 x ⟨(zx_X16_quotient__59 hx1 hx2), (zx_X16_quotient__60 hx1 hx2 hgzZ9_65_0), (zx_X16_quotient__61 hx1 hx2 hgzZ9_65_1), (zx_X16_quotient__62 hx1 hx2), (zx_X16_quotient__63 hx1 hx2 hgzZ9_65_0), (zx_X16_quotient__64 hx1 hx2 hgzZ9_65_2), (zx_X16_quotient__65 hx1 hx2), (zx_X16_quotient__66 hx1 hx2)⟩).trans ((heq75 x ⟨(zx_X16_quotient__59 hx1 hx2), (zx_X16_quotient__61 hx1 hx2 hgzZ9_65_1)⟩).trans ((heq69 x ⟨(zx_X16_quotient__59 hx1 hx2), (zx_X16_quotient__60 hx1 hx2 hgzZ9_65_0)⟩).trans (heq65 x (zx_X16_quotient__59 hx1 hx2))))))
                    have hb147 : zBya w97 (m + 93) 4000 := hBl0.ag (fun x hx1 hx2 => ((heq97 x ⟨(zx_X16_quotient__69 hx1 hx2), (zx_X16_quotient__70 hx1 hx2 hgzZ9_65_0), (zx_X16_quotient__71 hx1 hx2 hgzZ9_65_1), (zx_X16_quotient__72 hx1 hx2), (zx_X16_quotient__73 hx1 hx2 hgzZ9_65_0), (zx_X16_quotient__74 hx1 hx2 hgzZ9_65_2), (zx_X16_quotient__75 hx1 hx2), (zx_X16_quotient__76 hx1 hx2)⟩).trans ((heq75 x ⟨(zx_X16_quotient__69 hx1 hx2), (zx_X16_quotient__71 hx1 hx2 hgzZ9_65_1)⟩).trans ((heq69 x ⟨(zx_X16_quotient__69 hx1 hx2), (zx_X16_quotient__70 hx1 hx2 hgzZ9_65_0)⟩).trans (heq65 x (zx_X16_quotient__69 hx1 hx2))))))
                    have hb148 : zGr w97 (m + 100) 48 48 := hGa0.ag (fun x hx1 hx2 => ((heq97 x ⟨(zx_X16_quotient__79 hx1 hx2), (zx_X16_quotient__80 hx1 hx2 hgzZ9_65_0), (zx_X16_quotient__81 hx1 hx2 hgzZ9_65_1), (zx_X16_quotient__82 hx1 hx2), (zx_X16_quotient__83 hx1 hx2 hgzZ9_65_0), (zx_X16_quotient__84 hx1 hx2 hgzZ9_65_2), (zx_X16_quotient__85 hx1 hx2), (zx_X16_quotient__86 hx1 hx2)⟩).trans ((heq75 x ⟨(zx_X16_quotient__79 hx1 hx2), (zx_X16_quotient__81 hx1 hx2 hgzZ9_65_1)⟩).trans ((heq69 x ⟨(zx_X16_quotient__79 hx1 hx2), (zx_X16_quotient__80 hx1 hx2 hgzZ9_65_0)⟩).trans (heq65 x (zx_X16_quotient__79 hx1 hx2))))))
                    have hb149 : zGr w97 (m + 212) 60 46 := hGb0.ag (fun x hx1 hx2 => ((heq97 x ⟨(zx_X16_quotient__89 hx1 hx2), (zx_X16_quotient__90 hx1 hx2 hgzZ9_65_0), (zx_X16_quotient__91 hx1 hx2 hgzZ9_65_1), (zx_X16_quotient__92 hx1 hx2), (zx_X16_quotient__93 hx1 hx2 hgzZ9_65_0), (zx_X16_quotient__94 hx1 hx2 hgzZ9_65_2), (zx_X16_quotient__95 hx1 hx2), (zx_X16_quotient__96 hx1 hx2)⟩).trans ((heq75 x ⟨(zx_X16_quotient__89 hx1 hx2), (zx_X16_quotient__91 hx1 hx2 hgzZ9_65_1)⟩).trans ((heq69 x ⟨(zx_X16_quotient__89 hx1 hx2), (zx_X16_quotient__90 hx1 hx2 hgzZ9_65_0)⟩).trans (heq65 x (zx_X16_quotient__89 hx1 hx2))))))
                    have hb150 : zBd w97 (m + 149) := hBd0.ag (fun x hx1 hx2 => ((heq97 x ⟨(zx_X16_quotient__99 hx1 hx2), (zx_X16_quotient__100 hx1 hx2 hgzZ9_65_0), (zx_X16_quotient__101 hx1 hx2 hgzZ9_65_1), (zx_X16_quotient__102 hx1 hx2), (zx_X16_quotient__103 hx1 hx2 hgzZ9_65_0), (zx_X16_quotient__104 hx1 hx2 hgzZ9_65_2), (zx_X16_quotient__105 hx1 hx2), (zx_X16_quotient__106 hx1 hx2)⟩).trans ((heq75 x ⟨(zx_X16_quotient__99 hx1 hx2), (zx_X16_quotient__101 hx1 hx2 hgzZ9_65_1)⟩).trans ((heq69 x ⟨(zx_X16_quotient__99 hx1 hx2), (zx_X16_quotient__100 hx1 hx2 hgzZ9_65_0)⟩).trans (heq65 x (zx_X16_quotient__99 hx1 hx2))))))
                    have hb151 : w97 (m + 94) = some (.inr (0, 60, .inl ff)) := ((heq97 (m + 94) ⟨(zx_X16_quotient__109), (zx_X16_quotient__110 hgzZ9_65_0), (zx_X16_quotient__111 hgzZ9_65_1), (zx_X16_quotient__112), (zx_X16_quotient__113 hgzZ9_65_0), (zx_X16_quotient__114 hgzZ9_65_2), (zx_X16_quotient__115), (zx_X16_quotient__116)⟩).trans ((heq75 (m + 94) ⟨(zx_X16_quotient__109), (zx_X16_quotient__111 hgzZ9_65_1)⟩).trans ((heq69 (m + 94) ⟨(zx_X16_quotient__109), (zx_X16_quotient__110 hgzZ9_65_0)⟩).trans (heq65 (m + 94) (zx_X16_quotient__109))))).trans hAf0
                    refine zr_retI (by decide +kernel) rfl ?_
                    rw [← hPost]; exact ⟨rfl, _, rfl, (((hsi65.tr hsi69).tr hsi75).tr hsi97), hoffend, ⟨_, _, hM97, hb142, hb143, hb144, hb145, ⟨_, hb151, hff⟩, hb146, hb147, hb148, hb149, hb150, hI12, hI24, hI29, hI31, hIn⟩, _, rfl, trivial⟩
                refine zp_if (i := .ifCond .ne 7) (c := ¬ way = 0) (t := 95) (e := 91) (lv' := [(6, .ref (m + 596 + 130 * (Z9_65 + 1).toNatClampNeg)), (5, .ref (m + 596 + 130 * Z9_65.toNatClampNeg)), (4, .ref (m + 7486 + 9 * s9.toNatClampNeg)), (0, .ref m), (1, .int s9), (2, .int way), (3, .int to)]) (st' := [.ref (m + 7486 + 9 * s9.toNatClampNeg), .ref (m + 596 + 130 * (Z9_65 + 1).toNatClampNeg), .ref (m + 596 + 130 * Z9_65.toNatClampNeg), .ref m]) (by decide +kernel) rfl (fun cc88 => ?_) (fun cc88 => ?_)
                ·
                  have f153 := zneI cc88
                  rw [show (0 : Int32).toInt = 0 from by decide] at f153
                  refine zp_seg (pc' := 96) (lv' := [(6, .ref (m + 596 + 130 * (Z9_65 + 1).toNatClampNeg)), (5, .ref (m + 596 + 130 * Z9_65.toNatClampNeg)), (4, .ref (m + 7486 + 9 * s9.toNatClampNeg)), (0, .ref m), (1, .int s9), (2, .int way), (3, .int to)]) (st' := [.int 0, .ref (m + 7486 + 9 * s9.toNatClampNeg), .ref (m + 596 + 130 * (Z9_65 + 1).toNatClampNeg), .ref (m + 596 + 130 * Z9_65.toNatClampNeg), .ref m]) [(95, .iconst 0)] (by decide +kernel) rfl ?_
                  have hl154 : (0 : Int32).toInt = 0 := by decide
                  exact (hJ96 0 (by
                        omega)).more (zfa1 rfl (zfa1 rfl (zfa1 rfl (zfa1 rfl (zfa1 rfl (zfa0))))))
                ·
                  replace cc88 := Classical.not_not.mp cc88
                  have f155 := zeqI cc88
                  rw [show (0 : Int32).toInt = 0 from by decide] at f155
                  refine zp_seg (pc' := 96) (lv' := [(6, .ref (m + 596 + 130 * (Z9_65 + 1).toNatClampNeg)), (5, .ref (m + 596 + 130 * Z9_65.toNatClampNeg)), (4, .ref (m + 7486 + 9 * s9.toNatClampNeg)), (0, .ref m), (1, .int s9), (2, .int way), (3, .int to)]) (st' := [.int 1, .ref (m + 7486 + 9 * s9.toNatClampNeg), .ref (m + 596 + 130 * (Z9_65 + 1).toNatClampNeg), .ref (m + 596 + 130 * Z9_65.toNatClampNeg), .ref m]) [(91, .iconst 1), (92, .goto 4)] (by decide +kernel) rfl ?_
                  have hl156 : (1 : Int32).toInt = 1 := by decide
                  exact (hJ96 1 (by
                        omega)).more (zfa1 rfl (zfa1 rfl (zfa1 rfl (zfa1 rfl (zfa1 rfl (zfa0))))))
              ·
                have f157 := zneI cc59
                rw [show (0 : Int32).toInt = 0 from by decide] at f157
                refine zp_seg (pc' := 63) (lv' := [(4, .ref (m + 7486 + 9 * s9.toNatClampNeg)), (0, .ref m), (1, .int s9), (2, .int way), (3, .int to)]) (st' := [.int (Int32.ofInt (-1))]) [(62, .iconst (-1))] (by decide +kernel) rfl ?_
                have hoffend : ∀ x, (x < m + 0 ∨ m + 0 + 8322 ≤ x) → w x = w x := fun x hx => rfl
                refine zr_retI (by decide +kernel) rfl ?_
                rw [← hPost]; exact ⟨rfl, _, rfl, zSI.rf, hoffend, ⟨_, _, hm, hR_m, hSl0, hMd0, hPl0, ⟨_, hAf0, hff⟩, hBo0, hBl0, hGa0, hGb0, hBd0, hI12, hI24, hI29, hI31, hIn⟩, _, rfl, trivial⟩
        ·
          have f160 := zneI cc39
          rw [show (2 : Int32).toInt = 2 from by decide] at f160
          refine zp_seg (pc' := 44) (lv' := [(4, .ref (m + 7486 + 9 * s9.toNatClampNeg)), (0, .ref m), (1, .int s9), (2, .int way), (3, .int to)]) (st' := [.int (Int32.ofInt (-3))]) [(42, .bipush (-3))] (by decide +kernel) rfl ?_
          have hoffend : ∀ x, (x < m + 0 ∨ m + 0 + 8322 ≤ x) → w x = w x := fun x hx => rfl
          refine zr_retI (by decide +kernel) rfl ?_
          rw [← hPost]; exact ⟨rfl, _, rfl, zSI.rf, hoffend, ⟨_, _, hm, hR_m, hSl0, hMd0, hPl0, ⟨_, hAf0, hff⟩, hBo0, hBl0, hGa0, hGb0, hBd0, hI12, hI24, hI29, hI31, hIn⟩, _, rfl, trivial⟩
    ·
      replace cc11 := Classical.not_not.mp cc11
      have f162 := zeqI cc11
      rw [show (0 : Int32).toInt = 0 from by decide] at f162
      refine zp_seg (pc' := 15) (lv' := [(0, .ref m), (1, .int s9), (2, .int way), (3, .int to)]) (st' := [.int (Int32.ofInt (-1))]) [(14, .iconst (-1))] (by decide +kernel) rfl ?_
      have hoffend : ∀ x, (x < m + 0 ∨ m + 0 + 8322 ≤ x) → w x = w x := fun x hx => rfl
      refine zr_retI (by decide +kernel) rfl ?_
      rw [← hPost]; exact ⟨rfl, _, rfl, zSI.rf, hoffend, ⟨_, _, hm, hR_m, hSl0, hMd0, hPl0, ⟨_, hAf0, hff⟩, hBo0, hBl0, hGa0, hGb0, hBd0, hI12, hI24, hI29, hI31, hIn⟩, _, rfl, trivial⟩
