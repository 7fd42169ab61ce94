theorem zx_X16_split_0 {G1_0 f m x : Nat} (h0 : f ≤ x) (h1 : x < f + 2) (h2 : (m + 276 ≤ f ∧ f + 2 ≤ m + 276 + 2 * G1_0) ∨ m + 596 ≤ f) (h3 : G1_0 + 6 ≤ 160) : x < m ∨ m + 1 ≤ x := by omega
theorem zx_X16_split_1 {G1_0 f m x : Nat} (h0 : f ≤ x) (h1 : x < f + 2) (h2 : (m + 276 ≤ f ∧ f + 2 ≤ m + 276 + 2 * G1_0) ∨ m + 596 ≤ f) (h3 : G1_0 + 6 ≤ 160) : x < m + 276 + 2 * G1_0 ∨ m + 276 + 2 * G1_0 + 2 ≤ x := by omega
theorem zx_X16_split_2 {G1_0 G1_1 f m x : Nat} (h0 : f ≤ x) (h1 : x < f + 2) (h2 : (m + 276 ≤ f ∧ f + 2 ≤ m + 276 + 2 * G1_0) ∨ m + 596 ≤ f) (h3 : G1_1 = G1_0 + 1) (h4 : G1_0 + 6 ≤ 160) : x < m + 276 + 2 * G1_1 ∨ m + 276 + 2 * G1_1 + 2 ≤ x := by omega
theorem zx_X16_split_3 {G1_0 G1_2 f m x : Nat} (h0 : f ≤ x) (h1 : x < f + 2) (h2 : (m + 276 ≤ f ∧ f + 2 ≤ m + 276 + 2 * G1_0) ∨ m + 596 ≤ f) (h3 : G1_2 = G1_0 + 2) (h4 : G1_0 + 6 ≤ 160) : x < m + 276 + 2 * G1_2 ∨ m + 276 + 2 * G1_2 + 2 ≤ x := by omega
theorem zx_X16_split_4 {G1_0 f m x : Nat} (h0 : f ≤ x) (h1 : x < f + 2) (h2 : (m + 276 ≤ f ∧ f + 2 ≤ m + 276 + 2 * G1_0) ∨ m + 596 ≤ f) (h3 : G1_0 + 6 ≤ 160) : x < m + 276 + 2 * G1_0 ∨ m + 276 + 2 * G1_0 + (320 - 2 * G1_0) ≤ x := by omega
theorem zx_X16_split_5 {G1_0 f m x : Nat} (h0 : f ≤ x) (h1 : x < f + 2) (h2 : (m + 276 ≤ f ∧ f + 2 ≤ m + 276 + 2 * G1_0) ∨ m + 596 ≤ f) (h3 : G1_0 + 6 ≤ 160) : x ≠ m := by omega
theorem zx_X16_split_6 {G1_0 G1_1 m : Nat} (h0 : G1_1 = G1_0 + 1) (h1 : G1_0 + 6 ≤ 160) : m < m + 276 + 2 * G1_1 ∨ m + 276 + 2 * G1_1 + 2 ≤ m := by omega
theorem zx_X16_split_7 {G1_0 G1_3 m : Nat} (h0 : G1_3 = G1_0 + 3) (h1 : G1_0 + 6 ≤ 160) : m < m + 276 + 2 * G1_3 ∨ m + 276 + 2 * G1_3 + (320 - 2 * G1_3) ≤ m := by omega
theorem zx_X16_split_8 {G1_0 G1_1 G1_2 m x : Nat} (h0 : m + 276 + 2 * G1_2 ≤ x) (h1 : x < m + 276 + 2 * G1_2 + 2) (h2 : G1_1 = G1_0 + 1) (h3 : G1_2 = G1_0 + 2) (h4 : G1_0 + 6 ≤ 160) : x < m + 276 + 2 * G1_1 ∨ m + 276 + 2 * G1_1 + 2 ≤ x := by omega
theorem zx_X16_split_9 {G1_0 G1_2 G1_3 m x : Nat} (h0 : m + 276 + 2 * G1_2 ≤ x) (h1 : x < m + 276 + 2 * G1_2 + 2) (h2 : G1_2 = G1_0 + 2) (h3 : G1_3 = G1_0 + 3) (h4 : G1_0 + 6 ≤ 160) : x < m + 276 + 2 * G1_3 ∨ m + 276 + 2 * G1_3 + (320 - 2 * G1_3) ≤ x := by omega
theorem zx_X16_split_10 {m : Nat}  : (m + 274) < m ∨ m + 1 ≤ (m + 274) := by omega
theorem zx_X16_split_11 {G1_0 m : Nat} (h0 : G1_0 + 6 ≤ 160) : (m + 274) < m + 276 + 2 * G1_0 ∨ m + 276 + 2 * G1_0 + 2 ≤ (m + 274) := by omega
theorem zx_X16_split_12 {G1_0 G1_1 m : Nat} (h0 : G1_1 = G1_0 + 1) (h1 : G1_0 + 6 ≤ 160) : (m + 274) < m + 276 + 2 * G1_1 ∨ m + 276 + 2 * G1_1 + 2 ≤ (m + 274) := by omega
theorem zx_X16_split_13 {G1_0 G1_2 m : Nat} (h0 : G1_2 = G1_0 + 2) (h1 : G1_0 + 6 ≤ 160) : (m + 274) < m + 276 + 2 * G1_2 ∨ m + 276 + 2 * G1_2 + 2 ≤ (m + 274) := by omega
theorem zx_X16_split_14 {G1_0 m : Nat} (h0 : G1_0 + 6 ≤ 160) : (m + 274) < m + 276 + 2 * G1_0 ∨ m + 276 + 2 * G1_0 + (320 - 2 * G1_0) ≤ (m + 274) := by omega
theorem zx_X16_split_15 {m : Nat}  : (m + 274) ≠ m := by omega
theorem zx_X16_split_16 {G1_0 G1_3 m : Nat} (h0 : G1_3 = G1_0 + 3) (h1 : G1_0 + 6 ≤ 160) : (m + 274) < m + 276 + 2 * G1_3 ∨ m + 276 + 2 * G1_3 + (320 - 2 * G1_3) ≤ (m + 274) := by omega
theorem zx_X16_split_17 {G1_0 G1_1 m x : Nat} (h0 : m + 276 + 2 * G1_1 ≤ x) (h1 : x < m + 276 + 2 * G1_1 + 2) (h2 : G1_1 = G1_0 + 1) (h3 : G1_0 + 6 ≤ 160) : x < m ∨ m + 1 ≤ x := by omega
theorem zx_X16_split_18 {G1_0 G1_1 m x : Nat} (h0 : m + 276 + 2 * G1_1 ≤ x) (h1 : x < m + 276 + 2 * G1_1 + 2) (h2 : G1_1 = G1_0 + 1) (h3 : G1_0 + 6 ≤ 160) : x < m + 274 ∨ m + 274 + 1 ≤ x := by omega
theorem zx_X16_split_19 {G1_0 G1_1 G1_3 m x : Nat} (h0 : m + 276 + 2 * G1_1 ≤ x) (h1 : x < m + 276 + 2 * G1_1 + 2) (h2 : G1_1 = G1_0 + 1) (h3 : G1_3 = G1_0 + 3) (h4 : G1_0 + 6 ≤ 160) : x < m + 276 + 2 * G1_3 ∨ m + 276 + 2 * G1_3 + (320 - 2 * G1_3) ≤ x := by omega
theorem zx_X16_split_20 {G1_0 m x : Nat} (h0 : x < m + 276 + 2 * G1_0 ∨ m + 276 + 2 * G1_0 + (320 - 2 * G1_0) ≤ x) (h1 : G1_0 + 6 ≤ 160) : x < m + 276 + 2 * G1_0 ∨ m + 276 + 2 * G1_0 + 2 ≤ x := by omega
theorem zx_X16_split_21 {G1_0 G1_1 m x : Nat} (h0 : x < m + 276 + 2 * G1_0 ∨ m + 276 + 2 * G1_0 + (320 - 2 * G1_0) ≤ x) (h1 : G1_1 = G1_0 + 1) (h2 : G1_0 + 6 ≤ 160) : x < m + 276 + 2 * G1_1 ∨ m + 276 + 2 * G1_1 + 2 ≤ x := by omega
theorem zx_X16_split_22 {G1_0 G1_2 m x : Nat} (h0 : x < m + 276 + 2 * G1_0 ∨ m + 276 + 2 * G1_0 + (320 - 2 * G1_0) ≤ x) (h1 : G1_2 = G1_0 + 2) (h2 : G1_0 + 6 ≤ 160) : x < m + 276 + 2 * G1_2 ∨ m + 276 + 2 * G1_2 + 2 ≤ x := by omega
theorem zx_X16_split_23 {m x : Nat} (h0 : x < m ∨ m + 1 ≤ x) : x ≠ m := by omega
theorem zx_X16_split_24 {G1_0 G1_3 m x : Nat} (h0 : x < m + 276 + 2 * G1_0 ∨ m + 276 + 2 * G1_0 + (320 - 2 * G1_0) ≤ x) (h1 : G1_3 = G1_0 + 3) (h2 : G1_0 + 6 ≤ 160) : x < m + 276 + 2 * G1_3 ∨ m + 276 + 2 * G1_3 + (320 - 2 * G1_3) ≤ x := by omega
theorem zx_X16_split_25 {G1_0 m : Nat} (h0 : G1_0 + 6 ≤ 160) : (m + 276 + 2 * G1_0) ≠ m + 276 + 2 * G1_0 + 1 := by omega
theorem zx_X16_split_26 {G1_0 m : Nat} (h0 : G1_0 + 6 ≤ 160) : (m + 276 + 2 * G1_0 + 1) ≠ m + 276 + 2 * G1_0 := by omega
theorem zx_X16_split_27 {G1_0 m : Nat} (h0 : G1_0 + 6 ≤ 160) : m ≠ m + 276 + 2 * G1_0 + 1 := by omega
theorem zx_X16_split_28 {G1_0 m : Nat} (h0 : G1_0 + 6 ≤ 160) : m ≠ m + 276 + 2 * G1_0 := by omega
theorem zx_X16_split_29 {G1_0 f m x : Nat} (h0 : f ≤ x) (h1 : x < f + 2) (h2 : (m + 276 ≤ f ∧ f + 2 ≤ m + 276 + 2 * G1_0) ∨ m + 596 ≤ f) (h3 : G1_0 + 6 ≤ 160) : x ≠ m + 276 + 2 * G1_0 + 1 := by omega
theorem zx_X16_split_30 {G1_0 f m x : Nat} (h0 : f ≤ x) (h1 : x < f + 2) (h2 : (m + 276 ≤ f ∧ f + 2 ≤ m + 276 + 2 * G1_0) ∨ m + 596 ≤ f) (h3 : G1_0 + 6 ≤ 160) : x ≠ m + 276 + 2 * G1_0 := by omega
theorem zx_X16_split_31 {G1_0 G1_2 m x : Nat} (h0 : m + 276 + 2 * G1_2 ≤ x) (h1 : x < m + 276 + 2 * G1_2 + 2) (h2 : G1_2 = G1_0 + 2) (h3 : G1_0 + 6 ≤ 160) : x ≠ m + 276 + 2 * G1_0 + 1 := by omega
theorem zx_X16_split_32 {G1_0 G1_2 m x : Nat} (h0 : m + 276 + 2 * G1_2 ≤ x) (h1 : x < m + 276 + 2 * G1_2 + 2) (h2 : G1_2 = G1_0 + 2) (h3 : G1_0 + 6 ≤ 160) : x ≠ m + 276 + 2 * G1_0 := by omega
theorem zx_X16_split_33 {G1_0 G1_1 G1_2 m x : Nat} (h0 : m + 276 + 2 * G1_1 ≤ x) (h1 : x < m + 276 + 2 * G1_1 + 2) (h2 : G1_1 = G1_0 + 1) (h3 : G1_2 = G1_0 + 2) (h4 : G1_0 + 6 ≤ 160) : x < m + 276 + 2 * G1_2 ∨ m + 276 + 2 * G1_2 + 2 ≤ x := by omega
theorem zx_X16_split_34 {G1_0 G1_2 m : Nat} (h0 : G1_2 = G1_0 + 2) (h1 : G1_0 + 6 ≤ 160) : m < m + 276 + 2 * G1_2 ∨ m + 276 + 2 * G1_2 + 2 ≤ m := by omega
theorem zx_X16_split_35 {G1_0 G1_3 f m x : Nat} (h0 : f ≤ x) (h1 : x < f + 2) (h2 : (m + 276 ≤ f ∧ f + 2 ≤ m + 276 + 2 * G1_0) ∨ m + 596 ≤ f) (h3 : G1_3 = G1_0 + 3) (h4 : G1_0 + 6 ≤ 160) : x < m + 276 + 2 * G1_3 ∨ m + 276 + 2 * G1_3 + (320 - 2 * G1_3) ≤ x := by omega
theorem zx_X16_split_36 {G1_0 m x : Nat} (h0 : x < m + 276 + 2 * G1_0 ∨ m + 276 + 2 * G1_0 + (320 - 2 * G1_0) ≤ x) (h1 : G1_0 + 6 ≤ 160) : x ≠ m + 276 + 2 * G1_0 + 1 := by omega
theorem zx_X16_split_37 {G1_0 m x : Nat} (h0 : x < m + 276 + 2 * G1_0 ∨ m + 276 + 2 * G1_0 + (320 - 2 * G1_0) ≤ x) (h1 : G1_0 + 6 ≤ 160) : x ≠ m + 276 + 2 * G1_0 := by omega
theorem zx_X16_split_38 {G1_0 f m : Nat} (h0 : (m + 276 ≤ f ∧ f + 2 ≤ m + 276 + 2 * G1_0) ∨ m + 596 ≤ f) (h1 : G1_0 + 6 ≤ 160) : f < m ∨ m + 1 ≤ f := by omega
theorem zx_X16_split_39 {G1_0 f m : Nat} (h0 : (m + 276 ≤ f ∧ f + 2 ≤ m + 276 + 2 * G1_0) ∨ m + 596 ≤ f) (h1 : G1_0 + 6 ≤ 160) : f < m + 276 + 2 * G1_0 ∨ m + 276 + 2 * G1_0 + 2 ≤ f := by omega
theorem zx_X16_split_40 {G1_0 G1_1 f m : Nat} (h0 : (m + 276 ≤ f ∧ f + 2 ≤ m + 276 + 2 * G1_0) ∨ m + 596 ≤ f) (h1 : G1_1 = G1_0 + 1) (h2 : G1_0 + 6 ≤ 160) : f < m + 276 + 2 * G1_1 ∨ m + 276 + 2 * G1_1 + 2 ≤ f := by omega
theorem zx_X16_split_41 {G1_0 G1_2 f m : Nat} (h0 : (m + 276 ≤ f ∧ f + 2 ≤ m + 276 + 2 * G1_0) ∨ m + 596 ≤ f) (h1 : G1_2 = G1_0 + 2) (h2 : G1_0 + 6 ≤ 160) : f < m + 276 + 2 * G1_2 ∨ m + 276 + 2 * G1_2 + 2 ≤ f := by omega
theorem zx_X16_split_42 {G1_0 f m : Nat} (h0 : (m + 276 ≤ f ∧ f + 2 ≤ m + 276 + 2 * G1_0) ∨ m + 596 ≤ f) (h1 : G1_0 + 6 ≤ 160) : f < m + 276 + 2 * G1_0 ∨ m + 276 + 2 * G1_0 + (320 - 2 * G1_0) ≤ f := by omega
theorem zx_X16_split_43 {G1_0 f m : Nat} (h0 : (m + 276 ≤ f ∧ f + 2 ≤ m + 276 + 2 * G1_0) ∨ m + 596 ≤ f) (h1 : G1_0 + 6 ≤ 160) : f ≠ m := by omega
theorem zx_X16_split_44 {G1_0 f m : Nat} (h0 : (m + 276 ≤ f ∧ f + 2 ≤ m + 276 + 2 * G1_0) ∨ m + 596 ≤ f) (h1 : G1_0 + 6 ≤ 160) : f ≠ m + 276 + 2 * G1_0 + 1 := by omega
theorem zx_X16_split_45 {G1_0 f m : Nat} (h0 : (m + 276 ≤ f ∧ f + 2 ≤ m + 276 + 2 * G1_0) ∨ m + 596 ≤ f) (h1 : G1_0 + 6 ≤ 160) : f ≠ m + 276 + 2 * G1_0 := by omega
theorem zx_X16_split_46 {G1_0 G1_3 f m : Nat} (h0 : (m + 276 ≤ f ∧ f + 2 ≤ m + 276 + 2 * G1_0) ∨ m + 596 ≤ f) (h1 : G1_3 = G1_0 + 3) (h2 : G1_0 + 6 ≤ 160) : f < m + 276 + 2 * G1_3 ∨ m + 276 + 2 * G1_3 + (320 - 2 * G1_3) ≤ f := by omega
theorem zx_X16_split_47 {G1_0 m x : Nat} (h0 : m + 276 + 2 * G1_0 ≤ x) (h1 : x < m + 276 + 2 * G1_0 + 2) (h2 : G1_0 + 6 ≤ 160) : x < m ∨ m + 1 ≤ x := by omega
theorem zx_X16_split_48 {G1_0 G1_1 m x : Nat} (h0 : m + 276 + 2 * G1_0 ≤ x) (h1 : x < m + 276 + 2 * G1_0 + 2) (h2 : G1_1 = G1_0 + 1) (h3 : G1_0 + 6 ≤ 160) : x < m + 276 + 2 * G1_1 ∨ m + 276 + 2 * G1_1 + 2 ≤ x := by omega
theorem zx_X16_split_49 {G1_0 G1_2 m x : Nat} (h0 : m + 276 + 2 * G1_0 ≤ x) (h1 : x < m + 276 + 2 * G1_0 + 2) (h2 : G1_2 = G1_0 + 2) (h3 : G1_0 + 6 ≤ 160) : x < m + 276 + 2 * G1_2 ∨ m + 276 + 2 * G1_2 + 2 ≤ x := by omega
theorem zx_X16_split_50 {G1_0 f m : Nat} (h0 : (m + 276 ≤ f ∧ f + 2 ≤ m + 276 + 2 * G1_0) ∨ m + 596 ≤ f) (h1 : G1_0 + 6 ≤ 160) : (f + 1) ≠ m := by omega
theorem zx_X16_split_51 {m : Nat}  : m ≠ m + 274 := by omega
theorem zx_X16_split_52 {m x : Nat} (h0 : x < m + 274 ∨ m + 274 + 1 ≤ x) : x ≠ m + 274 := by omega
set_option maxHeartbeats 8000000 in
set_option maxRecDepth 100000 in
theorem c_X16_split {w : zM} {g : Nat → Int32} {r : Nat → Value} {F : zA1} {ff : Nat → Int32} {g1 : Int32} {g63 : Int32} (m : Nat) (f : Nat) (from9 : Int32) {n9 k9 : Nat} (hk9 : 30 ≤ k9) (hc9 : ∀ {w : zM} {g : Nat → Int32} {r : Nat → Value} {F : zA1} {ff : Nat → Int32} {g1 : Int32} {g63 : Int32} (m : Nat) (f : Nat) (from9 : Int32) (hm : w m = some (.inl (15, zMo m g r))) (hR_m : zR m w) (hU_f : zU w f 1000 F) (hA_m_274 : w (m + 274) = some (.inr (0, 30, .inl ff))) (hut : 0 ≤ g1.toInt ∧ g1.toInt + 6 ≤ 160) (hof : (m + 276 ≤ f ∧ f + 2 ≤ m + 276 + 2 * g1.toNatClampNeg) ∨ m + 596 ≤ f) (hF : zSp F ∧ zln F ≤ 26) (hut2 : g1.toInt + 3 * (zln F : Int) ≤ 150) (hfr : 0 ≤ from9.toInt) (hag : zAg zHf F from9.toNatClampNeg) (hfc : 0 ≤ g63.toInt ∧ g63.toInt + (zln F : Int) ≤ 31) (hff : ∀ i : Nat, (i : Int) < g63.toInt → zr1 (ff i)) (hln : zln F ≤ n9) (hg1 : g 1 = g1) (hg63 : g 63 = g63), zCon k9 zq_X16_split [.ref m, .ref f, .int from9] w (fun v9 w9' => ∃ X9 : Int32, ∃ F9 : Nat → Int32, zSI w w9' ∧ (∀ x, (x < m ∨ m + 1 ≤ x) ∧ (x < m + 274 ∨ m + 274 + 1 ≤ x) ∧ (x < m + 276 + 2 * g1.toNatClampNeg ∨ m + 276 + 2 * g1.toNatClampNeg + (320 - 2 * g1.toNatClampNeg) ≤ x) → w9' x = w x) ∧ w9' m = some (.inl (15, zMo m (zs g 63 X9) r)) ∧ w9' (m + 274) = some (.inr (0, 30, .inl F9)) ∧ (X9.toInt + 1 = g63.toInt + (zln F : Int) ∧ ∀ i : Nat, (i : Int) < X9.toInt → zr1 (F9 i)) ∧ v9 = none)) (hm : w m = some (.inl (15, zMo m g r))) (hR_m : zR m w) (hU_f : zU w f 1000 F) (hA_m_274 : w (m + 274) = some (.inr (0, 30, .inl ff))) (hut : 0 ≤ g1.toInt ∧ g1.toInt + 6 ≤ 160) (hof : (m + 276 ≤ f ∧ f + 2 ≤ m + 276 + 2 * g1.toNatClampNeg) ∨ m + 596 ≤ f) (hF : zSp F ∧ zln F ≤ 26) (hut2 : g1.toInt + 3 * (zln F : Int) ≤ 150) (hfr : 0 ≤ from9.toInt) (hag : zAg zHf F from9.toNatClampNeg) (hfc : 0 ≤ g63.toInt ∧ g63.toInt + (zln F : Int) ≤ 31) (hff : ∀ i : Nat, (i : Int) < g63.toInt → zr1 (ff i)) (hln : zln F ≤ n9 + 1) (hg1 : g 1 = g1) (hg63 : g 63 = g63) : zCon (k9 + 1) zq_X16_split [.ref m, .ref f, .int from9] w (fun v9 w9' => ∃ X9 : Int32, ∃ F9 : Nat → Int32, zSI w w9' ∧ (∀ x, (x < m ∨ m + 1 ≤ x) ∧ (x < m + 274 ∨ m + 274 + 1 ≤ x) ∧ (x < m + 276 + 2 * g1.toNatClampNeg ∨ m + 276 + 2 * g1.toNatClampNeg + (320 - 2 * g1.toNatClampNeg) ≤ x) → w9' x = w x) ∧ w9' m = some (.inl (15, zMo m (zs g 63 X9) r)) ∧ w9' (m + 274) = some (.inr (0, 30, .inl F9)) ∧ (X9.toInt + 1 = g63.toInt + (zln F : Int) ∧ ∀ i : Nat, (i : Int) < X9.toInt → zr1 (F9 i)) ∧ v9 = none) := by
  subst hg1
  subst hg63
  intro d sz hd
  obtain ⟨d, rfl⟩ : ∃ d9, d = d9 + 1 := ⟨d - 1, by omega⟩
  generalize hPost : (fun (r9' : Option (Option Value)) (w9' : zM) (z9 : Nat) => z9 = sz ∧ ∃ v9, r9' = some v9 ∧ (∃ X9 : Int32, ∃ F9 : Nat → Int32, zSI w w9' ∧ (∀ x, (x < m ∨ m + 1 ≤ x) ∧ (x < m + 274 ∨ m + 274 + 1 ≤ x) ∧ (x < m + 276 + 2 * (g 1).toNatClampNeg ∨ m + 276 + 2 * (g 1).toNatClampNeg + (320 - 2 * (g 1).toNatClampNeg) ≤ x) → w9' x = w x) ∧ w9' m = some (.inl (15, zMo m (zs g 63 X9) r)) ∧ w9' (m + 274) = some (.inr (0, 30, .inl F9)) ∧ (X9.toInt + 1 = (g 63).toInt + (zln F : Int) ∧ ∀ i : Nat, (i : Int) < X9.toInt → zr1 (F9 i)) ∧ v9 = none)) = Post
  show zP (d + 1) zq_X16_split 0 [(0, .ref m), (1, .ref f), (2, .int from9)] [] w sz 0 0 Post
  have k1 := zrng from9
  have k2 := zrng (g 1)
  have hz3 : ((g 1).toNatClampNeg : Int) = (g 1).toInt := znat (by first | omega | decide)
  have hgb1 : (g 1).toNatClampNeg + 6 ≤ 160 := by omega
  have hF1 := zSp_1 hF.1
  have k4 := zrng (g 63)
  have hz5 : ((g 63).toNatClampNeg : Int) = (g 63).toInt := znat (by first | omega | decide)
  refine zp_seg (pc' := 1) (lv' := [(0, .ref m), (1, .ref f), (2, .int from9)]) (st' := [.ref f]) [(0, .aload_n 1)] (by decide +kernel) rfl ?_
  obtain ⟨n6, f7, hu8, hu9, hu10, hu11, hu12⟩ := id hU_f
  have kn6 := zrng n6
  refine zr_get (idx := 25) (k := 1) (v := .int n6) (by decide +kernel) (by decide +kernel) hu8 rfl ?_
  refine zp_seg (pc' := 5) (lv' := [(0, .ref m), (1, .ref f), (2, .int from9)]) (st' := [.int 1, .int n6]) [(4, .iconst 1)] (by decide +kernel) rfl ?_
  refine zp_if (i := .if_icmp .gt 4) (c := 1 < n6) (t := 9) (e := 8) (lv' := [(0, .ref m), (1, .ref f), (2, .int from9)]) (st' := []) (by decide +kernel) rfl (fun cc5 => ?_) (fun cc5 => ?_)
  ·
    have f14 := zltI cc5
    rw [show (1 : Int32).toInt = 1 from by decide] at f14
    refine zp_seg (pc' := 10) (lv' := [(0, .ref m), (1, .ref f), (2, .int from9)]) (st' := [.ref f]) [(9, .aload_n 1)] (by decide +kernel) rfl ?_
    refine zr_get (idx := 25) (k := 1) (v := .int n6) (by decide +kernel) (by decide +kernel) hu8 rfl ?_
    refine zp_seg (pc' := 14) (lv' := [(0, .ref m), (1, .ref f), (2, .int from9)]) (st' := [.int 2, .int n6]) [(13, .iconst 2)] (by decide +kernel) rfl ?_
    refine zp_if (i := .if_icmp .ne 42) (c := ¬ n6 = 2) (t := 56) (e := 17) (lv' := [(0, .ref m), (1, .ref f), (2, .int from9)]) (st' := []) (by decide +kernel) rfl (fun cc14 => ?_) (fun cc14 => ?_)
    ·
      have f16 := zneI cc14
      rw [show (2 : Int32).toInt = 2 from by decide] at f16
      refine zp_seg (pc' := 57) (lv' := [(0, .ref m), (1, .ref f), (2, .int from9)]) (st' := [.ref m]) [(56, .aload_n 0)] (by decide +kernel) rfl ?_
      refine zr_get (idx := 21) (k := 1) (v := .int (g 1)) (by decide +kernel) (by decide +kernel) hm rfl ?_
      refine zp_seg (pc' := 61) (lv' := [(3, .int (g 1)), (0, .ref m), (1, .ref f), (2, .int from9)]) (st' := []) [(60, .istore_n 3)] (by decide +kernel) rfl ?_
      have k17 := zaddC (g 1) 1 (n := 1) (by decide) (by omega) (by omega)
      have hz18 : ((g 1 + 1).toNatClampNeg : Int) = (g 1 + 1).toInt := znat (by first | omega | decide)
      have hgn1_1 : (g 1 + 1).toNatClampNeg = (g 1).toNatClampNeg + 1 := by omega
      have k19 := zaddC (g 1 + 1) 1 (n := 1) (by decide) (by omega) (by omega)
      have hz20 : ((g 1 + 1 + 1).toNatClampNeg : Int) = (g 1 + 1 + 1).toInt := znat (by first | omega | decide)
      have hgn1_2 : (g 1 + 1 + 1).toNatClampNeg = (g 1).toNatClampNeg + 2 := by omega
      have k21 := zaddC (g 1 + 1 + 1) 1 (n := 1) (by decide) (by omega) (by omega)
      have hz22 : ((g 1 + 1 + 1 + 1).toNatClampNeg : Int) = (g 1 + 1 + 1 + 1).toInt := znat (by first | omega | decide)
      have hgn1_3 : (g 1 + 1 + 1 + 1).toNatClampNeg = (g 1).toNatClampNeg + 3 := by omega
      refine zp_seg (pc' := 62) (lv' := [(3, .int (g 1)), (0, .ref m), (1, .ref f), (2, .int from9)]) (st' := [.ref m]) [(61, .aload_n 0)] (by decide +kernel) rfl ?_
      refine zr_callV (idx := 74) (j := 263) (by decide +kernel) (by decide +kernel) (show zMe 263 = some zq_X16_newU from rfl) rfl rfl (Nat.le_of_ble_eq_true rfl) rfl rfl hm (Nat.le_of_ble_eq_true rfl) (Nat.le_of_ble_eq_true rfl) (c_X16_newU (w := w) (g1 := (g 1)) m hm hR_m (by first | omega | decide | assumption | exact zr1_1 | exact zr1_0 | fail "num") rfl) (by omega) (fun v62 w62 hp62 => ?_)
      obtain ⟨hsi62, heq62, hp62_0, hp62_1, rfl⟩ := hp62
      have hM62 : w62 m = some (.inl (15, zMo m (zs g 1 (g 1 + 1)) r)) := hp62_0
      show zP _ _ _ _ [.ref (m + 276 + 2 * (g 1).toNatClampNeg)] _ _ _ _ _
      refine zp_seg (pc' := 68) (lv' := [(4, .ref (m + 276 + 2 * (g 1).toNatClampNeg)), (3, .int (g 1)), (0, .ref m), (1, .ref f), (2, .int from9)]) (st' := [.ref m]) [(65, .astore 4), (67, .aload_n 0)] (by decide +kernel) rfl ?_
      have hb23 := hR_m.si hsi62
      refine zr_callV (idx := 74) (j := 263) (by decide +kernel) (by decide +kernel) (show zMe 263 = some zq_X16_newU from rfl) rfl rfl (Nat.le_of_ble_eq_true rfl) rfl rfl hM62 (Nat.le_of_ble_eq_true rfl) (Nat.le_of_ble_eq_true rfl) (c_X16_newU (w := w62) (g1 := (g 1 + 1)) m hM62 hb23 (by first | omega | decide | assumption | exact zr1_1 | exact zr1_0 | fail "num") rfl) (by omega) (fun v68 w68 hp68 => ?_)
      obtain ⟨hsi68, heq68, hp68_0, hp68_1, rfl⟩ := hp68
      have hM68 : w68 m = some (.inl (15, zMo m (zs g 1 (g 1 + 1 + 1)) r)) := hp68_0
      show zP _ _ _ _ [.ref (m + 276 + 2 * (g 1 + 1).toNatClampNeg)] _ _ _ _ _
      refine zp_seg (pc' := 74) (lv' := [(5, .ref (m + 276 + 2 * (g 1 + 1).toNatClampNeg)), (4, .ref (m + 276 + 2 * (g 1).toNatClampNeg)), (3, .int (g 1)), (0, .ref m), (1, .ref f), (2, .int from9)]) (st' := [.ref m]) [(71, .astore 5), (73, .aload_n 0)] (by decide +kernel) rfl ?_
      have hb24 := hb23.si hsi68
      refine zr_callV (idx := 74) (j := 263) (by decide +kernel) (by decide +kernel) (show zMe 263 = some zq_X16_newU from rfl) rfl rfl (Nat.le_of_ble_eq_true rfl) rfl rfl hM68 (Nat.le_of_ble_eq_true rfl) (Nat.le_of_ble_eq_true rfl) (c_X16_newU (w := w68) (g1 := (g 1 + 1 + 1)) m hM68 hb24 (by first | omega | decide | assumption | exact zr1_1 | exact zr1_0 | fail "num") rfl) (by omega) (fun v74 w74 hp74 => ?_)
      obtain ⟨hsi74, heq74, hp74_0, hp74_1, rfl⟩ := hp74
      have hM74 : w74 m = some (.inl (15, zMo m (zs g 1 (g 1 + 1 + 1 + 1)) r)) := hp74_0
      show zP _ _ _ _ [.ref (m + 276 + 2 * (g 1 + 1 + 1).toNatClampNeg)] _ _ _ _ _
      refine zp_seg (pc' := 85) (lv' := [(8, .int 0), (7, .int from9), (6, .ref (m + 276 + 2 * (g 1 + 1 + 1).toNatClampNeg)), (5, .ref (m + 276 + 2 * (g 1 + 1).toNatClampNeg)), (4, .ref (m + 276 + 2 * (g 1).toNatClampNeg)), (3, .int (g 1)), (0, .ref m), (1, .ref f), (2, .int from9)]) (st' := []) [(77, .astore 6), (79, .iload_n 2), (80, .istore 7), (82, .iconst 0), (83, .istore 8)] (by decide +kernel) rfl ?_
      have hL85 : ∀ (mm85 : Nat) (wL85 : zM) (y7_85 : Int32) (y8_85 : Int32) (HH9 : zA1), (zSI w74 wL85) → (∀ x, ((x < m + 276 + 2 * (g 1).toNatClampNeg ∨ m + 276 + 2 * (g 1).toNatClampNeg + (320 - 2 * (g 1).toNatClampNeg) ≤ x)) ∧ x ≠ m → wL85 x = w74 x) → ((y8_85 = 0 ∨ y8_85 = 1)) → (0 ≤ y7_85.toInt) → (zUo wL85 (m + 276 + 2 * (g 1).toNatClampNeg) 1000) → (zUo wL85 (m + 276 + 2 * (g 1 + 1).toNatClampNeg) 1000) → (zU wL85 (m + 276 + 2 * (g 1 + 1 + 1).toNatClampNeg) 1000 HH9) → (wL85 m = some (.inl (15, zMo m (zs g 1 (g 1 + 1 + 1 + 1)) r))) → ((y8_85 = 0 → zAg zHf F y7_85.toNatClampNeg) ∧ (y8_85 = 1 → 1 < zln HH9 ∧ zln HH9 < zln F ∧ ∃ (G9 : zA1) (a9 : Nat), y7_85.toNatClampNeg = a9 + 1 ∧ zAg zHf F a9 ∧ zcg F G9 (zpq (zlin (- zfI (a9 : Int))) zHf) ∧ HH9 = zgcd (zaS G9 zaO) F)) → (2147483648 - y7_85.toInt).toNat + (1 - y8_85.toInt).toNat * 0 < mm85 → zP (d + 1) zq_X16_split 85 [(0, .ref m), (1, .ref f), (3, .int (g 1)), (4, .ref (m + 276 + 2 * (g 1).toNatClampNeg)), (5, .ref (m + 276 + 2 * (g 1 + 1).toNatClampNeg)), (6, .ref (m + 276 + 2 * (g 1 + 1 + 1).toNatClampNeg)), (7, .int y7_85), (8, .int y8_85)] [] wL85 sz 0 0 Post := by
        intro mm85
        induction mm85 with
        | zero => intros; omega
        | succ mm85 ih85 =>
        intro wL85 y7_85 y8_85 HH9 hsiL85 heqL85 hi85_0 hi85_1 hUo0 hUo1 hUh hmL85 hpt9 hmu85
        have ky7_85 := zrng y7_85
        have ky8_85 := zrng y8_85
        have hz25 : (y7_85.toNatClampNeg : Int) = y7_85.toInt := znat (by first | omega | decide)
        refine zp_seg (pc' := 87) (lv' := [(0, .ref m), (1, .ref f), (3, .int (g 1)), (4, .ref (m + 276 + 2 * (g 1).toNatClampNeg)), (5, .ref (m + 276 + 2 * (g 1 + 1).toNatClampNeg)), (6, .ref (m + 276 + 2 * (g 1 + 1 + 1).toNatClampNeg)), (7, .int y7_85), (8, .int y8_85)]) (st' := [.int y8_85]) [(85, .iload 8)] (by decide +kernel) rfl ?_
        refine zp_if (i := .ifCond .ne 97) (c := ¬ y8_85 = 0) (t := 184) (e := 90) (lv' := [(0, .ref m), (1, .ref f), (3, .int (g 1)), (4, .ref (m + 276 + 2 * (g 1).toNatClampNeg)), (5, .ref (m + 276 + 2 * (g 1 + 1).toNatClampNeg)), (6, .ref (m + 276 + 2 * (g 1 + 1 + 1).toNatClampNeg)), (7, .int y7_85), (8, .int y8_85)]) (st' := []) (by decide +kernel) rfl (fun cc87 => ?_) (fun cc87 => ?_)
        ·
          have f27 := zneI cc87
          rw [show (0 : Int32).toInt = 0 from by decide] at f27
          obtain ⟨hh1, hh2, G9, a9, ha9, hag9, hcg9, hHG9⟩ := hpt9.2 (hi85_0.resolve_left cc87)
          have hqh9 := zquo_ln (p := F) (d := HH9) (by omega)
          have hdv9 : zdv HH9 F := by rw [hHG9]; exact (zgcd_ok _ _).2.1
          have hsp1 := zSp_dv hF.1 hdv9
          have hsp2 := zSp_q hF.1 (by omega) hdv9
          have hag1 := zAg_h hag9 hcg9
          rw [← hHG9, ← ha9] at hag1
          have hag2 := zAg_q hF.1 hag9 hcg9 (by rw [← hHG9]; omega)
          rw [← hHG9, ← ha9] at hag2
          refine zp_seg (pc' := 190) (lv' := [(0, .ref m), (1, .ref f), (3, .int (g 1)), (4, .ref (m + 276 + 2 * (g 1).toNatClampNeg)), (5, .ref (m + 276 + 2 * (g 1 + 1).toNatClampNeg)), (6, .ref (m + 276 + 2 * (g 1 + 1 + 1).toNatClampNeg)), (7, .int y7_85), (8, .int y8_85)]) (st' := [.ref (m + 276 + 2 * (g 1 + 1 + 1).toNatClampNeg), .ref f, .ref (m + 276 + 2 * (g 1 + 1).toNatClampNeg), .ref m]) [(184, .aload_n 0), (185, .aload 5), (187, .aload_n 1), (188, .aload 6)] (by decide +kernel) rfl ?_
          have hb28 := hb24.si (hsi74.tr hsiL85)
          have hb29 : zU wL85 f 1000 F := hU_f.ag (fun x hx1 hx2 => ((heqL85 x ⟨(zx_X16_split_4 hx1 hx2 hof hgb1), (zx_X16_split_5 hx1 hx2 hof hgb1)⟩).trans ((heq74 x ⟨(zx_X16_split_0 hx1 hx2 hof hgb1), (zx_X16_split_3 hx1 hx2 hof hgn1_2 hgb1)⟩).trans ((heq68 x ⟨(zx_X16_split_0 hx1 hx2 hof hgb1), (zx_X16_split_2 hx1 hx2 hof hgn1_1 hgb1)⟩).trans (heq62 x ⟨(zx_X16_split_0 hx1 hx2 hof hgb1), (zx_X16_split_1 hx1 hx2 hof hgb1)⟩)))))
          refine zr_callV (idx := 110) (j := 271) (by decide +kernel) (by decide +kernel) (show zMe 271 = some zq_X16_exact from rfl) rfl rfl (Nat.le_of_ble_eq_true rfl) rfl rfl hmL85 (Nat.le_of_ble_eq_true rfl) (Nat.le_of_ble_eq_true rfl) (c_X16_exact (w := wL85) (g1 := (g 1 + 1 + 1 + 1)) m (m + 276 + 2 * (g 1 + 1).toNatClampNeg) f (m + 276 + 2 * (g 1 + 1 + 1).toNatClampNeg) hmL85 hb28 hUo1 hb29 hUh (by first | omega | decide | assumption | exact zr1_1 | exact zr1_0 | fail "num") (by first | omega | decide | assumption | exact zr1_1 | exact zr1_0 | fail "num") (by first | omega | decide | assumption | exact zr1_1 | exact zr1_0 | fail "num") (by first | omega | decide | assumption | exact zr1_1 | exact zr1_0 | fail "num") (by first | omega | decide | assumption | exact zr1_1 | exact zr1_0 | fail "num") (by first | omega | decide | assumption | exact zr1_1 | exact zr1_0 | fail "num") (by first | omega | decide | assumption | exact zr1_1 | exact zr1_0 | fail "num") (by first | omega | decide | assumption | exact zr1_1 | exact zr1_0 | fail "num") rfl) (by omega) (fun v190 w190 hp190 => ?_)
          obtain ⟨hsi190, heq190, hp190_0, rfl⟩ := hp190
          show zP _ _ _ _ [] _ _ _ _ _
          refine zp_seg (pc' := 198) (lv' := [(0, .ref m), (1, .ref f), (3, .int (g 1)), (4, .ref (m + 276 + 2 * (g 1).toNatClampNeg)), (5, .ref (m + 276 + 2 * (g 1 + 1).toNatClampNeg)), (6, .ref (m + 276 + 2 * (g 1 + 1 + 1).toNatClampNeg)), (7, .int y7_85), (8, .int y8_85)]) (st' := [.int y7_85, .ref (m + 276 + 2 * (g 1 + 1 + 1).toNatClampNeg), .ref m]) [(193, .aload_n 0), (194, .aload 6), (196, .iload 7)] (by decide +kernel) rfl ?_
          have hb30 : w190 m = some (.inl (15, zMo m (zs g 1 (g 1 + 1 + 1 + 1)) r)) := (heq190 m ⟨(zx_X16_split_6 hgn1_1 hgb1), (zx_X16_split_7 hgn1_3 hgb1)⟩).trans hmL85
          have hb31 := hb28.si hsi190
          have hb32 : zU w190 (m + 276 + 2 * (g 1 + 1 + 1).toNatClampNeg) 1000 HH9 := hUh.ag (fun x hx1 hx2 => (heq190 x ⟨(zx_X16_split_8 hx1 hx2 hgn1_1 hgn1_2 hgb1), (zx_X16_split_9 hx1 hx2 hgn1_2 hgn1_3 hgb1)⟩))
          have hb33 : w190 (m + 274) = some (.inr (0, 30, .inl ff)) := ((heq190 (m + 274) ⟨(zx_X16_split_12 hgn1_1 hgb1), (zx_X16_split_16 hgn1_3 hgb1)⟩).trans ((heqL85 (m + 274) ⟨(zx_X16_split_14 hgb1), (zx_X16_split_15)⟩).trans ((heq74 (m + 274) ⟨(zx_X16_split_10), (zx_X16_split_13 hgn1_2 hgb1)⟩).trans ((heq68 (m + 274) ⟨(zx_X16_split_10), (zx_X16_split_12 hgn1_1 hgb1)⟩).trans (heq62 (m + 274) ⟨(zx_X16_split_10), (zx_X16_split_11 hgb1)⟩))))).trans hA_m_274
          refine zr_callV (idx := 823) (j := 420) (by decide +kernel) (by decide +kernel) (show zMe 420 = some zq_X16_split from rfl) rfl rfl (Nat.le_of_ble_eq_true rfl) rfl rfl hb30 (Nat.le_of_ble_eq_true rfl) (Nat.le_of_ble_eq_true rfl) (hc9 (w := w190) (g1 := (g 1 + 1 + 1 + 1)) (g63 := (g 63)) m (m + 276 + 2 * (g 1 + 1 + 1).toNatClampNeg) y7_85 hb30 hb31 hb32 hb33 (by first | omega | decide | assumption | exact zr1_1 | exact zr1_0 | fail "num") (by first | omega | decide | assumption | exact zr1_1 | exact zr1_0 | fail "num") (by exact ⟨hsp1, by omega⟩) (by first | omega | decide | assumption | exact zr1_1 | exact zr1_0 | fail "num") (by first | omega | decide | assumption | exact zr1_1 | exact zr1_0 | fail "num") (by exact hag1) (by first | omega | decide | assumption | exact zr1_1 | exact zr1_0 | fail "num") (by exact hff) (by first | omega | decide | assumption | exact zr1_1 | exact zr1_0 | fail "num") rfl rfl) (by omega) (fun v198 w198 hp198 => ?_)
          obtain ⟨X9_198, F9_198, hsi198, heq198, hp198_0, hp198_1, hp198_2, rfl⟩ := hp198
          have hM198 : w198 m = some (.inl (15, zMo m (zs (zs g 1 (g 1 + 1 + 1 + 1)) 63 X9_198) r)) := hp198_0
          show zP _ _ _ _ [] _ _ _ _ _
          refine zp_seg (pc' := 206) (lv' := [(0, .ref m), (1, .ref f), (3, .int (g 1)), (4, .ref (m + 276 + 2 * (g 1).toNatClampNeg)), (5, .ref (m + 276 + 2 * (g 1 + 1).toNatClampNeg)), (6, .ref (m + 276 + 2 * (g 1 + 1 + 1).toNatClampNeg)), (7, .int y7_85), (8, .int y8_85)]) (st' := [.int y7_85, .ref (m + 276 + 2 * (g 1 + 1).toNatClampNeg), .ref m]) [(201, .aload_n 0), (202, .aload 5), (204, .iload 7)] (by decide +kernel) rfl ?_
          have k34 := zrng X9_198
          have hb35 := hb31.si hsi198
          have hb36 : zU w198 (m + 276 + 2 * (g 1 + 1).toNatClampNeg) 1000 (zquo F HH9) := hp190_0.ag (fun x hx1 hx2 => (heq198 x ⟨(zx_X16_split_17 hx1 hx2 hgn1_1 hgb1), (zx_X16_split_18 hx1 hx2 hgn1_1 hgb1), (zx_X16_split_19 hx1 hx2 hgn1_1 hgn1_3 hgb1)⟩))
          refine zr_callV (idx := 823) (j := 420) (by decide +kernel) (by decide +kernel) (show zMe 420 = some zq_X16_split from rfl) rfl rfl (Nat.le_of_ble_eq_true rfl) rfl rfl hM198 (Nat.le_of_ble_eq_true rfl) (Nat.le_of_ble_eq_true rfl) (hc9 (w := w198) (g1 := (g 1 + 1 + 1 + 1)) (g63 := X9_198) m (m + 276 + 2 * (g 1 + 1).toNatClampNeg) y7_85 hM198 hb35 hb36 hp198_1 (by first | omega | decide | assumption | exact zr1_1 | exact zr1_0 | fail "num") (by first | omega | decide | assumption | exact zr1_1 | exact zr1_0 | fail "num") (by exact ⟨hsp2, by omega⟩) (by first | omega | decide | assumption | exact zr1_1 | exact zr1_0 | fail "num") (by first | omega | decide | assumption | exact zr1_1 | exact zr1_0 | fail "num") (by exact hag2) (by first | omega | decide | assumption | exact zr1_1 | exact zr1_0 | fail "num") (by exact hp198_2.2) (by first | omega | decide | assumption | exact zr1_1 | exact zr1_0 | fail "num") rfl rfl) (by omega) (fun v206 w206 hp206 => ?_)
          obtain ⟨X9_206, F9_206, hsi206, heq206, hp206_0, hp206_1, hp206_2, rfl⟩ := hp206
          have hM206 : w206 m = some (.inl (15, zMo m (zs (zs g 1 (g 1 + 1 + 1 + 1)) 63 X9_206) r)) := hp206_0
          show zP _ _ _ _ [] _ _ _ _ _
          refine zp_seg (pc' := 211) (lv' := [(0, .ref m), (1, .ref f), (3, .int (g 1)), (4, .ref (m + 276 + 2 * (g 1).toNatClampNeg)), (5, .ref (m + 276 + 2 * (g 1 + 1).toNatClampNeg)), (6, .ref (m + 276 + 2 * (g 1 + 1 + 1).toNatClampNeg)), (7, .int y7_85), (8, .int y8_85)]) (st' := [.int (g 1), .ref m]) [(209, .aload_n 0), (210, .iload_n 3)] (by decide +kernel) rfl ?_
          refine zr_put2 (idx := 21) (k := 1) (fs2 := zMo m (zs g 63 X9_206) r) (by decide +kernel) (by decide +kernel) hM206 (Nat.le_of_ble_eq_true rfl) rfl rfl rfl ?_
          show zP (d + 1) zq_X16_split 214 [(0, .ref m), (1, .ref f), (3, .int (g 1)), (4, .ref (m + 276 + 2 * (g 1).toNatClampNeg)), (5, .ref (m + 276 + 2 * (g 1 + 1).toNatClampNeg)), (6, .ref (m + 276 + 2 * (g 1 + 1 + 1).toNatClampNeg)), (7, .int y7_85), (8, .int y8_85)] [] (zup w206 m (.inl (15, zMo m (zs g 63 X9_206) r))) sz 0 0 Post
          obtain ⟨w211, ew211⟩ : ∃ wz9, wz9 = zup w206 m (.inl (15, zMo m (zs g 63 X9_206) r)) := ⟨_, rfl⟩
          have hsi211 : zSI w206 w211 := by rw [ew211]; exact zSI.setG hM206 _ _
          have heq211 : ∀ x, x ≠ m → w211 x = w206 x := fun x hx => by rw [ew211]; exact zup_n hx
          have hc211 : w211 m = some (.inl (15, zMo m (zs g 63 X9_206) r)) := by rw [ew211]; exact zup_s
          rw [← ew211]
          clear ew211
          have hb37 : w211 (m + 274) = some (.inr (0, 30, .inl F9_206)) := (heq211 (m + 274) (zx_X16_split_15)).trans hp206_1
          have hoffend : ∀ x, (x < m ∨ m + 1 ≤ x) ∧ (x < m + 274 ∨ m + 274 + 1 ≤ x) ∧ (x < m + 276 + 2 * (g 1).toNatClampNeg ∨ m + 276 + 2 * (g 1).toNatClampNeg + (320 - 2 * (g 1).toNatClampNeg) ≤ x) → w211 x = w x := fun x hx => ((heq211 x (zx_X16_split_23 hx.1)).trans ((heq206 x ⟨hx.1, hx.2.1, (zx_X16_split_24 hx.2.2 hgn1_3 hgb1)⟩).trans ((heq198 x ⟨hx.1, hx.2.1, (zx_X16_split_24 hx.2.2 hgn1_3 hgb1)⟩).trans ((heq190 x ⟨(zx_X16_split_21 hx.2.2 hgn1_1 hgb1), (zx_X16_split_24 hx.2.2 hgn1_3 hgb1)⟩).trans ((heqL85 x ⟨hx.2.2, (zx_X16_split_23 hx.1)⟩).trans ((heq74 x ⟨hx.1, (zx_X16_split_22 hx.2.2 hgn1_2 hgb1)⟩).trans ((heq68 x ⟨hx.1, (zx_X16_split_21 hx.2.2 hgn1_1 hgb1)⟩).trans (heq62 x ⟨hx.1, (zx_X16_split_20 hx.2.2 hgb1)⟩))))))))
          refine zr_retV (by decide +kernel) rfl ?_
          rw [← hPost]; exact ⟨rfl, _, rfl, X9_206, F9_206, (((((((hsi62.tr hsi68).tr hsi74).tr hsiL85).tr hsi190).tr hsi198).tr hsi206).tr hsi211), hoffend, hc211, hb37, (by
                first
                | exact ⟨by omega, hff⟩
                | exact ⟨by omega, hp206_2.2⟩
                | (refine ⟨by omega, fun i hi => ?_⟩
                   by_cases e : i = (g 63).toNatClampNeg
                   · rw [e, zupd_s]; exact hr51.1
                   · rw [zupd_n _ _ e]; exact hff i (by omega))), rfl⟩
        ·
          replace cc87 := Classical.not_not.mp cc87
          have f39 := zeqI cc87
          rw [show (0 : Int32).toInt = 0 from by decide] at f39
          have hal9 := zAg_ltH hF.1 (by omega) (hpt9.1 cc87)
          refine zp_seg (pc' := 92) (lv' := [(0, .ref m), (1, .ref f), (3, .int (g 1)), (4, .ref (m + 276 + 2 * (g 1).toNatClampNeg)), (5, .ref (m + 276 + 2 * (g 1 + 1).toNatClampNeg)), (6, .ref (m + 276 + 2 * (g 1 + 1 + 1).toNatClampNeg)), (7, .int y7_85), (8, .int y8_85)]) (st' := [.ref (m + 276 + 2 * (g 1).toNatClampNeg)]) [(90, .aload 4)] (by decide +kernel) rfl ?_
          obtain ⟨n40, f41, hu42, hu43⟩ := id hUo0
          have kn40 := zrng n40
          refine zr_get (idx := 30) (k := 0) (v := .ref (m + 276 + 2 * (g 1).toNatClampNeg + 1)) (by decide +kernel) (by decide +kernel) hu42 rfl ?_
          refine zp_seg (pc' := 98) (lv' := [(0, .ref m), (1, .ref f), (3, .int (g 1)), (4, .ref (m + 276 + 2 * (g 1).toNatClampNeg)), (5, .ref (m + 276 + 2 * (g 1 + 1).toNatClampNeg)), (6, .ref (m + 276 + 2 * (g 1 + 1 + 1).toNatClampNeg)), (7, .int y7_85), (8, .int y8_85)]) (st' := [.int y7_85, .int 0, .ref (m + 276 + 2 * (g 1).toNatClampNeg + 1)]) [(95, .iconst 0), (96, .iload 7)] (by decide +kernel) rfl ?_
          have hl44 : (0 : Int32).toInt = 0 := by decide
          have hz45 : ((0 : Int32).toNatClampNeg : Int) = 0 := by decide
          refine zr_iast (by decide +kernel) hu43 (zin (by decide) (by decide)) ?_
          show zP (d + 1) zq_X16_split 99 [(0, .ref m), (1, .ref f), (3, .int (g 1)), (4, .ref (m + 276 + 2 * (g 1).toNatClampNeg)), (5, .ref (m + 276 + 2 * (g 1 + 1).toNatClampNeg)), (6, .ref (m + 276 + 2 * (g 1 + 1 + 1).toNatClampNeg)), (7, .int y7_85), (8, .int y8_85)] [] (zup wL85 (m + 276 + 2 * (g 1).toNatClampNeg + 1) (.inr (0, 1000, .inl (upd f41 ((0 : Int32).toNatClampNeg) y7_85)))) sz 0 0 Post
          obtain ⟨w98, ew98⟩ : ∃ wz9, wz9 = zup wL85 (m + 276 + 2 * (g 1).toNatClampNeg + 1) (.inr (0, 1000, .inl (upd f41 ((0 : Int32).toNatClampNeg) y7_85))) := ⟨_, rfl⟩
          have hsi98 : zSI wL85 w98 := by rw [ew98]; exact zSI.arr _ hu43
          have heq98 : ∀ x, x ≠ m + 276 + 2 * (g 1).toNatClampNeg + 1 → w98 x = wL85 x := fun x hx => by rw [ew98]; exact zup_n hx
          have hc98 : w98 (m + 276 + 2 * (g 1).toNatClampNeg + 1) = some (.inr (0, 1000, .inl (upd f41 ((0 : Int32).toNatClampNeg) y7_85))) := by rw [ew98]; exact zup_s
          rw [← ew98]
          clear ew98
          refine zp_seg (pc' := 101) (lv' := [(0, .ref m), (1, .ref f), (3, .int (g 1)), (4, .ref (m + 276 + 2 * (g 1).toNatClampNeg)), (5, .ref (m + 276 + 2 * (g 1 + 1).toNatClampNeg)), (6, .ref (m + 276 + 2 * (g 1 + 1 + 1).toNatClampNeg)), (7, .int y7_85), (8, .int y8_85)]) (st' := [.ref (m + 276 + 2 * (g 1).toNatClampNeg)]) [(99, .aload 4)] (by decide +kernel) rfl ?_
          have hb46 : w98 (m + 276 + 2 * (g 1).toNatClampNeg) = some (.inl (14, [.ref (m + 276 + 2 * (g 1).toNatClampNeg + 1), .int n40])) := (heq98 (m + 276 + 2 * (g 1).toNatClampNeg) (zx_X16_split_25 hgb1)).trans hu42
          refine zr_get (idx := 30) (k := 0) (v := .ref (m + 276 + 2 * (g 1).toNatClampNeg + 1)) (by decide +kernel) (by decide +kernel) hb46 rfl ?_
          refine zp_seg (pc' := 106) (lv' := [(0, .ref m), (1, .ref f), (3, .int (g 1)), (4, .ref (m + 276 + 2 * (g 1).toNatClampNeg)), (5, .ref (m + 276 + 2 * (g 1 + 1).toNatClampNeg)), (6, .ref (m + 276 + 2 * (g 1 + 1 + 1).toNatClampNeg)), (7, .int y7_85), (8, .int y8_85)]) (st' := [.int 1, .int 1, .ref (m + 276 + 2 * (g 1).toNatClampNeg + 1)]) [(104, .iconst 1), (105, .iconst 1)] (by decide +kernel) rfl ?_
          have hl47 : (1 : Int32).toInt = 1 := by decide
          have hz48 : ((1 : Int32).toNatClampNeg : Int) = 1 := by decide
          refine zr_iast (by decide +kernel) hc98 (zin (by decide) (by decide)) ?_
          show zP (d + 1) zq_X16_split 107 [(0, .ref m), (1, .ref f), (3, .int (g 1)), (4, .ref (m + 276 + 2 * (g 1).toNatClampNeg)), (5, .ref (m + 276 + 2 * (g 1 + 1).toNatClampNeg)), (6, .ref (m + 276 + 2 * (g 1 + 1 + 1).toNatClampNeg)), (7, .int y7_85), (8, .int y8_85)] [] (zup w98 (m + 276 + 2 * (g 1).toNatClampNeg + 1) (.inr (0, 1000, .inl (upd (upd f41 ((0 : Int32).toNatClampNeg) y7_85) ((1 : Int32).toNatClampNeg) 1)))) sz 0 0 Post
          obtain ⟨w106, ew106⟩ : ∃ wz9, wz9 = zup w98 (m + 276 + 2 * (g 1).toNatClampNeg + 1) (.inr (0, 1000, .inl (upd (upd f41 ((0 : Int32).toNatClampNeg) y7_85) ((1 : Int32).toNatClampNeg) 1))) := ⟨_, rfl⟩
          have hsi106 : zSI w98 w106 := by rw [ew106]; exact zSI.arr _ hc98
          have heq106 : ∀ x, x ≠ m + 276 + 2 * (g 1).toNatClampNeg + 1 → w106 x = w98 x := fun x hx => by rw [ew106]; exact zup_n hx
          have hc106 : w106 (m + 276 + 2 * (g 1).toNatClampNeg + 1) = some (.inr (0, 1000, .inl (upd (upd f41 ((0 : Int32).toNatClampNeg) y7_85) ((1 : Int32).toNatClampNeg) 1))) := by rw [ew106]; exact zup_s
          rw [← ew106]
          clear ew106
          refine zp_seg (pc' := 110) (lv' := [(0, .ref m), (1, .ref f), (3, .int (g 1)), (4, .ref (m + 276 + 2 * (g 1).toNatClampNeg)), (5, .ref (m + 276 + 2 * (g 1 + 1).toNatClampNeg)), (6, .ref (m + 276 + 2 * (g 1 + 1 + 1).toNatClampNeg)), (7, .int y7_85), (8, .int y8_85)]) (st' := [.int 2, .ref (m + 276 + 2 * (g 1).toNatClampNeg)]) [(107, .aload 4), (109, .iconst 2)] (by decide +kernel) rfl ?_
          have hb49 : w106 (m + 276 + 2 * (g 1).toNatClampNeg) = some (.inl (14, [.ref (m + 276 + 2 * (g 1).toNatClampNeg + 1), .int n40])) := (heq106 (m + 276 + 2 * (g 1).toNatClampNeg) (zx_X16_split_25 hgb1)).trans hb46
          refine zr_put2 (idx := 25) (k := 1) (fs2 := [.ref (m + 276 + 2 * (g 1).toNatClampNeg + 1), .int 2]) (by decide +kernel) (by decide +kernel) hb49 (Nat.le_of_ble_eq_true rfl) rfl rfl rfl ?_
          show zP (d + 1) zq_X16_split 113 [(0, .ref m), (1, .ref f), (3, .int (g 1)), (4, .ref (m + 276 + 2 * (g 1).toNatClampNeg)), (5, .ref (m + 276 + 2 * (g 1 + 1).toNatClampNeg)), (6, .ref (m + 276 + 2 * (g 1 + 1 + 1).toNatClampNeg)), (7, .int y7_85), (8, .int y8_85)] [] (zup w106 (m + 276 + 2 * (g 1).toNatClampNeg) (.inl (14, [.ref (m + 276 + 2 * (g 1).toNatClampNeg + 1), .int 2]))) sz 0 0 Post
          obtain ⟨w110, ew110⟩ : ∃ wz9, wz9 = zup w106 (m + 276 + 2 * (g 1).toNatClampNeg) (.inl (14, [.ref (m + 276 + 2 * (g 1).toNatClampNeg + 1), .int 2])) := ⟨_, rfl⟩
          have hsi110 : zSI w106 w110 := by rw [ew110]; exact zSI.setU hb49
          have heq110 : ∀ x, x ≠ m + 276 + 2 * (g 1).toNatClampNeg → w110 x = w106 x := fun x hx => by rw [ew110]; exact zup_n hx
          have hc110 : w110 (m + 276 + 2 * (g 1).toNatClampNeg) = some (.inl (14, [.ref (m + 276 + 2 * (g 1).toNatClampNeg + 1), .int 2])) := by rw [ew110]; exact zup_s
          rw [← ew110]
          clear ew110
          have hb50 : w110 (m + 276 + 2 * (g 1).toNatClampNeg + 1) = some (.inr (0, 1000, .inl (upd (upd f41 ((0 : Int32).toNatClampNeg) y7_85) ((1 : Int32).toNatClampNeg) 1))) := (heq110 (m + 276 + 2 * (g 1).toNatClampNeg + 1) (zx_X16_split_26 hgb1)).trans hc106
          have hXU9 := zlineX hc110 hb50 (by decide) (show zr1 y7_85 from ⟨by omega, by omega⟩)
          have hXl9 := zlin_ln (- zf y7_85)
          refine zp_seg (pc' := 118) (lv' := [(0, .ref m), (1, .ref f), (3, .int (g 1)), (4, .ref (m + 276 + 2 * (g 1).toNatClampNeg)), (5, .ref (m + 276 + 2 * (g 1 + 1).toNatClampNeg)), (6, .ref (m + 276 + 2 * (g 1 + 1 + 1).toNatClampNeg)), (7, .int y7_85), (8, .int y8_85)]) (st' := [.ref (m + 276 + 2 * (g 1).toNatClampNeg), .ref (m + 276 + 2 * (g 1 + 1).toNatClampNeg), .ref m]) [(113, .aload_n 0), (114, .aload 5), (116, .aload 4)] (by decide +kernel) rfl ?_
          refine zr_ldc2 (idx := 817) (v := 1073741823) (by decide +kernel) (by decide +kernel) ?_
          refine zp_seg (pc' := 122) (lv' := [(0, .ref m), (1, .ref f), (3, .int (g 1)), (4, .ref (m + 276 + 2 * (g 1).toNatClampNeg)), (5, .ref (m + 276 + 2 * (g 1 + 1).toNatClampNeg)), (6, .ref (m + 276 + 2 * (g 1 + 1 + 1).toNatClampNeg)), (7, .int y7_85), (8, .int y8_85)]) (st' := [.ref f, .long 1073741823, .ref (m + 276 + 2 * (g 1).toNatClampNeg), .ref (m + 276 + 2 * (g 1 + 1).toNatClampNeg), .ref m]) [(121, .aload_n 1)] (by decide +kernel) rfl ?_
          have hb51 : w110 m = some (.inl (15, zMo m (zs g 1 (g 1 + 1 + 1 + 1)) r)) := ((heq110 m (zx_X16_split_28 hgb1)).trans ((heq106 m (zx_X16_split_27 hgb1)).trans (heq98 m (zx_X16_split_27 hgb1)))).trans hmL85
          have hb52 := hb24.si ((((hsi74.tr hsiL85).tr hsi98).tr hsi106).tr hsi110)
          have hb53 := hUo1.si ((hsi98.tr hsi106).tr hsi110)
          have hb54 : zU w110 f 1000 F := hU_f.ag (fun x hx1 hx2 => ((heq110 x (zx_X16_split_30 hx1 hx2 hof hgb1)).trans ((heq106 x (zx_X16_split_29 hx1 hx2 hof hgb1)).trans ((heq98 x (zx_X16_split_29 hx1 hx2 hof hgb1)).trans ((heqL85 x ⟨(zx_X16_split_4 hx1 hx2 hof hgb1), (zx_X16_split_5 hx1 hx2 hof hgb1)⟩).trans ((heq74 x ⟨(zx_X16_split_0 hx1 hx2 hof hgb1), (zx_X16_split_3 hx1 hx2 hof hgn1_2 hgb1)⟩).trans ((heq68 x ⟨(zx_X16_split_0 hx1 hx2 hof hgb1), (zx_X16_split_2 hx1 hx2 hof hgn1_1 hgb1)⟩).trans (heq62 x ⟨(zx_X16_split_0 hx1 hx2 hof hgb1), (zx_X16_split_1 hx1 hx2 hof hgb1)⟩))))))))
          refine zr_callV (idx := 819) (j := 419) (by decide +kernel) (by decide +kernel) (show zMe 419 = some zq_X16_powerOf from rfl) rfl rfl (Nat.le_of_ble_eq_true rfl) rfl rfl hb51 (Nat.le_of_ble_eq_true rfl) (Nat.le_of_ble_eq_true rfl) (c_X16_powerOf (w := w110) (g1 := (g 1 + 1 + 1 + 1)) m (m + 276 + 2 * (g 1 + 1).toNatClampNeg) (m + 276 + 2 * (g 1).toNatClampNeg) 1073741823 f hb51 hb52 hb53 hXU9 hb54 (by first | omega | decide | assumption | exact zr1_1 | exact zr1_0 | fail "num") (by first | omega | decide | assumption | exact zr1_1 | exact zr1_0 | fail "num") (by first | omega | decide | assumption | exact zr1_1 | exact zr1_0 | fail "num") (by first | omega | decide | assumption | exact zr1_1 | exact zr1_0 | fail "num") (by decide) (by first | omega | decide | assumption | exact zr1_1 | exact zr1_0 | fail "num") (by first | omega | decide | assumption | exact zr1_1 | exact zr1_0 | fail "num") rfl) (by omega) (fun v122 w122 hp122 => ?_)
          obtain ⟨R9_122, hsi122, heq122, hp122_0, hp122_1, rfl⟩ := hp122
          show zP _ _ _ _ [] _ _ _ _ _
          have hpw9 := hp122_1.1
          rw [zHf_e, zf_i y7_85.toNatClampNeg y7_85 (by omega)] at hpw9
          have hon9 : zaC (zf 1) = zaO := by rw [zf_1]; exact zaC_1
          have hol9 : zln (zaC (zf 1)) = 1 := by rw [hon9]; exact zln_O
          refine zp_seg (pc' := 128) (lv' := [(0, .ref m), (1, .ref f), (3, .int (g 1)), (4, .ref (m + 276 + 2 * (g 1).toNatClampNeg)), (5, .ref (m + 276 + 2 * (g 1 + 1).toNatClampNeg)), (6, .ref (m + 276 + 2 * (g 1 + 1 + 1).toNatClampNeg)), (7, .int y7_85), (8, .int y8_85)]) (st' := [.int 1, .ref (m + 276 + 2 * (g 1 + 1 + 1).toNatClampNeg)]) [(125, .aload 6), (127, .iconst 1)] (by decide +kernel) rfl ?_
          have hb55 : zU w122 (m + 276 + 2 * (g 1 + 1 + 1).toNatClampNeg) 1000 HH9 := hUh.ag (fun x hx1 hx2 => ((heq122 x ⟨(zx_X16_split_8 hx1 hx2 hgn1_1 hgn1_2 hgb1), (zx_X16_split_9 hx1 hx2 hgn1_2 hgn1_3 hgb1)⟩).trans ((heq110 x (zx_X16_split_32 hx1 hx2 hgn1_2 hgb1)).trans ((heq106 x (zx_X16_split_31 hx1 hx2 hgn1_2 hgb1)).trans (heq98 x (zx_X16_split_31 hx1 hx2 hgn1_2 hgb1))))))
          have ho128_u := zU.o hb55
          obtain ⟨n56, f57, hu58, hu59, hu60, hu61, hu62⟩ := id hb55
          have kn56 := zrng n56
          refine zr_callV (idx := 147) (j := 252) (by decide +kernel) (by decide +kernel) (show zMe 252 = some zq_X15_number from rfl) rfl rfl (Nat.le_of_ble_eq_true rfl) rfl rfl hu58 (Nat.le_of_ble_eq_true rfl) (Nat.le_of_ble_eq_true rfl) (c_X15_number (w := w122) (m + 276 + 2 * (g 1 + 1 + 1).toNatClampNeg) 1 ho128_u (by exact zr1_1) (by first | omega | decide | assumption | exact zr1_1 | exact zr1_0 | fail "num")) (by omega) (fun v128 w128 hp128 => ?_)
          obtain ⟨hsi128, heq128, hp128_0, rfl⟩ := hp128
          show zP _ _ _ _ [] _ _ _ _ _
          refine zp_seg (pc' := 138) (lv' := [(0, .ref m), (1, .ref f), (3, .int (g 1)), (4, .ref (m + 276 + 2 * (g 1).toNatClampNeg)), (5, .ref (m + 276 + 2 * (g 1 + 1).toNatClampNeg)), (6, .ref (m + 276 + 2 * (g 1 + 1 + 1).toNatClampNeg)), (7, .int y7_85), (8, .int y8_85)]) (st' := [.int 1, .ref (m + 276 + 2 * (g 1 + 1 + 1).toNatClampNeg), .ref (m + 276 + 2 * (g 1 + 1).toNatClampNeg), .ref (m + 276 + 2 * (g 1 + 1).toNatClampNeg)]) [(131, .aload 5), (133, .aload 5), (135, .aload 6), (137, .iconst 1)] (by decide +kernel) rfl ?_
          have hb63 : zU w128 (m + 276 + 2 * (g 1 + 1).toNatClampNeg) 1000 R9_122 := hp122_0.ag (fun x hx1 hx2 => (heq128 x (zx_X16_split_33 hx1 hx2 hgn1_1 hgn1_2 hgb1)))
          have ho138_to := zU.o hb63
          refine zr_callS (idx := 101) (j := 265) (by decide +kernel) (by decide +kernel) (by decide) (show zMe 265 = some zq_X16_plus from rfl) rfl rfl (Nat.le_of_ble_eq_true rfl) rfl rfl (Nat.le_of_ble_eq_true rfl) (Nat.le_of_ble_eq_true rfl) (c_X16_plusS (w := w128) (m + 276 + 2 * (g 1 + 1).toNatClampNeg) (m + 276 + 2 * (g 1 + 1).toNatClampNeg) (m + 276 + 2 * (g 1 + 1 + 1).toNatClampNeg)  ho138_to hb63 hp128_0 (by first | omega | decide | assumption | exact zr1_1 | exact zr1_0 | fail "num") (by first | omega | decide | assumption | exact zr1_1 | exact zr1_0 | fail "num")) (by omega) (fun v138 w138 hp138 => ?_)
          obtain ⟨hsi138, heq138, hp138_0, rfl⟩ := hp138
          show zP _ _ _ _ [] _ _ _ _ _
          have hsl9 := zln_S R9_122 (zaC (zf 1))
          have hgl9 := zgcd_le2 (p := zaS R9_122 (zaC (zf 1))) (q := F) (by omega)
          refine zp_seg (pc' := 147) (lv' := [(0, .ref m), (1, .ref f), (3, .int (g 1)), (4, .ref (m + 276 + 2 * (g 1).toNatClampNeg)), (5, .ref (m + 276 + 2 * (g 1 + 1).toNatClampNeg)), (6, .ref (m + 276 + 2 * (g 1 + 1 + 1).toNatClampNeg)), (7, .int y7_85), (8, .int y8_85)]) (st' := [.ref f, .ref (m + 276 + 2 * (g 1 + 1).toNatClampNeg), .ref (m + 276 + 2 * (g 1 + 1 + 1).toNatClampNeg), .ref m]) [(141, .aload_n 0), (142, .aload 6), (144, .aload 5), (146, .aload_n 1)] (by decide +kernel) rfl ?_
          have hb64 : w138 m = some (.inl (15, zMo m (zs g 1 (g 1 + 1 + 1 + 1)) r)) := ((heq138 m (zx_X16_split_6 hgn1_1 hgb1)).trans ((heq128 m (zx_X16_split_34 hgn1_2 hgb1)).trans (heq122 m ⟨(zx_X16_split_6 hgn1_1 hgb1), (zx_X16_split_7 hgn1_3 hgb1)⟩))).trans hb51
          have hb65 := hb52.si ((hsi122.tr hsi128).tr hsi138)
          have hb66 : zU w138 (m + 276 + 2 * (g 1 + 1 + 1).toNatClampNeg) 1000 (zaC (zf 1)) := hp128_0.ag (fun x hx1 hx2 => (heq138 x (zx_X16_split_8 hx1 hx2 hgn1_1 hgn1_2 hgb1)))
          have ho147_to := zU.o hb66
          have hb67 : zU w138 f 1000 F := hb54.ag (fun x hx1 hx2 => ((heq138 x (zx_X16_split_2 hx1 hx2 hof hgn1_1 hgb1)).trans ((heq128 x (zx_X16_split_3 hx1 hx2 hof hgn1_2 hgb1)).trans (heq122 x ⟨(zx_X16_split_2 hx1 hx2 hof hgn1_1 hgb1), (zx_X16_split_35 hx1 hx2 hof hgn1_3 hgb1)⟩))))
          refine zr_callV (idx := 125) (j := 270) (by decide +kernel) (by decide +kernel) (show zMe 270 = some zq_X16_gcd from rfl) rfl rfl (Nat.le_of_ble_eq_true rfl) rfl rfl hb64 (Nat.le_of_ble_eq_true rfl) (Nat.le_of_ble_eq_true rfl) (c_X16_gcd (w := w138) (g1 := (g 1 + 1 + 1 + 1)) m (m + 276 + 2 * (g 1 + 1 + 1).toNatClampNeg) (m + 276 + 2 * (g 1 + 1).toNatClampNeg) f hb64 hb65 ho147_to hp138_0 hb67 (by first | omega | decide | assumption | exact zr1_1 | exact zr1_0 | fail "num") (by first | omega | decide | assumption | exact zr1_1 | exact zr1_0 | fail "num") (by first | omega | decide | assumption | exact zr1_1 | exact zr1_0 | fail "num") (by first | omega | decide | assumption | exact zr1_1 | exact zr1_0 | fail "num") (by first | omega | decide | assumption | exact zr1_1 | exact zr1_0 | fail "num") (by first | omega | decide | assumption | exact zr1_1 | exact zr1_0 | fail "num") (by first | omega | decide | assumption | exact zr1_1 | exact zr1_0 | fail "num") rfl) (by omega) (fun v147 w147 hp147 => ?_)
          obtain ⟨hsi147, heq147, hp147_0, rfl⟩ := hp147
          show zP _ _ _ _ [] _ _ _ _ _
          refine zp_seg (pc' := 152) (lv' := [(0, .ref m), (1, .ref f), (3, .int (g 1)), (4, .ref (m + 276 + 2 * (g 1).toNatClampNeg)), (5, .ref (m + 276 + 2 * (g 1 + 1).toNatClampNeg)), (6, .ref (m + 276 + 2 * (g 1 + 1 + 1).toNatClampNeg)), (7, .int y7_85), (8, .int y8_85)]) (st' := [.ref (m + 276 + 2 * (g 1 + 1 + 1).toNatClampNeg)]) [(150, .aload 6)] (by decide +kernel) rfl ?_
          obtain ⟨n68, f69, hu70, hu71, hu72, hu73, hu74⟩ := id hp147_0
          have kn68 := zrng n68
          refine zr_get (idx := 25) (k := 1) (v := .int n68) (by decide +kernel) (by decide +kernel) hu70 rfl ?_
          refine zp_seg (pc' := 156) (lv' := [(0, .ref m), (1, .ref f), (3, .int (g 1)), (4, .ref (m + 276 + 2 * (g 1).toNatClampNeg)), (5, .ref (m + 276 + 2 * (g 1 + 1).toNatClampNeg)), (6, .ref (m + 276 + 2 * (g 1 + 1 + 1).toNatClampNeg)), (7, .int y7_85), (8, .int y8_85)]) (st' := [.int 1, .int n68]) [(155, .iconst 1)] (by decide +kernel) rfl ?_
          have hJ176 : ∀ (z0_176 : Int32), ((z0_176 = 0 ∨ z0_176 = 1)) → ((z0_176 = 1 → 1 < zln (zgcd (zaS R9_122 (zaC (zf 1))) F) ∧ zln (zgcd (zaS R9_122 (zaC (zf 1))) F) < zln F) ∧ (z0_176 = 0 → zln (zgcd (zaS R9_122 (zaC (zf 1))) F) ≤ 1 ∨ zln F ≤ zln (zgcd (zaS R9_122 (zaC (zf 1))) F))) → zP (d + 1) zq_X16_split 176 [(0, .ref m), (1, .ref f), (3, .int (g 1)), (4, .ref (m + 276 + 2 * (g 1).toNatClampNeg)), (5, .ref (m + 276 + 2 * (g 1 + 1).toNatClampNeg)), (6, .ref (m + 276 + 2 * (g 1 + 1 + 1).toNatClampNeg)), (7, .int y7_85)] [.int z0_176] w147 sz 0 0 Post := by
            intro z0_176 hi176_0 hpr9
            have kz0_176 := zrng z0_176
            refine zp_seg (pc' := 181) (lv' := [(7, .int (y7_85 + 1)), (8, .int z0_176), (0, .ref m), (1, .ref f), (3, .int (g 1)), (4, .ref (m + 276 + 2 * (g 1).toNatClampNeg)), (5, .ref (m + 276 + 2 * (g 1 + 1).toNatClampNeg)), (6, .ref (m + 276 + 2 * (g 1 + 1 + 1).toNatClampNeg))]) (st' := []) [(176, .istore 8), (178, .iinc 7 1)] (by decide +kernel) rfl ?_
            have k75 := zaddC y7_85 1 (n := 1) (by decide) (by omega) (by omega)
            generalize ev181 : (y7_85 + 1 : Int32) = v181 at k75 ⊢
            have kv181 := zrng v181
            refine zp_seg (pc' := 85) (lv' := [(7, .int v181), (8, .int z0_176), (0, .ref m), (1, .ref f), (3, .int (g 1)), (4, .ref (m + 276 + 2 * (g 1).toNatClampNeg)), (5, .ref (m + 276 + 2 * (g 1 + 1).toNatClampNeg)), (6, .ref (m + 276 + 2 * (g 1 + 1 + 1).toNatClampNeg))]) (st' := []) [(181, .goto (-96))] (by decide +kernel) rfl ?_
            have hz76 : (v181.toNatClampNeg : Int) = v181.toInt := znat (by first | omega | decide)
            have hb77 := hUo0.si ((((((hsi98.tr hsi106).tr hsi110).tr hsi122).tr hsi128).tr hsi138).tr hsi147)
            have hb78 := hb53.si (((hsi122.tr hsi128).tr hsi138).tr hsi147)
            have hb79 : w147 m = some (.inl (15, zMo m (zs g 1 (g 1 + 1 + 1 + 1)) r)) := (heq147 m ⟨(zx_X16_split_34 hgn1_2 hgb1), (zx_X16_split_7 hgn1_3 hgb1)⟩).trans hb64
            exact (ih85 w147 v181 z0_176 (zgcd (zaS R9_122 (zaC (zf 1))) F) (((((((hsiL85.tr hsi98).tr hsi106).tr hsi110).tr hsi122).tr hsi128).tr hsi138).tr hsi147) (fun x hx => ((heq147 x ⟨(zx_X16_split_22 hx.1 hgn1_2 hgb1), (zx_X16_split_24 hx.1 hgn1_3 hgb1)⟩).trans ((heq138 x (zx_X16_split_21 hx.1 hgn1_1 hgb1)).trans ((heq128 x (zx_X16_split_22 hx.1 hgn1_2 hgb1)).trans ((heq122 x ⟨(zx_X16_split_21 hx.1 hgn1_1 hgb1), (zx_X16_split_24 hx.1 hgn1_3 hgb1)⟩).trans ((heq110 x (zx_X16_split_37 hx.1 hgb1)).trans ((heq106 x (zx_X16_split_36 hx.1 hgb1)).trans ((heq98 x (zx_X16_split_36 hx.1 hgb1)).trans (heqL85 x ⟨hx.1, hx.2⟩))))))))) (by first | assumption | omega | decide) (by first | assumption | omega | decide) hb77 hb78 hp147_0 hb79 (by
                  refine ⟨fun e => ?_, fun e => ⟨(hpr9.1 e).1, (hpr9.1 e).2, R9_122, y7_85.toNatClampNeg, by omega, hpt9.1 cc87, hpw9, by rw [hon9]⟩⟩
                  have h8 := zAg_s (by omega) (hpt9.1 cc87) hpw9 (by have h9 := hpr9.2 e; rw [hon9] at h9; exact h9)
                  rw [show v181.toNatClampNeg = y7_85.toNatClampNeg + 1 by omega]
                  exact h8) (by omega)).more (zfa1 rfl (zfa1 rfl (zfa1 rfl (zfa1 rfl (zfa1 rfl (zfa1 rfl (zfa1 rfl (zfa1 rfl (zfa0)))))))))
          refine zp_if (i := .if_icmp .le 19) (c := n68 ≤ 1) (t := 175) (e := 159) (lv' := [(0, .ref m), (1, .ref f), (3, .int (g 1)), (4, .ref (m + 276 + 2 * (g 1).toNatClampNeg)), (5, .ref (m + 276 + 2 * (g 1 + 1).toNatClampNeg)), (6, .ref (m + 276 + 2 * (g 1 + 1 + 1).toNatClampNeg)), (7, .int y7_85), (8, .int y8_85)]) (st' := []) (by decide +kernel) rfl (fun cc156 => ?_) (fun cc156 => ?_)
          ·
            have f80 := zleI cc156
            rw [show (1 : Int32).toInt = 1 from by decide] at f80
            refine zp_seg (pc' := 176) (lv' := [(0, .ref m), (1, .ref f), (3, .int (g 1)), (4, .ref (m + 276 + 2 * (g 1).toNatClampNeg)), (5, .ref (m + 276 + 2 * (g 1 + 1).toNatClampNeg)), (6, .ref (m + 276 + 2 * (g 1 + 1 + 1).toNatClampNeg)), (7, .int y7_85), (8, .int y8_85)]) (st' := [.int 0]) [(175, .iconst 0)] (by decide +kernel) rfl ?_
            exact (hJ176 0 (by first | assumption | omega | decide) (by
                  first | exact ⟨fun _ => ⟨by omega, by omega⟩, fun e => absurd e (by decide)⟩ | exact ⟨fun e => absurd e (by decide), fun _ => by omega⟩)).more (zfa1 rfl (zfa1 rfl (zfa1 rfl (zfa1 rfl (zfa1 rfl (zfa1 rfl (zfa1 rfl (zfa0))))))))
          ·
            have f81 := znleI cc156
            rw [show (1 : Int32).toInt = 1 from by decide] at f81
            refine zp_seg (pc' := 161) (lv' := [(0, .ref m), (1, .ref f), (3, .int (g 1)), (4, .ref (m + 276 + 2 * (g 1).toNatClampNeg)), (5, .ref (m + 276 + 2 * (g 1 + 1).toNatClampNeg)), (6, .ref (m + 276 + 2 * (g 1 + 1 + 1).toNatClampNeg)), (7, .int y7_85), (8, .int y8_85)]) (st' := [.ref (m + 276 + 2 * (g 1 + 1 + 1).toNatClampNeg)]) [(159, .aload 6)] (by decide +kernel) rfl ?_
            refine zr_get (idx := 25) (k := 1) (v := .int n68) (by decide +kernel) (by decide +kernel) hu70 rfl ?_
            refine zp_seg (pc' := 165) (lv' := [(0, .ref m), (1, .ref f), (3, .int (g 1)), (4, .ref (m + 276 + 2 * (g 1).toNatClampNeg)), (5, .ref (m + 276 + 2 * (g 1 + 1).toNatClampNeg)), (6, .ref (m + 276 + 2 * (g 1 + 1 + 1).toNatClampNeg)), (7, .int y7_85), (8, .int y8_85)]) (st' := [.ref f, .int n68]) [(164, .aload_n 1)] (by decide +kernel) rfl ?_
            have hb82 : w147 f = some (.inl (14, [.ref (f + 1), .int n6])) := ((heq147 f ⟨(zx_X16_split_41 hof hgn1_2 hgb1), (zx_X16_split_46 hof hgn1_3 hgb1)⟩).trans ((heq138 f (zx_X16_split_40 hof hgn1_1 hgb1)).trans ((heq128 f (zx_X16_split_41 hof hgn1_2 hgb1)).trans ((heq122 f ⟨(zx_X16_split_40 hof hgn1_1 hgb1), (zx_X16_split_46 hof hgn1_3 hgb1)⟩).trans ((heq110 f (zx_X16_split_45 hof hgb1)).trans ((heq106 f (zx_X16_split_44 hof hgb1)).trans ((heq98 f (zx_X16_split_44 hof hgb1)).trans ((heqL85 f ⟨(zx_X16_split_42 hof hgb1), (zx_X16_split_43 hof hgb1)⟩).trans ((heq74 f ⟨(zx_X16_split_38 hof hgb1), (zx_X16_split_41 hof hgn1_2 hgb1)⟩).trans ((heq68 f ⟨(zx_X16_split_38 hof hgb1), (zx_X16_split_40 hof hgn1_1 hgb1)⟩).trans (heq62 f ⟨(zx_X16_split_38 hof hgb1), (zx_X16_split_39 hof hgb1)⟩))))))))))).trans hu8
            refine zr_get (idx := 25) (k := 1) (v := .int n6) (by decide +kernel) (by decide +kernel) hb82 rfl ?_
            refine zp_if (i := .if_icmp .ge 7) (c := n6 ≤ n68) (t := 175) (e := 171) (lv' := [(0, .ref m), (1, .ref f), (3, .int (g 1)), (4, .ref (m + 276 + 2 * (g 1).toNatClampNeg)), (5, .ref (m + 276 + 2 * (g 1 + 1).toNatClampNeg)), (6, .ref (m + 276 + 2 * (g 1 + 1 + 1).toNatClampNeg)), (7, .int y7_85), (8, .int y8_85)]) (st' := []) (by decide +kernel) rfl (fun cc168 => ?_) (fun cc168 => ?_)
            ·
              have f83 := zleI cc168
              refine zp_seg (pc' := 176) (lv' := [(0, .ref m), (1, .ref f), (3, .int (g 1)), (4, .ref (m + 276 + 2 * (g 1).toNatClampNeg)), (5, .ref (m + 276 + 2 * (g 1 + 1).toNatClampNeg)), (6, .ref (m + 276 + 2 * (g 1 + 1 + 1).toNatClampNeg)), (7, .int y7_85), (8, .int y8_85)]) (st' := [.int 0]) [(175, .iconst 0)] (by decide +kernel) rfl ?_
              exact (hJ176 0 (by first | assumption | omega | decide) (by
                    first | exact ⟨fun _ => ⟨by omega, by omega⟩, fun e => absurd e (by decide)⟩ | exact ⟨fun e => absurd e (by decide), fun _ => by omega⟩)).more (zfa1 rfl (zfa1 rfl (zfa1 rfl (zfa1 rfl (zfa1 rfl (zfa1 rfl (zfa1 rfl (zfa0))))))))
            ·
              have f84 := znleI cc168
              refine zp_seg (pc' := 176) (lv' := [(0, .ref m), (1, .ref f), (3, .int (g 1)), (4, .ref (m + 276 + 2 * (g 1).toNatClampNeg)), (5, .ref (m + 276 + 2 * (g 1 + 1).toNatClampNeg)), (6, .ref (m + 276 + 2 * (g 1 + 1 + 1).toNatClampNeg)), (7, .int y7_85), (8, .int y8_85)]) (st' := [.int 1]) [(171, .iconst 1), (172, .goto 4)] (by decide +kernel) rfl ?_
              exact (hJ176 1 (by first | assumption | omega | decide) (by
                    first | exact ⟨fun _ => ⟨by omega, by omega⟩, fun e => absurd e (by decide)⟩ | exact ⟨fun e => absurd e (by decide), fun _ => by omega⟩)).more (zfa1 rfl (zfa1 rfl (zfa1 rfl (zfa1 rfl (zfa1 rfl (zfa1 rfl (zfa1 rfl (zfa0))))))))
      have hl85 : (0 : Int32).toInt = 0 := by decide
      have hz86 : (from9.toNatClampNeg : Int) = from9.toInt := znat (by first | omega | decide)
      have hb87 : zU w74 (m + 276 + 2 * (g 1).toNatClampNeg) 1000 zaZ := hp62_1.ag (fun x hx1 hx2 => ((heq74 x ⟨(zx_X16_split_47 hx1 hx2 hgb1), (zx_X16_split_49 hx1 hx2 hgn1_2 hgb1)⟩).trans (heq68 x ⟨(zx_X16_split_47 hx1 hx2 hgb1), (zx_X16_split_48 hx1 hx2 hgn1_1 hgb1)⟩)))
      have hb88 : zU w74 (m + 276 + 2 * (g 1 + 1).toNatClampNeg) 1000 zaZ := hp68_1.ag (fun x hx1 hx2 => (heq74 x ⟨(zx_X16_split_17 hx1 hx2 hgn1_1 hgb1), (zx_X16_split_33 hx1 hx2 hgn1_1 hgn1_2 hgb1)⟩))
      exact (hL85 _ w74 from9 0 (zaZ) zSI.rf (fun _ _ => rfl) (by first | assumption | omega | decide) (by first | assumption | omega | decide) (zU.o hb87) (zU.o hb88) hp74_1 hM74 (by
            exact ⟨fun _ => hag, fun e => absurd e (by decide)⟩) (Nat.lt_succ_self _)).more (zfa1 rfl (zfa1 rfl (zfa1 rfl (zfa1 rfl (zfa1 rfl (zfa1 rfl (zfa1 rfl (zfa1 rfl (zfa0)))))))))
    ·
      replace cc14 := Classical.not_not.mp cc14
      have f90 := zeqI cc14
      rw [show (2 : Int32).toInt = 2 from by decide] at f90
      refine zp_seg (pc' := 18) (lv' := [(0, .ref m), (1, .ref f), (2, .int from9)]) (st' := [.ref m]) [(17, .aload_n 0)] (by decide +kernel) rfl ?_
      refine zr_get (idx := 538) (k := 62) (v := .ref (m + 274)) (by decide +kernel) (by decide +kernel) hm rfl ?_
      refine zp_seg (pc' := 23) (lv' := [(0, .ref m), (1, .ref f), (2, .int from9)]) (st' := [.ref m, .ref m, .ref (m + 274)]) [(21, .aload_n 0), (22, .dup)] (by decide +kernel) rfl ?_
      refine zr_get (idx := 814) (k := 63) (v := .int (g 63)) (by decide +kernel) (by decide +kernel) hm rfl ?_
      refine zp_seg (pc' := 29) (lv' := [(0, .ref m), (1, .ref f), (2, .int from9)]) (st' := [.int ((g 63) + 1), .ref m, .int (g 63), .ref (m + 274)]) [(26, .dup_x1), (27, .iconst 1), (28, .iadd)] (by decide +kernel) rfl ?_
      have k91 := zaddC ((g 63)) 1 (n := 1) (by decide) (by omega) (by omega)
      generalize ev29 : ((g 63) + 1 : Int32) = v29 at k91 ⊢
      have kv29 := zrng v29
      refine zr_put2 (idx := 814) (k := 63) (fs2 := zMo m (zs g 63 v29) r) (by decide +kernel) (by decide +kernel) hm (Nat.le_of_ble_eq_true rfl) rfl rfl rfl ?_
      show zP (d + 1) zq_X16_split 32 [(0, .ref m), (1, .ref f), (2, .int from9)] [.int (g 63), .ref (m + 274)] (zup w m (.inl (15, zMo m (zs g 63 v29) r))) sz 0 0 Post
      obtain ⟨w29, ew29⟩ : ∃ wz9, wz9 = zup w m (.inl (15, zMo m (zs g 63 v29) r)) := ⟨_, rfl⟩
      have hsi29 : zSI w w29 := by rw [ew29]; exact zSI.setG hm _ _
      have heq29 : ∀ x, x ≠ m → w29 x = w x := fun x hx => by rw [ew29]; exact zup_n hx
      have hc29 : w29 m = some (.inl (15, zMo m (zs g 63 v29) r)) := by rw [ew29]; exact zup_s
      rw [← ew29]
      clear ew29
      refine zp_seg (pc' := 34) (lv' := [(0, .ref m), (1, .ref f), (2, .int from9)]) (st' := [.ref f, .int 0, .int (g 63), .ref (m + 274)]) [(32, .iconst 0), (33, .aload_n 1)] (by decide +kernel) rfl ?_
      have hb92 : w29 f = some (.inl (14, [.ref (f + 1), .int n6])) := (heq29 f (zx_X16_split_43 hof hgb1)).trans hu8
      refine zr_get (idx := 30) (k := 0) (v := .ref (f + 1)) (by decide +kernel) (by decide +kernel) hb92 rfl ?_
      refine zp_seg (pc' := 38) (lv' := [(0, .ref m), (1, .ref f), (2, .int from9)]) (st' := [.int 0, .ref (f + 1), .int 0, .int (g 63), .ref (m + 274)]) [(37, .iconst 0)] (by decide +kernel) rfl ?_
      have hb93 : w29 (f + 1) = some (.inr (0, 1000, .inl f7)) := (heq29 (f + 1) (zx_X16_split_50 hof hgb1)).trans hu9
      have hl95 : (0 : Int32).toInt = 0 := by decide
      refine zr_iald (by decide +kernel) hb93 (zin (by decide) (by decide)) ?_
      have hz96 : ((0 : Int32).toNatClampNeg : Int) = 0 := by decide
      obtain ⟨x38, ex38⟩ : ∃ x9, x9 = f7 ((0 : Int32).toNatClampNeg) := ⟨_, rfl⟩
      rw [← ex38]
      have kx38 := zrng x38
      have hvx38 := hu12 ((0 : Int32).toNatClampNeg) (by omega)
      rw [← ex38] at hvx38
      have hwx38 : 0 ≤ x38.toInt ∧ x38.toInt < 2147483647 := hvx38.1
      refine zr_callS (idx := 46) (j := 256) (by decide +kernel) (by decide +kernel) (by decide) (show zMe 256 = some zq_X16_sub from rfl) rfl rfl (Nat.le_of_ble_eq_true rfl) rfl rfl (Nat.le_of_ble_eq_true rfl) (Nat.le_of_ble_eq_true rfl) (c_X16_sub (w := w29) 0 x38 (by exact zr1_0) (by exact hvx38.1)) (by omega) (fun v39 w39 hp39 => ?_)
      obtain ⟨hpw39, r39, rfl, hr39⟩ := hp39
      replace hpw39 := hpw39.symm
      subst hpw39
      have kr39 := zrng r39
      show zP _ _ _ _ [.int r39, .int (g 63), .ref (m + 274)] _ _ _ _ _
      refine zp_seg (pc' := 43) (lv' := [(0, .ref m), (1, .ref f), (2, .int from9)]) (st' := [.ref f, .int r39, .int (g 63), .ref (m + 274)]) [(42, .aload_n 1)] (by decide +kernel) rfl ?_
      refine zr_get (idx := 30) (k := 0) (v := .ref (f + 1)) (by decide +kernel) (by decide +kernel) hb92 rfl ?_
      refine zp_seg (pc' := 47) (lv' := [(0, .ref m), (1, .ref f), (2, .int from9)]) (st' := [.int 1, .ref (f + 1), .int r39, .int (g 63), .ref (m + 274)]) [(46, .iconst 1)] (by decide +kernel) rfl ?_
      have hl97 : (1 : Int32).toInt = 1 := by decide
      refine zr_iald (by decide +kernel) hb93 (zin (by decide) (by decide)) ?_
      have hz98 : ((1 : Int32).toNatClampNeg : Int) = 1 := by decide
      obtain ⟨x47, ex47⟩ : ∃ x9, x9 = f7 ((1 : Int32).toNatClampNeg) := ⟨_, rfl⟩
      rw [← ex47]
      have kx47 := zrng x47
      have hvx47 := hu12 ((1 : Int32).toNatClampNeg) (by omega)
      rw [← ex47] at hvx47
      have hwx47 : 0 ≤ x47.toInt ∧ x47.toInt < 2147483647 := hvx47.1
      refine zr_callS (idx := 13) (j := 259) (by decide +kernel) (by decide +kernel) (by decide) (show zMe 259 = some zq_X16_inv from rfl) rfl rfl (Nat.le_of_ble_eq_true rfl) rfl rfl (Nat.le_of_ble_eq_true rfl) (Nat.le_of_ble_eq_true rfl) (c_X16_inv (w := w29) x47 (by exact hvx47.1)) (by omega) (fun v48 w48 hp48 => ?_)
      obtain ⟨hpw48, r48, rfl, hr48⟩ := hp48
      replace hpw48 := hpw48.symm
      subst hpw48
      have kr48 := zrng r48
      show zP _ _ _ _ [.int r48, .int r39, .int (g 63), .ref (m + 274)] _ _ _ _ _
      refine zr_callS (idx := 56) (j := 257) (by decide +kernel) (by decide +kernel) (by decide) (show zMe 257 = some zq_X16_mul from rfl) rfl rfl (Nat.le_of_ble_eq_true rfl) rfl rfl (Nat.le_of_ble_eq_true rfl) (Nat.le_of_ble_eq_true rfl) (c_X16_mul (w := w29) r39 r48 (by exact hr39.1) (by exact hr48.1)) (by omega) (fun v51 w51 hp51 => ?_)
      obtain ⟨hpw51, r51, rfl, hr51⟩ := hp51
      replace hpw51 := hpw51.symm
      subst hpw51
      have kr51 := zrng r51
      show zP _ _ _ _ [.int r51, .int (g 63), .ref (m + 274)] _ _ _ _ _
      have hb99 : w29 (m + 274) = some (.inr (0, 30, .inl ff)) := (heq29 (m + 274) (zx_X16_split_15)).trans hA_m_274
      refine zr_iast (by decide +kernel) hb99 (zin (by first | omega | decide) (by first | omega | decide)) ?_
      show zP (d + 1) zq_X16_split 55 [(0, .ref m), (1, .ref f), (2, .int from9)] [] (zup w29 (m + 274) (.inr (0, 30, .inl (upd ff ((g 63).toNatClampNeg) r51)))) sz 0 0 Post
      obtain ⟨w54, ew54⟩ : ∃ wz9, wz9 = zup w29 (m + 274) (.inr (0, 30, .inl (upd ff ((g 63).toNatClampNeg) r51))) := ⟨_, rfl⟩
      have hsi54 : zSI w29 w54 := by rw [ew54]; exact zSI.arr _ hb99
      have heq54 : ∀ x, x ≠ m + 274 → w54 x = w29 x := fun x hx => by rw [ew54]; exact zup_n hx
      have hc54 : w54 (m + 274) = some (.inr (0, 30, .inl (upd ff ((g 63).toNatClampNeg) r51))) := by rw [ew54]; exact zup_s
      rw [← ew54]
      clear ew54
      have hb100 : w54 m = some (.inl (15, zMo m (zs g 63 v29) r)) := (heq54 m (zx_X16_split_51)).trans hc29
      have hoffend : ∀ x, (x < m ∨ m + 1 ≤ x) ∧ (x < m + 274 ∨ m + 274 + 1 ≤ x) ∧ (x < m + 276 + 2 * (g 1).toNatClampNeg ∨ m + 276 + 2 * (g 1).toNatClampNeg + (320 - 2 * (g 1).toNatClampNeg) ≤ x) → w54 x = w x := fun x hx => ((heq54 x (zx_X16_split_52 hx.2.1)).trans (heq29 x (zx_X16_split_23 hx.1)))
      refine zr_retV (by decide +kernel) rfl ?_
      rw [← hPost]; exact ⟨rfl, _, rfl, v29, (upd ff ((g 63).toNatClampNeg) r51), (hsi29.tr hsi54), hoffend, hb100, hc54, (by
            first
            | exact ⟨by omega, hff⟩
            | exact ⟨by omega, hp206_2.2⟩
            | (refine ⟨by omega, fun i hi => ?_⟩
               by_cases e : i = (g 63).toNatClampNeg
               · rw [e, zupd_s]; exact hr51.1
               · rw [zupd_n _ _ e]; exact hff i (by omega))), rfl⟩
  ·
    have f102 := znltI cc5
    rw [show (1 : Int32).toInt = 1 from by decide] at f102
    have hoffend : ∀ x, (x < m ∨ m + 1 ≤ x) ∧ (x < m + 274 ∨ m + 274 + 1 ≤ x) ∧ (x < m + 276 + 2 * (g 1).toNatClampNeg ∨ m + 276 + 2 * (g 1).toNatClampNeg + (320 - 2 * (g 1).toNatClampNeg) ≤ x) → w x = w x := fun x hx => rfl
    refine zr_retV (by decide +kernel) rfl ?_
    rw [← hPost]; exact ⟨rfl, _, rfl, (g 63), ff, zSI.rf, hoffend, hm, hA_m_274, (by
          first
          | exact ⟨by omega, hff⟩
          | exact ⟨by omega, hp206_2.2⟩
          | (refine ⟨by omega, fun i hi => ?_⟩
             by_cases e : i = (g 63).toNatClampNeg
             · rw [e, zupd_s]; exact hr51.1
             · rw [zupd_n _ _ e]; exact hff i (by omega))), rfl⟩
